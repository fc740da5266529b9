/-! the component: sheets told, drawn, taken, weighed -/
theorem pOc_cg {f g : Nat → Int32} (h : ∀ s, s < 16 → f s = g s) : ∀ n s, s < 16 → pOc f n s = pOc g n s
  | 0, _, _ => rfl
  | n + 1, s, hs => by
    simp only [pOc]
    rw [h s hs]
    split
    · exact pOc_cg h n _ (by have := pLo_le (g s) s s; omega)
    · rfl
theorem pOld_cg {f g : Nat → Int32} (h : ∀ s, s < 16 → f s = g s) : ∀ n s, s < 16 → pOld f n s = pOld g n s
  | 0, _, _ => rfl
  | n + 1, s, hs => by
    simp only [pOld]
    rw [h s hs]
    split
    · exact pOld_cg h n _ (by have := pLo_le (g s) s s; omega)
    · rfl
theorem old_eq (f : Nat → Int32) (r : Nat → Int32) (nh : Nat) (h : ∀ s, s < 16 → f s = (mMH r nh s).1) (s : Nat) (hs : s < 16) : pOc f 16 s = pOld (fun s => (mMH r nh s).1) s s := by
  obtain ⟨g, hg⟩ : ∃ g : Nat → Int32, g = fun s => if s < 16 then (mMH r nh s).1 else 65536 := ⟨_, rfl⟩
  have g1 : ∀ s, s < 16 → g s = (mMH r nh s).1 := fun s hs => by rw [hg]; exact if_pos hs
  have g2 : ∀ s, ¬ s < 16 → g s = 65536 := fun s hs => by rw [hg]; exact if_neg hs
  have e1 : pOc f 16 s = pOc g 16 s := pOc_cg (fun s hs => (h s hs).trans (g1 s hs).symm) 16 s hs
  have e2 : pOc g 16 s = pOld g 16 s := pOc_pOld g (fun s => by
    by_cases hs : s < 16
    · rw [g1 s hs]; exact z16 (fun i h1 h2 => pMH_hi (rSl r) s _ _ s (by omega) i h1 h2)
    · rw [g2 s hs]; decide) 16 s
  have e3 : pOld g 16 s = pOld g s s := pOld_fuel g (fun s => by
    by_cases hs : s < 16
    · rw [g1 s hs]
      intro hz
      have hb := zshr0 (x := (mMH r nh s).1) (i := 16) (by decide) hz
      rcases pMH_bit (rSl r) s (pSBm r nh (rSo r s) (rSn r s)) (zb28 (rSl r s) 28 + r 779) s (by omega) with g | ⟨i, hi, g⟩
      · rw [hb] at g; cases g
      · have hh : ∀ b : Int32, ∀ k, k ≤ s → (∃ i, i < s ∧ s - k ≤ i ∧ zhas b (nI i)) → pLo b s k < s := by
          intro b k
          induction k with
          | zero => intro _ ⟨i, h1, h2, _⟩; omega
          | succ k ih =>
            intro hk ⟨i, h1, h2, h3⟩
            simp only [pLo]
            split
            · omega
            · next hn =>
              refine ih (by omega) ⟨i, h1, ?_, h3⟩
              by_cases e : i = s - (k + 1)
              · subst e; exact absurd h3 hn
              · omega
        exact hh _ s (Nat.le_refl s) ⟨i, hi, by omega, (zhas_bit _ (by omega)).mpr g⟩
    · rw [g2 s hs]
      intro hz
      exact absurd hz (by decide)) s 16 (by omega)
  rw [e1, e2, e3]
  exact pOld_cg g1 s s hs
section
variable {E : zE} {σ : zH} {c : Nat} {K : zDc}
theorem k_Ddraw (h : dAt σ c K) {no ns nh ng : Nat} {ml mk : Nat → Nat} {r : Nat → Int32} (ok : mOk r no ns nh ng ml mk) (ok2 : mOk2 r ns) (hs : sRl K.n r ml) (o : Nat) (night : Int32) (lw : Nat) (hlw : rOl r o = nI lw) (hl4 : lw < 4) (w dk g air : Nat) (hw : w < 4) (hdk : dk < 16) (hg : g < 4) (ha : air < 5) (ho : o < no) (hv : (zr (nI o) no ∧ pLast (rSn r) ns ≤ night.toInt ∧ night.toInt ≤ 999)) (hns : ns < 16) : zX E YD_draw 6 [.ref c, .int (nI o), .int night, .int (nI w), .int (nI dk), .int (nI g), .int (nI air)] (σ) (some (.int (nI ns))) (fun s => zsm σ s c (c + 134) ∧ ∃ Pc Ey : zMo, dAt s c (((K.sp Pc).se Ey).sn (K.n.sb ((((K.n.b.sA 2 (va_up (K.n.b.1 2) ns (nI o))).sA 3 (va_up (K.n.b.1 3) ns night)).sA 4 (va_up (K.n.b.1 4) ns (mDw (fun j => r (372 + 40 * lw + j)) (ml lw) (mSeen (mPic r w (nI dk)) g air) g (pSHm r nh ns (nI o) night) mk))).sI 1 (nI (ns + 1)))))) := by
  refine zX.of oD_draw (by decide +kernel) rfl rfl (fun n => ?_)
  have b0 := (kN0 ok hs).2
  have b1 := (kN1 ok hs).2
  have hlo : K.n.b.1 0 o = nI lw := ((hs.2.2.2.1.1 o (by omega)).1).trans hlw
  refine zj_aload_n 0 rfl rfl rfl ?_
  refine zj_get 1 rfl rfl h.1 rfl ?_
  refine zj_get 2 rfl rfl h.2.1.1 rfl ?_
  refine zj_astore 3 rfl rfl ?_
  refine zj_aload 4 rfl rfl rfl ?_
  refine zj_iload_n 5 rfl rfl rfl ?_
  refine zj_iload_n 6 rfl rfl rfl ?_
  refine zj_cvx 7 rfl rfl lk_7_141 ckBk_takesSheet (k_takesSheet h.2.1.2.2.2.2.2.2.1 no (kN0 ok hs).1 (kN0 ok hs).2 ns (kN1 ok hs).1 (kN1 ok hs).2 _ _) rfl h.2.1.2.2.2.2.2.2.1.1 rfl rfl rfl ?_
  refine zj_if_eq 8 rfl rfl (fun c16 => ?_) (fun c16 => ?_)
  · exact absurd ((tk_iff ok ok2 hs _ _).mpr hv) (zo_0.mp c16)
  · refine zj_iload_n 9 rfl rfl rfl ?_
    refine zj_iload 10 rfl rfl rfl ?_
    refine zj_iload 11 rfl rfl rfl ?_
    refine zj_iload 12 rfl rfl rfl ?_
    refine zj_csx 13 rfl rfl lk_7_68 ckD_isView (k_isView _ _ _ _) rfl rfl rfl rfl ?_
    refine zj_if_ne 14 rfl rfl (fun c29 => ?_) (fun c29 => ?_)
    · refine zj_aload_n 17 rfl rfl rfl ?_
      refine zj_aload 18 rfl rfl rfl ?_
      refine zj_get 19 rfl rfl h.2.1.2.2.2.2.2.2.1.1 rfl ?_
      refine zj_iload_n 20 rfl rfl rfl ?_
      refine zn_iald 21 (o) rfl rfl h.2.1.2.2.2.2.2.2.1.2.1 rfl (by omega) (by decide) ?_
      refine zj_iload_n 22 rfl rfl rfl ?_
      refine zj_iload 23 rfl rfl rfl ?_
      refine zj_iload 24 rfl rfl rfl ?_
      refine zj_iload 25 rfl rfl rfl ?_
      rw [hlo]
      refine zj_cvvX 26 rfl rfl lk_7_113 ckD_look (k_Dlook h ok ok2 hs lw w dk g air hl4 hw hdk hg ha) rfl h.1 rfl rfl rfl (fun s1 hP1 => ?_)
      obtain ⟨e1, P1, Y1, h1, q1⟩ := hP1
      refine zj_aload 27 rfl rfl rfl ?_
      refine zj_iload_n 28 rfl rfl rfl ?_
      refine zj_iload_n 29 rfl rfl rfl ?_
      refine zj_aload_n 30 rfl rfl rfl ?_
      refine zj_get 31 rfl rfl h1.1 rfl ?_
      refine zj_aload 32 rfl rfl rfl ?_
      refine zj_iload_n 33 rfl rfl rfl ?_
      refine zj_iload_n 34 rfl rfl rfl ?_
      refine zj_cvx 35 rfl rfl lk_7_150 ckBk_linesShown (k_linesShown h1.2.1.2.2.2.2.2.2.1 ns (kN1 ok hs).1 (kN1 ok hs).2 nh (kN2 ok hs).1 (kN2 ok hs).2 _ _) rfl h1.2.1.2.2.2.2.2.2.1.1 rfl rfl rfl ?_
      refine zj_cvx 36 rfl rfl lk_7_117 ckEy_linesIfShown (k_linesIfShown h1.2.2.2.2.2.1 _) rfl h1.2.2.2.2.2.1.1 rfl rfl rfl ?_
      rw [q1, bk_sh (hs.2.2.2.1) (kN1 ok hs).2 (kN2 ok hs).2]
      refine zj_cvx 37 rfl rfl lk_7_144 ckBk_addSheet (kSht h1 _ _ _ ns (kN1 ok hs).1 hns) rfl h1.2.1.2.2.2.2.2.2.1.1 rfl rfl rfl ?_
      refine zj_ireturn 38 rfl rfl rfl ?_
      exact ⟨rfl, rfl, e1.trans (zkb_sm.wide (by omega) (by omega)), P1, Y1, h1.B _⟩
    · exact absurd ⟨zr_of (n := 4) (by omega) (by decide), zr_of (n := 16) (by omega) (by decide), zr_of (n := 4) (by omega) (by decide), zr_of (n := 5) (by omega) (by decide)⟩ (zo_0.mp c29)
theorem k_Ddraw_full (h : dAt σ c K) {no ns nh ng : Nat} {ml mk : Nat → Nat} {r : Nat → Int32} (ok : mOk r no ns nh ng ml mk) (ok2 : mOk2 r ns) (hs : sRl K.n r ml) (o : Nat) (night : Int32) (lw : Nat) (hlw : rOl r o = nI lw) (hl4 : lw < 4) (w dk g air : Nat) (hw : w < 4) (hdk : dk < 16) (hg : g < 4) (ha : air < 5) (ho : o < no) (hv : (zr (nI o) no ∧ pLast (rSn r) ns ≤ night.toInt ∧ night.toInt ≤ 999)) (hns : ns = 16) : zX E YD_draw 6 [.ref c, .int (nI o), .int night, .int (nI w), .int (nI dk), .int (nI g), .int (nI air)] (σ) (some (.int (-4))) (dQ σ c K) := by
  refine zX.of oD_draw (by decide +kernel) rfl rfl (fun n => ?_)
  have b0 := (kN0 ok hs).2
  have b1 := (kN1 ok hs).2
  have hlo : K.n.b.1 0 o = nI lw := ((hs.2.2.2.1.1 o (by omega)).1).trans hlw
  refine zj_aload_n 0 rfl rfl rfl ?_
  refine zj_get 1 rfl rfl h.1 rfl ?_
  refine zj_get 2 rfl rfl h.2.1.1 rfl ?_
  refine zj_astore 3 rfl rfl ?_
  refine zj_aload 4 rfl rfl rfl ?_
  refine zj_iload_n 5 rfl rfl rfl ?_
  refine zj_iload_n 6 rfl rfl rfl ?_
  refine zj_cvx 7 rfl rfl lk_7_141 ckBk_takesSheet (k_takesSheet h.2.1.2.2.2.2.2.2.1 no (kN0 ok hs).1 (kN0 ok hs).2 ns (kN1 ok hs).1 (kN1 ok hs).2 _ _) rfl h.2.1.2.2.2.2.2.2.1.1 rfl rfl rfl ?_
  refine zj_if_eq 8 rfl rfl (fun c16 => ?_) (fun c16 => ?_)
  · exact absurd ((tk_iff ok ok2 hs _ _).mpr hv) (zo_0.mp c16)
  · refine zj_iload_n 9 rfl rfl rfl ?_
    refine zj_iload 10 rfl rfl rfl ?_
    refine zj_iload 11 rfl rfl rfl ?_
    refine zj_iload 12 rfl rfl rfl ?_
    refine zj_csx 13 rfl rfl lk_7_68 ckD_isView (k_isView _ _ _ _) rfl rfl rfl rfl ?_
    refine zj_if_ne 14 rfl rfl (fun c29 => ?_) (fun c29 => ?_)
    · refine zj_aload_n 17 rfl rfl rfl ?_
      refine zj_aload 18 rfl rfl rfl ?_
      refine zj_get 19 rfl rfl h.2.1.2.2.2.2.2.2.1.1 rfl ?_
      refine zj_iload_n 20 rfl rfl rfl ?_
      refine zn_iald 21 (o) rfl rfl h.2.1.2.2.2.2.2.2.1.2.1 rfl (by omega) (by decide) ?_
      refine zj_iload_n 22 rfl rfl rfl ?_
      refine zj_iload 23 rfl rfl rfl ?_
      refine zj_iload 24 rfl rfl rfl ?_
      refine zj_iload 25 rfl rfl rfl ?_
      rw [hlo]
      refine zj_cvvX 26 rfl rfl lk_7_113 ckD_look (k_Dlook h ok ok2 hs lw w dk g air hl4 hw hdk hg ha) rfl h.1 rfl rfl rfl (fun s1 hP1 => ?_)
      obtain ⟨e1, P1, Y1, h1, q1⟩ := hP1
      refine zj_aload 27 rfl rfl rfl ?_
      refine zj_iload_n 28 rfl rfl rfl ?_
      refine zj_iload_n 29 rfl rfl rfl ?_
      refine zj_aload_n 30 rfl rfl rfl ?_
      refine zj_get 31 rfl rfl h1.1 rfl ?_
      refine zj_aload 32 rfl rfl rfl ?_
      refine zj_iload_n 33 rfl rfl rfl ?_
      refine zj_iload_n 34 rfl rfl rfl ?_
      refine zj_cvx 35 rfl rfl lk_7_150 ckBk_linesShown (k_linesShown h1.2.1.2.2.2.2.2.2.1 ns (kN1 ok hs).1 (kN1 ok hs).2 nh (kN2 ok hs).1 (kN2 ok hs).2 _ _) rfl h1.2.1.2.2.2.2.2.2.1.1 rfl rfl rfl ?_
      refine zj_cvx 36 rfl rfl lk_7_117 ckEy_linesIfShown (k_linesIfShown h1.2.2.2.2.2.1 _) rfl h1.2.2.2.2.2.1.1 rfl rfl rfl ?_
      rw [q1, bk_sh (hs.2.2.2.1) (kN1 ok hs).2 (kN2 ok hs).2]
      refine zj_cvx 37 rfl rfl lk_7_144 ckBk_addSheet (kShtF h1 _ _ _ ((kN1 ok hs).1.trans (by rw [hns]))) rfl h1.2.1.2.2.2.2.2.2.1.1 rfl rfl rfl ?_
      refine zj_ireturn 38 rfl rfl rfl ?_
      exact ⟨rfl, rfl, e1, _, h1, ⟨rfl, rfl, rfl, rfl, rfl⟩⟩
    · exact absurd ⟨zr_of (n := 4) (by omega) (by decide), zr_of (n := 16) (by omega) (by decide), zr_of (n := 4) (by omega) (by decide), zr_of (n := 5) (by omega) (by decide)⟩ (zo_0.mp c29)
theorem k_Ddraw_bad (h : dAt σ c K) {no ns nh ng : Nat} {ml mk : Nat → Nat} {r : Nat → Int32} (ok : mOk r no ns nh ng ml mk) (ok2 : mOk2 r ns) (hs : sRl K.n r ml) (o night w dk g air : Int32) (hv : ¬ ((zr o no ∧ pLast (rSn r) ns ≤ night.toInt ∧ night.toInt ≤ 999) ∧ (zr w 4 ∧ zr dk 16 ∧ zr g 4 ∧ zr air 5))) : zM E YD_draw 6 [.ref c, .int o, .int night, .int w, .int dk, .int g, .int air] (σ) (some (.int (-2))) (σ) := by
  refine zM.of oD_draw (by decide +kernel) rfl rfl (fun n => ?_)
  refine zj_aload_n 0 rfl rfl rfl ?_
  refine zj_get 1 rfl rfl h.1 rfl ?_
  refine zj_get 2 rfl rfl h.2.1.1 rfl ?_
  refine zj_astore 3 rfl rfl ?_
  refine zj_aload 4 rfl rfl rfl ?_
  refine zj_iload_n 5 rfl rfl rfl ?_
  refine zj_iload_n 6 rfl rfl rfl ?_
  refine zj_cvx 7 rfl rfl lk_7_141 ckBk_takesSheet (k_takesSheet h.2.1.2.2.2.2.2.2.1 no (kN0 ok hs).1 (kN0 ok hs).2 ns (kN1 ok hs).1 (kN1 ok hs).2 _ _) rfl h.2.1.2.2.2.2.2.2.1.1 rfl rfl rfl ?_
  refine zj_if_eq 8 rfl rfl (fun c16 => ?_) (fun c16 => ?_)
  · refine zj_bipush 15 (-2) rfl rfl (by decide) ?_
    refine zj_ireturn 16 rfl rfl rfl ?_
    exact ⟨rfl, rfl, rfl⟩
  · refine zj_iload_n 9 rfl rfl rfl ?_
    refine zj_iload 10 rfl rfl rfl ?_
    refine zj_iload 11 rfl rfl rfl ?_
    refine zj_iload 12 rfl rfl rfl ?_
    refine zj_csx 13 rfl rfl lk_7_68 ckD_isView (k_isView _ _ _ _) rfl rfl rfl rfl ?_
    refine zj_if_ne 14 rfl rfl (fun c29 => ?_) (fun c29 => ?_)
    · exact absurd ⟨(tk_iff ok ok2 hs _ _).mp (zo_n0.mp c16), zo_n0.mp c29⟩ hv
    · refine zj_bipush 15 (-2) rfl rfl (by decide) ?_
      refine zj_ireturn 16 rfl rfl rfl ?_
      exact ⟨rfl, rfl, rfl⟩
theorem k_Dof0 (h : dAt σ c K) {no ns nh ng : Nat} {ml mk : Nat → Nat} {r : Nat → Int32} (ok : mOk r no ns nh ng ml mk) (hs : sRl K.n r ml) (s : Nat) (hs0 : s < ns) : zM E YD_of 5 [.ref c, .int (nI s), .int (nI 0)] (σ) (some (.int (rSl r s))) (σ) := by
  refine zM.of oD_of (by decide +kernel) rfl rfl (fun n => ?_)
  have b1 := (kN1 ok hs).2
  refine zj_aload_n 0 rfl rfl rfl ?_
  refine zj_get 1 rfl rfl h.1 rfl ?_
  refine zj_get 2 rfl rfl h.2.1.1 rfl ?_
  refine zj_astore_n 3 rfl rfl ?_
  refine zj_iload_n 4 rfl rfl rfl ?_
  refine zj_aload_n 5 rfl rfl rfl ?_
  refine zj_get 6 rfl rfl h.2.1.2.2.2.2.2.2.1.1 rfl ?_
  refine zj_csx 7 rfl rfl lk_7_42 ckD_isOneOf (k_isOne _ ns (kN1 ok hs).1 (by have := (kN1 ok hs).2; omega)) rfl rfl rfl rfl ?_
  refine zj_if_eq 8 rfl rfl (fun c16 => ?_) (fun c16 => ?_)
  · exact absurd (zr_of (n := ns) hs0 (by have := (kN1 ok hs).2; omega)) (zo_0.mp c16)
  · refine zj_iload_n 9 rfl rfl rfl ?_
    refine zj_iconst 10 (4) rfl rfl (by decide) ?_
    refine zj_csx 11 rfl rfl lk_7_42 ckD_isOneOf (k_isOneOf _ _) rfl rfl rfl rfl ?_
    refine zj_if_ne 12 rfl rfl (fun c24 => ?_) (fun c24 => ?_)
    · refine zj_iload_n 15 rfl rfl rfl ?_
      refine zj_tsw (t := 56) 16 rfl rfl (by decide +kernel) (by decide +kernel) ?_
      refine zj_aload_n 17 rfl rfl rfl ?_
      refine zj_get 18 rfl rfl h.2.1.2.2.2.2.2.2.1.1 rfl ?_
      refine zj_iload_n 19 rfl rfl rfl ?_
      refine zn_iald 20 (s) rfl rfl h.2.1.2.2.2.2.2.2.1.2.2.2.2.2.1 rfl (by omega) (by decide) ?_
      refine zj_ireturn 21 rfl rfl rfl ?_
      exact ⟨zrt (hs.2.2.2.1.2.1 s (by omega)).2.2, rfl, rfl⟩
    · exact absurd (zr_of (n := 4) (by omega) (by decide)) (zo_0.mp c24)
theorem k_Dof1 (h : dAt σ c K) {no ns nh ng : Nat} {ml mk : Nat → Nat} {r : Nat → Int32} (ok : mOk r no ns nh ng ml mk) (hs : sRl K.n r ml) (s : Nat) (hs0 : s < ns) : zM E YD_of 5 [.ref c, .int (nI s), .int (nI 1)] (σ) (some (.int (rSo r s))) (σ) := by
  refine zM.of oD_of (by decide +kernel) rfl rfl (fun n => ?_)
  have b1 := (kN1 ok hs).2
  refine zj_aload_n 0 rfl rfl rfl ?_
  refine zj_get 1 rfl rfl h.1 rfl ?_
  refine zj_get 2 rfl rfl h.2.1.1 rfl ?_
  refine zj_astore_n 3 rfl rfl ?_
  refine zj_iload_n 4 rfl rfl rfl ?_
  refine zj_aload_n 5 rfl rfl rfl ?_
  refine zj_get 6 rfl rfl h.2.1.2.2.2.2.2.2.1.1 rfl ?_
  refine zj_csx 7 rfl rfl lk_7_42 ckD_isOneOf (k_isOne _ ns (kN1 ok hs).1 (by have := (kN1 ok hs).2; omega)) rfl rfl rfl rfl ?_
  refine zj_if_eq 8 rfl rfl (fun c16 => ?_) (fun c16 => ?_)
  · exact absurd (zr_of (n := ns) hs0 (by have := (kN1 ok hs).2; omega)) (zo_0.mp c16)
  · refine zj_iload_n 9 rfl rfl rfl ?_
    refine zj_iconst 10 (4) rfl rfl (by decide) ?_
    refine zj_csx 11 rfl rfl lk_7_42 ckD_isOneOf (k_isOneOf _ _) rfl rfl rfl rfl ?_
    refine zj_if_ne 12 rfl rfl (fun c24 => ?_) (fun c24 => ?_)
    · refine zj_iload_n 15 rfl rfl rfl ?_
      refine zj_tsw (t := 63) 16 rfl rfl (by decide +kernel) (by decide +kernel) ?_
      refine zj_aload_n 22 rfl rfl rfl ?_
      refine zj_get 23 rfl rfl h.2.1.2.2.2.2.2.2.1.1 rfl ?_
      refine zj_iload_n 24 rfl rfl rfl ?_
      refine zn_iald 25 (s) rfl rfl h.2.1.2.2.2.2.2.2.1.2.2.2.1 rfl (by omega) (by decide) ?_
      refine zj_ireturn 26 rfl rfl rfl ?_
      exact ⟨zrt (hs.2.2.2.1.2.1 s (by omega)).1, rfl, rfl⟩
    · exact absurd (zr_of (n := 4) (by omega) (by decide)) (zo_0.mp c24)
theorem k_Dof2 (h : dAt σ c K) {no ns nh ng : Nat} {ml mk : Nat → Nat} {r : Nat → Int32} (ok : mOk r no ns nh ng ml mk) (hs : sRl K.n r ml) (s : Nat) (hs0 : s < ns) : zM E YD_of 5 [.ref c, .int (nI s), .int (nI 2)] (σ) (some (.int (rSn r s))) (σ) := by
  refine zM.of oD_of (by decide +kernel) rfl rfl (fun n => ?_)
  have b1 := (kN1 ok hs).2
  refine zj_aload_n 0 rfl rfl rfl ?_
  refine zj_get 1 rfl rfl h.1 rfl ?_
  refine zj_get 2 rfl rfl h.2.1.1 rfl ?_
  refine zj_astore_n 3 rfl rfl ?_
  refine zj_iload_n 4 rfl rfl rfl ?_
  refine zj_aload_n 5 rfl rfl rfl ?_
  refine zj_get 6 rfl rfl h.2.1.2.2.2.2.2.2.1.1 rfl ?_
  refine zj_csx 7 rfl rfl lk_7_42 ckD_isOneOf (k_isOne _ ns (kN1 ok hs).1 (by have := (kN1 ok hs).2; omega)) rfl rfl rfl rfl ?_
  refine zj_if_eq 8 rfl rfl (fun c16 => ?_) (fun c16 => ?_)
  · exact absurd (zr_of (n := ns) hs0 (by have := (kN1 ok hs).2; omega)) (zo_0.mp c16)
  · refine zj_iload_n 9 rfl rfl rfl ?_
    refine zj_iconst 10 (4) rfl rfl (by decide) ?_
    refine zj_csx 11 rfl rfl lk_7_42 ckD_isOneOf (k_isOneOf _ _) rfl rfl rfl rfl ?_
    refine zj_if_ne 12 rfl rfl (fun c24 => ?_) (fun c24 => ?_)
    · refine zj_iload_n 15 rfl rfl rfl ?_
      refine zj_tsw (t := 70) 16 rfl rfl (by decide +kernel) (by decide +kernel) ?_
      refine zj_aload_n 27 rfl rfl rfl ?_
      refine zj_get 28 rfl rfl h.2.1.2.2.2.2.2.2.1.1 rfl ?_
      refine zj_iload_n 29 rfl rfl rfl ?_
      refine zn_iald 30 (s) rfl rfl h.2.1.2.2.2.2.2.2.1.2.2.2.2.1 rfl (by omega) (by decide) ?_
      refine zj_ireturn 31 rfl rfl rfl ?_
      exact ⟨zrt (hs.2.2.2.1.2.1 s (by omega)).2.1, rfl, rfl⟩
    · exact absurd (zr_of (n := 4) (by omega) (by decide)) (zo_0.mp c24)
theorem k_Dof3 (h : dAt σ c K) {no ns nh ng : Nat} {ml mk : Nat → Nat} {r : Nat → Int32} (ok : mOk r no ns nh ng ml mk) (hs : sRl K.n r ml) (s : Nat) (hs0 : s < ns) : zM E YD_of 5 [.ref c, .int (nI s), .int (nI 3)] (σ) (some (.int (pSHm r nh ns (rSo r s) (rSn r s)))) (σ) := by
  refine zM.of oD_of (by decide +kernel) rfl rfl (fun n => ?_)
  have b1 := (kN1 ok hs).2
  refine zj_aload_n 0 rfl rfl rfl ?_
  refine zj_get 1 rfl rfl h.1 rfl ?_
  refine zj_get 2 rfl rfl h.2.1.1 rfl ?_
  refine zj_astore_n 3 rfl rfl ?_
  refine zj_iload_n 4 rfl rfl rfl ?_
  refine zj_aload_n 5 rfl rfl rfl ?_
  refine zj_get 6 rfl rfl h.2.1.2.2.2.2.2.2.1.1 rfl ?_
  refine zj_csx 7 rfl rfl lk_7_42 ckD_isOneOf (k_isOne _ ns (kN1 ok hs).1 (by have := (kN1 ok hs).2; omega)) rfl rfl rfl rfl ?_
  refine zj_if_eq 8 rfl rfl (fun c16 => ?_) (fun c16 => ?_)
  · exact absurd (zr_of (n := ns) hs0 (by have := (kN1 ok hs).2; omega)) (zo_0.mp c16)
  · refine zj_iload_n 9 rfl rfl rfl ?_
    refine zj_iconst 10 (4) rfl rfl (by decide) ?_
    refine zj_csx 11 rfl rfl lk_7_42 ckD_isOneOf (k_isOneOf _ _) rfl rfl rfl rfl ?_
    refine zj_if_ne 12 rfl rfl (fun c24 => ?_) (fun c24 => ?_)
    · refine zj_iload_n 15 rfl rfl rfl ?_
      refine zj_tsw (t := 77) 16 rfl rfl (by decide +kernel) (by decide +kernel) ?_
      refine zj_aload_n 32 rfl rfl rfl ?_
      refine zj_iload_n 33 rfl rfl rfl ?_
      refine zj_cvx 34 rfl rfl lk_7_171 ckBk_linesShownBefore (k_linesShownBefore h.2.1.2.2.2.2.2.2.1 ns (kN1 ok hs).1 (kN1 ok hs).2 nh (kN2 ok hs).1 (kN2 ok hs).2 _ (by omega)) rfl h.2.1.2.2.2.2.2.2.1.1 rfl rfl rfl ?_
      refine zj_ireturn 35 rfl rfl rfl ?_
      refine ⟨zrt ?_, rfl, rfl⟩
      rw [bk_sh (hs.2.2.2.1) (kN1 ok hs).2 (kN2 ok hs).2, (hs.2.2.2.1.2.1 s (by omega)).1, (hs.2.2.2.1.2.1 s (by omega)).2.1]
    · exact absurd (zr_of (n := 4) (by omega) (by decide)) (zo_0.mp c24)
theorem k_Dof_bad (h : dAt σ c K) {no ns nh ng : Nat} {ml mk : Nat → Nat} {r : Nat → Int32} (ok : mOk r no ns nh ng ml mk) (hs : sRl K.n r ml) (s w : Int32) (hv : ¬ (zr s ns ∧ zr w 4)) : zM E YD_of 5 [.ref c, .int s, .int w] (σ) (some (.int (-2))) (σ) := by
  refine zM.of oD_of (by decide +kernel) rfl rfl (fun n => ?_)
  refine zj_aload_n 0 rfl rfl rfl ?_
  refine zj_get 1 rfl rfl h.1 rfl ?_
  refine zj_get 2 rfl rfl h.2.1.1 rfl ?_
  refine zj_astore_n 3 rfl rfl ?_
  refine zj_iload_n 4 rfl rfl rfl ?_
  refine zj_aload_n 5 rfl rfl rfl ?_
  refine zj_get 6 rfl rfl h.2.1.2.2.2.2.2.2.1.1 rfl ?_
  refine zj_csx 7 rfl rfl lk_7_42 ckD_isOneOf (k_isOne _ ns (kN1 ok hs).1 (by have := (kN1 ok hs).2; omega)) rfl rfl rfl rfl ?_
  refine zj_if_eq 8 rfl rfl (fun c16 => ?_) (fun c16 => ?_)
  · refine zj_bipush 13 (-2) rfl rfl (by decide) ?_
    refine zj_ireturn 14 rfl rfl rfl ?_
    exact ⟨rfl, rfl, rfl⟩
  · refine zj_iload_n 9 rfl rfl rfl ?_
    refine zj_iconst 10 (4) rfl rfl (by decide) ?_
    refine zj_csx 11 rfl rfl lk_7_42 ckD_isOneOf (k_isOneOf _ _) rfl rfl rfl rfl ?_
    refine zj_if_ne 12 rfl rfl (fun c24 => ?_) (fun c24 => ?_)
    · exact absurd ⟨zo_n0.mp c16, zo_n0.mp c24⟩ hv
    · refine zj_bipush 13 (-2) rfl rfl (by decide) ?_
      refine zj_ireturn 14 rfl rfl rfl ?_
      exact ⟨rfl, rfl, rfl⟩
theorem k_Dagree0 (h : dAt σ c K) {no ns nh ng : Nat} {ml mk : Nat → Nat} {r : Nat → Int32} (ok : mOk r no ns nh ng ml mk) (ok2 : mOk2 r ns) (hs : sRl K.n r ml) (x y : Nat) (hx : x < ns) (hy : y < ns) (hne : x ≠ y) : zM E YD_agree 5 [.ref c, .int (nI x), .int (nI y), .int (nI 0)] (σ) (some (.int (zb28 (rSl r x &&& rSl r y) 28))) (σ) := by
  refine zM.of oD_agree (by decide +kernel) rfl rfl (fun n => ?_)
  have b1 := (kN1 ok hs).2
  refine zj_aload_n 0 rfl rfl rfl ?_
  refine zj_iload_n 1 rfl rfl rfl ?_
  refine zj_iload_n 2 rfl rfl rfl ?_
  refine zj_cvx 3 rfl rfl lk_7_174 ckD_areTwoSheets (k_Dtwo h ok hs _ _) rfl h.1 rfl rfl rfl ?_
  refine zj_if_eq 4 rfl rfl (fun c6 => ?_) (fun c6 => ?_)
  · exact absurd ⟨zr_of (n := ns) hx (by omega), zr_of (n := ns) hy (by omega), fun e => hne ((nI_eq (by omega) (by omega)).mp e)⟩ (zo_0.mp c6)
  · refine zj_iload_n 5 rfl rfl rfl ?_
    refine zj_iconst 6 (2) rfl rfl (by decide) ?_
    refine zj_csx 7 rfl rfl lk_7_42 ckD_isOneOf (k_isOneOf _ _) rfl rfl rfl rfl ?_
    refine zj_if_ne 8 rfl rfl (fun c14 => ?_) (fun c14 => ?_)
    · refine zj_aload_n 11 rfl rfl rfl ?_
      refine zj_get 12 rfl rfl h.1 rfl ?_
      refine zj_get 13 rfl rfl h.2.1.1 rfl ?_
      refine zj_astore 14 rfl rfl ?_
      refine zj_norm [_, _, _, _, _, _] rfl ?_
      refine zj_aload 15 rfl rfl rfl ?_
      refine zj_get 16 rfl rfl h.2.1.2.2.2.2.2.2.1.1 rfl ?_
      refine zj_iload_n 17 rfl rfl rfl ?_
      refine zn_iald 18 (x) rfl rfl h.2.1.2.2.2.2.2.2.1.2.2.2.2.2.1 rfl (by omega) (by decide) ?_
      refine zj_aload 19 rfl rfl rfl ?_
      refine zj_get 20 rfl rfl h.2.1.2.2.2.2.2.2.1.1 rfl ?_
      refine zj_iload_n 21 rfl rfl rfl ?_
      refine zn_iald 22 (y) rfl rfl h.2.1.2.2.2.2.2.2.1.2.2.2.2.2.1 rfl (by omega) (by decide) ?_
      refine zj_iand 23 rfl rfl ?_
      refine zj_istore 24 rfl rfl ?_
      refine zj_norm [_, _, _, _, _, _] rfl ?_
      refine zj_iload_n 25 rfl rfl rfl ?_
      refine zj_iconst 26 (1) rfl rfl (by decide) ?_
      refine zn_icmp_ne 27 (0) (1) rfl rfl rfl rfl (by omega) (by omega) (fun c48 => ?_) (fun c48 => ?_)
      · refine zj_iload 38 rfl rfl rfl ?_
        refine zj_csx 39 rfl rfl lk_7_124 ckJ_bitCount (k_bitCount _) rfl rfl rfl rfl ?_
        refine zj_ireturn 40 rfl rfl rfl ?_
        refine ⟨zrt ?_, rfl, rfl⟩
        rw [(hs.2.2.2.1.2.1 x (by omega)).2.2, (hs.2.2.2.1.2.1 y (by omega)).2.2]
        exact jBits_eq _ (zB28_and (ok2.2.1 x (by omega)))
      · exact absurd c48 (by decide)
    · exact absurd (zr_of (n := 2) (by omega) (by decide)) (zo_0.mp c14)
theorem k_Dagree1 (h : dAt σ c K) {no ns nh ng : Nat} {ml mk : Nat → Nat} {r : Nat → Int32} (ok : mOk r no ns nh ng ml mk) (ok2 : mOk2 r ns) (hs : sRl K.n r ml) (x y : Nat) (hx : x < ns) (hy : y < ns) (hne : x ≠ y) : zM E YD_agree 5 [.ref c, .int (nI x), .int (nI y), .int (nI 1)] (σ) (some (.int (zb28 (rSl r x &&& rSl r y &&& pSHm r nh ns (rSo r x) (rSn r x) &&& pSHm r nh ns (rSo r y) (rSn r y)) 28))) (σ) := by
  refine zM.of oD_agree (by decide +kernel) rfl rfl (fun n => ?_)
  have b1 := (kN1 ok hs).2
  refine zj_aload_n 0 rfl rfl rfl ?_
  refine zj_iload_n 1 rfl rfl rfl ?_
  refine zj_iload_n 2 rfl rfl rfl ?_
  refine zj_cvx 3 rfl rfl lk_7_174 ckD_areTwoSheets (k_Dtwo h ok hs _ _) rfl h.1 rfl rfl rfl ?_
  refine zj_if_eq 4 rfl rfl (fun c6 => ?_) (fun c6 => ?_)
  · exact absurd ⟨zr_of (n := ns) hx (by omega), zr_of (n := ns) hy (by omega), fun e => hne ((nI_eq (by omega) (by omega)).mp e)⟩ (zo_0.mp c6)
  · refine zj_iload_n 5 rfl rfl rfl ?_
    refine zj_iconst 6 (2) rfl rfl (by decide) ?_
    refine zj_csx 7 rfl rfl lk_7_42 ckD_isOneOf (k_isOneOf _ _) rfl rfl rfl rfl ?_
    refine zj_if_ne 8 rfl rfl (fun c14 => ?_) (fun c14 => ?_)
    · refine zj_aload_n 11 rfl rfl rfl ?_
      refine zj_get 12 rfl rfl h.1 rfl ?_
      refine zj_get 13 rfl rfl h.2.1.1 rfl ?_
      refine zj_astore 14 rfl rfl ?_
      refine zj_norm [_, _, _, _, _, _] rfl ?_
      refine zj_aload 15 rfl rfl rfl ?_
      refine zj_get 16 rfl rfl h.2.1.2.2.2.2.2.2.1.1 rfl ?_
      refine zj_iload_n 17 rfl rfl rfl ?_
      refine zn_iald 18 (x) rfl rfl h.2.1.2.2.2.2.2.2.1.2.2.2.2.2.1 rfl (by omega) (by decide) ?_
      refine zj_aload 19 rfl rfl rfl ?_
      refine zj_get 20 rfl rfl h.2.1.2.2.2.2.2.2.1.1 rfl ?_
      refine zj_iload_n 21 rfl rfl rfl ?_
      refine zn_iald 22 (y) rfl rfl h.2.1.2.2.2.2.2.2.1.2.2.2.2.2.1 rfl (by omega) (by decide) ?_
      refine zj_iand 23 rfl rfl ?_
      refine zj_istore 24 rfl rfl ?_
      refine zj_norm [_, _, _, _, _, _] rfl ?_
      refine zj_iload_n 25 rfl rfl rfl ?_
      refine zj_iconst 26 (1) rfl rfl (by decide) ?_
      refine zn_icmp_ne 27 (1) (1) rfl rfl rfl rfl (by omega) (by omega) (fun c48 => ?_) (fun c48 => ?_)
      · exact absurd c48 (by decide)
      · refine zj_iload 28 rfl rfl rfl ?_
        refine zj_aload 29 rfl rfl rfl ?_
        refine zj_iload_n 30 rfl rfl rfl ?_
        refine zj_cvx 31 rfl rfl lk_7_171 ckBk_linesShownBefore (k_linesShownBefore h.2.1.2.2.2.2.2.2.1 ns (kN1 ok hs).1 (kN1 ok hs).2 nh (kN2 ok hs).1 (kN2 ok hs).2 _ (by omega)) rfl h.2.1.2.2.2.2.2.2.1.1 rfl rfl rfl ?_
        refine zj_aload 32 rfl rfl rfl ?_
        refine zj_iload_n 33 rfl rfl rfl ?_
        refine zj_cvx 34 rfl rfl lk_7_171 ckBk_linesShownBefore (k_linesShownBefore h.2.1.2.2.2.2.2.2.1 ns (kN1 ok hs).1 (kN1 ok hs).2 nh (kN2 ok hs).1 (kN2 ok hs).2 _ (by omega)) rfl h.2.1.2.2.2.2.2.2.1.1 rfl rfl rfl ?_
        refine zj_iand 35 rfl rfl ?_
        refine zj_iand 36 rfl rfl ?_
        refine zj_istore 37 rfl rfl ?_
        refine zj_norm [_, _, _, _, _, _] rfl ?_
        refine zj_iload 38 rfl rfl rfl ?_
        refine zj_csx 39 rfl rfl lk_7_124 ckJ_bitCount (k_bitCount _) rfl rfl rfl rfl ?_
        refine zj_ireturn 40 rfl rfl rfl ?_
        refine ⟨zrt ?_, rfl, rfl⟩
        rw [bk_sh (hs.2.2.2.1) (kN1 ok hs).2 (kN2 ok hs).2, bk_sh (hs.2.2.2.1) (kN1 ok hs).2 (kN2 ok hs).2, (hs.2.2.2.1.2.1 x (by omega)).2.2, (hs.2.2.2.1.2.1 y (by omega)).2.2, (hs.2.2.2.1.2.1 x (by omega)).1, (hs.2.2.2.1.2.1 y (by omega)).1, (hs.2.2.2.1.2.1 x (by omega)).2.1, (hs.2.2.2.1.2.1 y (by omega)).2.1, ← Int32.and_assoc]
        exact jBits_eq _ (zB28_and (zB28_and (zB28_and (ok2.2.1 x (by omega)))))
    · exact absurd (zr_of (n := 2) (by omega) (by decide)) (zo_0.mp c14)
theorem k_Dagree_bad (h : dAt σ c K) {no ns nh ng : Nat} {ml mk : Nat → Nat} {r : Nat → Int32} (ok : mOk r no ns nh ng ml mk) (hs : sRl K.n r ml) (x y w : Int32) (hv : ¬ ((zr x ns ∧ zr y ns ∧ x ≠ y) ∧ zr w 2)) : zM E YD_agree 5 [.ref c, .int x, .int y, .int w] (σ) (some (.int (-2))) (σ) := by
  refine zM.of oD_agree (by decide +kernel) rfl rfl (fun n => ?_)
  refine zj_aload_n 0 rfl rfl rfl ?_
  refine zj_iload_n 1 rfl rfl rfl ?_
  refine zj_iload_n 2 rfl rfl rfl ?_
  refine zj_cvx 3 rfl rfl lk_7_174 ckD_areTwoSheets (k_Dtwo h ok hs _ _) rfl h.1 rfl rfl rfl ?_
  refine zj_if_eq 4 rfl rfl (fun c6 => ?_) (fun c6 => ?_)
  · refine zj_bipush 9 (-2) rfl rfl (by decide) ?_
    refine zj_ireturn 10 rfl rfl rfl ?_
    exact ⟨rfl, rfl, rfl⟩
  · refine zj_iload_n 5 rfl rfl rfl ?_
    refine zj_iconst 6 (2) rfl rfl (by decide) ?_
    refine zj_csx 7 rfl rfl lk_7_42 ckD_isOneOf (k_isOneOf _ _) rfl rfl rfl rfl ?_
    refine zj_if_ne 8 rfl rfl (fun c14 => ?_) (fun c14 => ?_)
    · exact absurd ⟨zo_n0.mp c6, zo_n0.mp c14⟩ hv
    · refine zj_bipush 9 (-2) rfl rfl (by decide) ?_
      refine zj_ireturn 10 rfl rfl rfl ?_
      exact ⟨rfl, rfl, rfl⟩
theorem k_Dpart0 (h : dAt σ c K) : zM E YD_part 2 [.ref c, .int (nI 0)] (σ) (some (.long K.a)) (σ) := by
  refine zM.of oD_part (by decide +kernel) rfl rfl (fun n => ?_)
  refine zj_iload_n 0 rfl rfl rfl ?_
  refine zj_iconst 1 (2) rfl rfl (by decide) ?_
  refine zj_csx 2 rfl rfl lk_7_42 ckD_isOneOf (k_isOneOf _ _) rfl rfl rfl rfl ?_
  refine zj_if_ne 3 rfl rfl (fun c5 => ?_) (fun c5 => ?_)
  · refine zj_iload_n 6 rfl rfl rfl ?_
    refine zj_if_ne 7 rfl rfl (fun c13 => ?_) (fun c13 => ?_)
    · exact absurd c13 (by decide)
    · refine zj_aload_n 8 rfl rfl rfl ?_
      refine zj_get 9 rfl rfl h.1 rfl ?_
      refine zj_goto 10 rfl rfl ?_
      refine zj_lreturn 13 rfl rfl rfl ?_
      exact ⟨rfl, rfl, rfl⟩
  · exact absurd (zr_of (n := 2) (by omega) (by decide)) (zo_0.mp c5)
theorem k_Dpart1 (h : dAt σ c K) : zM E YD_part 2 [.ref c, .int (nI 1)] (σ) (some (.long K.u)) (σ) := by
  refine zM.of oD_part (by decide +kernel) rfl rfl (fun n => ?_)
  refine zj_iload_n 0 rfl rfl rfl ?_
  refine zj_iconst 1 (2) rfl rfl (by decide) ?_
  refine zj_csx 2 rfl rfl lk_7_42 ckD_isOneOf (k_isOneOf _ _) rfl rfl rfl rfl ?_
  refine zj_if_ne 3 rfl rfl (fun c5 => ?_) (fun c5 => ?_)
  · refine zj_iload_n 6 rfl rfl rfl ?_
    refine zj_if_ne 7 rfl rfl (fun c13 => ?_) (fun c13 => ?_)
    · refine zj_aload_n 11 rfl rfl rfl ?_
      refine zj_get 12 rfl rfl h.1 rfl ?_
      refine zj_lreturn 13 rfl rfl rfl ?_
      exact ⟨rfl, rfl, rfl⟩
    · exact absurd c13 (by decide)
  · exact absurd (zr_of (n := 2) (by omega) (by decide)) (zo_0.mp c5)
theorem k_Dpart_bad (x : Int32) (hb : ¬ zr x 2) : zM E YD_part 2 [.ref c, .int x] (σ) (some (.long (-1))) (σ) := by
  refine zM.of oD_part (by decide +kernel) rfl rfl (fun n => ?_)
  refine zj_iload_n 0 rfl rfl rfl ?_
  refine zj_iconst 1 (2) rfl rfl (by decide) ?_
  refine zj_csx 2 rfl rfl lk_7_42 ckD_isOneOf (k_isOneOf _ _) rfl rfl rfl rfl ?_
  refine zj_if_ne 3 rfl rfl (fun c5 => ?_) (fun c5 => ?_)
  · exact absurd (zo_n0.mp c5) hb
  · refine zj_ldc2 4 (-1) rfl rfl (by decide) ?_
    refine zj_lreturn 5 rfl rfl rfl ?_
    exact ⟨rfl, rfl, rfl⟩
theorem k_Dtook0 (h : dAt σ c K) {no ns nh ng : Nat} {ml mk : Nat → Nat} {r : Nat → Int32} (ok : mOk r no ns nh ng ml mk) (ok2 : mOk2 r ns) (hs : sRl K.n r ml) (s : Nat) (hs0 : s < ns) : zM E YD_took 6 [.ref c, .int (nI s), .int (nI 0)] (σ) (some (.int ((mMH r nh s).1))) (σ) := by
  refine zM.of oD_took (by decide +kernel) rfl rfl (fun n => ?_)
  have eo : K.n.o = r 779 := hs.2.2.2.2.2.1
  have b1 := (kN1 ok hs).2
  refine zj_aload_n 0 rfl rfl rfl ?_
  refine zj_get 1 rfl rfl h.1 rfl ?_
  refine zj_get 2 rfl rfl h.2.1.1 rfl ?_
  refine zj_astore_n 3 rfl rfl ?_
  refine zj_iload_n 4 rfl rfl rfl ?_
  refine zj_aload_n 5 rfl rfl rfl ?_
  refine zj_get 6 rfl rfl h.2.1.2.2.2.2.2.2.1.1 rfl ?_
  refine zj_csx 7 rfl rfl lk_7_42 ckD_isOneOf (k_isOne _ ns (kN1 ok hs).1 (by have := (kN1 ok hs).2; omega)) rfl rfl rfl rfl ?_
  refine zj_if_eq 8 rfl rfl (fun c16 => ?_) (fun c16 => ?_)
  · exact absurd (zr_of (n := ns) hs0 (by have := (kN1 ok hs).2; omega)) (zo_0.mp c16)
  · refine zj_iload_n 9 rfl rfl rfl ?_
    refine zj_iconst 10 (4) rfl rfl (by decide) ?_
    refine zj_csx 11 rfl rfl lk_7_42 ckD_isOneOf (k_isOneOf _ _) rfl rfl rfl rfl ?_
    refine zj_if_ne 12 rfl rfl (fun c24 => ?_) (fun c24 => ?_)
    · refine zj_iload_n 15 rfl rfl rfl ?_
      refine zj_tsw (t := 56) 16 rfl rfl (by decide +kernel) (by decide +kernel) ?_
      refine zj_aload_n 17 rfl rfl rfl ?_
      refine zj_iload_n 18 rfl rfl rfl ?_
      refine zj_aload_n 19 rfl rfl rfl ?_
      refine zj_get 20 rfl rfl h.1 rfl ?_
      refine zj_get 21 rfl rfl h.2.1.1 rfl ?_
      refine zj_cvx 22 rfl rfl lk_7_194 ckBk_mayHaveTaken (k_mayHaveTaken h.2.1.2.2.2.2.2.2.1 nh (kN2 ok hs).1 (kN2 ok hs).2 s (by omega) _) rfl h.2.1.2.2.2.2.2.2.1.1 rfl rfl rfl ?_
      refine zj_ireturn 23 rfl rfl rfl ?_
      refine ⟨zrt ?_, rfl, rfl⟩
      rw [eo]
      exact bk_tk (hs.2.2.2.1) ok2.2.1 (kN2 ok hs).2 s (by omega)
    · exact absurd (zr_of (n := 4) (by omega) (by decide)) (zo_0.mp c24)
theorem k_Dtook1 (h : dAt σ c K) {no ns nh ng : Nat} {ml mk : Nat → Nat} {r : Nat → Int32} (ok : mOk r no ns nh ng ml mk) (ok2 : mOk2 r ns) (hs : sRl K.n r ml) (s : Nat) (hs0 : s < ns) : zM E YD_took 6 [.ref c, .int (nI s), .int (nI 1)] (σ) (some (.int ((mMH r nh s).2))) (σ) := by
  refine zM.of oD_took (by decide +kernel) rfl rfl (fun n => ?_)
  have eo : K.n.o = r 779 := hs.2.2.2.2.2.1
  have b1 := (kN1 ok hs).2
  refine zj_aload_n 0 rfl rfl rfl ?_
  refine zj_get 1 rfl rfl h.1 rfl ?_
  refine zj_get 2 rfl rfl h.2.1.1 rfl ?_
  refine zj_astore_n 3 rfl rfl ?_
  refine zj_iload_n 4 rfl rfl rfl ?_
  refine zj_aload_n 5 rfl rfl rfl ?_
  refine zj_get 6 rfl rfl h.2.1.2.2.2.2.2.2.1.1 rfl ?_
  refine zj_csx 7 rfl rfl lk_7_42 ckD_isOneOf (k_isOne _ ns (kN1 ok hs).1 (by have := (kN1 ok hs).2; omega)) rfl rfl rfl rfl ?_
  refine zj_if_eq 8 rfl rfl (fun c16 => ?_) (fun c16 => ?_)
  · exact absurd (zr_of (n := ns) hs0 (by have := (kN1 ok hs).2; omega)) (zo_0.mp c16)
  · refine zj_iload_n 9 rfl rfl rfl ?_
    refine zj_iconst 10 (4) rfl rfl (by decide) ?_
    refine zj_csx 11 rfl rfl lk_7_42 ckD_isOneOf (k_isOneOf _ _) rfl rfl rfl rfl ?_
    refine zj_if_ne 12 rfl rfl (fun c24 => ?_) (fun c24 => ?_)
    · refine zj_iload_n 15 rfl rfl rfl ?_
      refine zj_tsw (t := 69) 16 rfl rfl (by decide +kernel) (by decide +kernel) ?_
      refine zj_aload_n 24 rfl rfl rfl ?_
      refine zj_iload_n 25 rfl rfl rfl ?_
      refine zj_aload_n 26 rfl rfl rfl ?_
      refine zj_get 27 rfl rfl h.1 rfl ?_
      refine zj_get 28 rfl rfl h.2.1.1 rfl ?_
      refine zj_cvx 29 rfl rfl lk_7_197 ckBk_leastCost (k_leastCost h.2.1.2.2.2.2.2.2.1 nh (kN2 ok hs).1 (kN2 ok hs).2 s (by omega) _) rfl h.2.1.2.2.2.2.2.2.1.1 rfl rfl rfl ?_
      refine zj_ireturn 30 rfl rfl rfl ?_
      refine ⟨zrt ?_, rfl, rfl⟩
      rw [eo]
      exact bk_mn (hs.2.2.2.1) ok2.2.1 (kN2 ok hs).2 s (by omega)
    · exact absurd (zr_of (n := 4) (by omega) (by decide)) (zo_0.mp c24)
theorem k_Dtook2 (h : dAt σ c K) {no ns nh ng : Nat} {ml mk : Nat → Nat} {r : Nat → Int32} (ok : mOk r no ns nh ng ml mk) (ok2 : mOk2 r ns) (hs : sRl K.n r ml) (s : Nat) (hs0 : s < ns) : zM E YD_took 6 [.ref c, .int (nI s), .int (nI 2)] (σ) (some (.int (zo (zb28 (mMH r nh s).1 28 = 1)))) (σ) := by
  refine zM.of oD_took (by decide +kernel) rfl rfl (fun n => ?_)
  have eo : K.n.o = r 779 := hs.2.2.2.2.2.1
  have b1 := (kN1 ok hs).2
  refine zj_aload_n 0 rfl rfl rfl ?_
  refine zj_get 1 rfl rfl h.1 rfl ?_
  refine zj_get 2 rfl rfl h.2.1.1 rfl ?_
  refine zj_astore_n 3 rfl rfl ?_
  refine zj_iload_n 4 rfl rfl rfl ?_
  refine zj_aload_n 5 rfl rfl rfl ?_
  refine zj_get 6 rfl rfl h.2.1.2.2.2.2.2.2.1.1 rfl ?_
  refine zj_csx 7 rfl rfl lk_7_42 ckD_isOneOf (k_isOne _ ns (kN1 ok hs).1 (by have := (kN1 ok hs).2; omega)) rfl rfl rfl rfl ?_
  refine zj_if_eq 8 rfl rfl (fun c16 => ?_) (fun c16 => ?_)
  · exact absurd (zr_of (n := ns) hs0 (by have := (kN1 ok hs).2; omega)) (zo_0.mp c16)
  · refine zj_iload_n 9 rfl rfl rfl ?_
    refine zj_iconst 10 (4) rfl rfl (by decide) ?_
    refine zj_csx 11 rfl rfl lk_7_42 ckD_isOneOf (k_isOneOf _ _) rfl rfl rfl rfl ?_
    refine zj_if_ne 12 rfl rfl (fun c24 => ?_) (fun c24 => ?_)
    · refine zj_iload_n 15 rfl rfl rfl ?_
      refine zj_tsw (t := 82) 16 rfl rfl (by decide +kernel) (by decide +kernel) ?_
      refine zj_aload_n 31 rfl rfl rfl ?_
      refine zj_iload_n 32 rfl rfl rfl ?_
      refine zj_aload_n 33 rfl rfl rfl ?_
      refine zj_get 34 rfl rfl h.1 rfl ?_
      refine zj_get 35 rfl rfl h.2.1.1 rfl ?_
      refine zj_cvx 36 rfl rfl lk_7_194 ckBk_mayHaveTaken (k_mayHaveTaken h.2.1.2.2.2.2.2.2.1 nh (kN2 ok hs).1 (kN2 ok hs).2 s (by omega) _) rfl h.2.1.2.2.2.2.2.2.1.1 rfl rfl rfl ?_
      refine zj_csx 37 rfl rfl lk_7_124 ckJ_bitCount (k_bitCount _) rfl rfl rfl rfl ?_
      refine zj_iconst 38 (1) rfl rfl (by decide) ?_
      refine zj_icmp_ne 39 rfl rfl (fun c98 => ?_) (fun c98 => ?_)
      · refine zj_iconst 42 (0) rfl rfl (by decide) ?_
        refine zj_ireturn 43 rfl rfl rfl ?_
        rw [eo, bk_tk (hs.2.2.2.1) ok2.2.1 (kN2 ok hs).2 s (by omega), jBits_eq _ (mMH_28 s (by omega))] at c98
        exact ⟨zrt (zo_f c98), rfl, rfl⟩
      · refine zj_iconst 40 (1) rfl rfl (by decide) ?_
        refine zj_goto 41 rfl rfl ?_
        refine zj_ireturn 43 rfl rfl rfl ?_
        rw [eo, bk_tk (hs.2.2.2.1) ok2.2.1 (kN2 ok hs).2 s (by omega), jBits_eq _ (mMH_28 s (by omega))] at c98
        exact ⟨zrt (zo_t c98), rfl, rfl⟩
    · exact absurd (zr_of (n := 4) (by omega) (by decide)) (zo_0.mp c24)
theorem k_Dtook3 (h : dAt σ c K) {no ns nh ng : Nat} {ml mk : Nat → Nat} {r : Nat → Int32} (ok : mOk r no ns nh ng ml mk) (ok2 : mOk2 r ns) (hs : sRl K.n r ml) (s : Nat) (hs0 : s < ns) : zM E YD_took 6 [.ref c, .int (nI s), .int (nI 3)] (σ) (some (.int (nI (pOld (fun s => (mMH r nh s).1) s s)))) (σ) := by
  refine zM.of oD_took (by decide +kernel) rfl rfl (fun n => ?_)
  have eo : K.n.o = r 779 := hs.2.2.2.2.2.1
  have b1 := (kN1 ok hs).2
  refine zj_aload_n 0 rfl rfl rfl ?_
  refine zj_get 1 rfl rfl h.1 rfl ?_
  refine zj_get 2 rfl rfl h.2.1.1 rfl ?_
  refine zj_astore_n 3 rfl rfl ?_
  refine zj_iload_n 4 rfl rfl rfl ?_
  refine zj_aload_n 5 rfl rfl rfl ?_
  refine zj_get 6 rfl rfl h.2.1.2.2.2.2.2.2.1.1 rfl ?_
  refine zj_csx 7 rfl rfl lk_7_42 ckD_isOneOf (k_isOne _ ns (kN1 ok hs).1 (by have := (kN1 ok hs).2; omega)) rfl rfl rfl rfl ?_
  refine zj_if_eq 8 rfl rfl (fun c16 => ?_) (fun c16 => ?_)
  · exact absurd (zr_of (n := ns) hs0 (by have := (kN1 ok hs).2; omega)) (zo_0.mp c16)
  · refine zj_iload_n 9 rfl rfl rfl ?_
    refine zj_iconst 10 (4) rfl rfl (by decide) ?_
    refine zj_csx 11 rfl rfl lk_7_42 ckD_isOneOf (k_isOneOf _ _) rfl rfl rfl rfl ?_
    refine zj_if_ne 12 rfl rfl (fun c24 => ?_) (fun c24 => ?_)
    · refine zj_iload_n 15 rfl rfl rfl ?_
      refine zj_tsw (t := 107) 16 rfl rfl (by decide +kernel) (by decide +kernel) ?_
      refine zj_aload_n 44 rfl rfl rfl ?_
      refine zj_iload_n 45 rfl rfl rfl ?_
      refine zj_aload_n 46 rfl rfl rfl ?_
      refine zj_get 47 rfl rfl h.1 rfl ?_
      refine zj_get 48 rfl rfl h.2.1.1 rfl ?_
      refine zj_cvx 49 rfl rfl lk_7_200 ckBk_oldest (k_Boldest h.2.1.2.2.2.2.2.2.1 nh (kN2 ok hs).1 (kN2 ok hs).2 s (by omega) _) rfl h.2.1.2.2.2.2.2.2.1.1 rfl rfl rfl ?_
      refine zj_ireturn 50 rfl rfl rfl ?_
      refine ⟨zrt ?_, rfl, rfl⟩
      rw [old_eq _ r nh (fun s hs1 => by rw [eo]; exact bk_tk (hs.2.2.2.1) ok2.2.1 (kN2 ok hs).2 s hs1) s (by omega)]
    · exact absurd (zr_of (n := 4) (by omega) (by decide)) (zo_0.mp c24)
theorem k_Dtook_bad (h : dAt σ c K) {no ns nh ng : Nat} {ml mk : Nat → Nat} {r : Nat → Int32} (ok : mOk r no ns nh ng ml mk) (hs : sRl K.n r ml) (s w : Int32) (hv : ¬ (zr s ns ∧ zr w 4)) : zM E YD_took 6 [.ref c, .int s, .int w] (σ) (some (.int (-2))) (σ) := by
  refine zM.of oD_took (by decide +kernel) rfl rfl (fun n => ?_)
  refine zj_aload_n 0 rfl rfl rfl ?_
  refine zj_get 1 rfl rfl h.1 rfl ?_
  refine zj_get 2 rfl rfl h.2.1.1 rfl ?_
  refine zj_astore_n 3 rfl rfl ?_
  refine zj_iload_n 4 rfl rfl rfl ?_
  refine zj_aload_n 5 rfl rfl rfl ?_
  refine zj_get 6 rfl rfl h.2.1.2.2.2.2.2.2.1.1 rfl ?_
  refine zj_csx 7 rfl rfl lk_7_42 ckD_isOneOf (k_isOne _ ns (kN1 ok hs).1 (by have := (kN1 ok hs).2; omega)) rfl rfl rfl rfl ?_
  refine zj_if_eq 8 rfl rfl (fun c16 => ?_) (fun c16 => ?_)
  · refine zj_bipush 13 (-2) rfl rfl (by decide) ?_
    refine zj_ireturn 14 rfl rfl rfl ?_
    exact ⟨rfl, rfl, rfl⟩
  · refine zj_iload_n 9 rfl rfl rfl ?_
    refine zj_iconst 10 (4) rfl rfl (by decide) ?_
    refine zj_csx 11 rfl rfl lk_7_42 ckD_isOneOf (k_isOneOf _ _) rfl rfl rfl rfl ?_
    refine zj_if_ne 12 rfl rfl (fun c24 => ?_) (fun c24 => ?_)
    · exact absurd ⟨zo_n0.mp c16, zo_n0.mp c24⟩ hv
    · refine zj_bipush 13 (-2) rfl rfl (by decide) ?_
      refine zj_ireturn 14 rfl rfl rfl ?_
      exact ⟨rfl, rfl, rfl⟩
theorem l_Dways (h : dAt σ c K) {no ns nh ng : Nat} {ml mk : Nat → Nat} {r : Nat → Int32} (ok : mOk r no ns nh ng ml mk) (ok2 : mOk2 r ns) (hs : sRl K.n r ml) : ∀ (m : Nat) (k : Nat), (k + m = ns) → ∀ n, zB E YD_ways 5 n (some (.long (pWays (fun s => (mMH r nh s).1) ns))) (σ) (σ) 4 [some (.ref c), some (.long (pWays (fun s => (mMH r nh s).1) k)), none, some (.int (nI k))] [] := by
  intro m
  induction m using Nat.strongRecOn with
  | ind m ih =>
  intro k hk n
  have b1 := (kN1 ok hs).2
  refine zj_iload_n 4 rfl rfl rfl ?_
  refine zj_aload_n 5 rfl rfl rfl ?_
  refine zj_get 6 rfl rfl h.1 rfl ?_
  refine zj_get 7 rfl rfl h.2.1.1 rfl ?_
  refine zj_get 8 rfl rfl h.2.1.2.2.2.2.2.2.1.1 rfl ?_
  refine zn_icmp_ge 9 (k) (ns) rfl rfl rfl (kN1 ok hs).1 (by omega) (by omega) (fun c15 => ?_) (fun c15 => ?_)
  · refine zj_lload_n 25 rfl rfl rfl ?_
    refine zj_lreturn 26 rfl rfl rfl ?_
    obtain rfl : k = ns := by omega
    exact ⟨rfl, rfl, rfl⟩
  · refine zj_lload_n 10 rfl rfl rfl ?_
    refine zj_aload_n 11 rfl rfl rfl ?_
    refine zj_get 12 rfl rfl h.1 rfl ?_
    refine zj_get 13 rfl rfl h.2.1.1 rfl ?_
    refine zj_iload_n 14 rfl rfl rfl ?_
    refine zj_aload_n 15 rfl rfl rfl ?_
    refine zj_get 16 rfl rfl h.1 rfl ?_
    refine zj_get 17 rfl rfl h.2.1.1 rfl ?_
    refine zj_cvx 18 rfl rfl lk_7_194 ckBk_mayHaveTaken (k_mayHaveTaken h.2.1.2.2.2.2.2.2.1 nh (kN2 ok hs).1 (kN2 ok hs).2 k (by omega) _) rfl h.2.1.2.2.2.2.2.2.1.1 rfl rfl rfl ?_
    refine zj_csx 19 rfl rfl lk_7_124 ckJ_bitCount (k_bitCount _) rfl rfl rfl rfl ?_
    refine zj_i2l 20 rfl rfl ?_
    refine zj_lmul 21 rfl rfl ?_
    refine zj_lstore_n 22 rfl rfl ?_
    refine zn_iinc 23 (k) rfl rfl rfl rfl ?_
    refine zj_goto 24 rfl rfl ?_
    rw [hs.2.2.2.2.2.1, bk_tk (hs.2.2.2.1) ok2.2.1 (kN2 ok hs).2 k (by omega), jBits_eq _ (mMH_28 k (by omega))]
    exact ih (m - 1) (by omega) (k + 1) (by omega) n
theorem k_Dways (h : dAt σ c K) {no ns nh ng : Nat} {ml mk : Nat → Nat} {r : Nat → Int32} (ok : mOk r no ns nh ng ml mk) (ok2 : mOk2 r ns) (hs : sRl K.n r ml) : zM E YD_ways 5 [.ref c] (σ) (some (.long (pWays (fun s => (mMH r nh s).1) ns))) (σ) := by
  refine zM.of oD_ways (by decide +kernel) rfl rfl (fun n => ?_)
  refine zj_lconst 0 (1) rfl rfl (by decide) ?_
  refine zj_lstore_n 1 rfl rfl ?_
  refine zj_iconst 2 (0) rfl rfl (by decide) ?_
  refine zj_istore_n 3 rfl rfl ?_
  exact l_Dways h ok ok2 hs ns 0 (by omega) n
end
