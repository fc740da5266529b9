/-! the component: the book and the guesses, in the reference's words -/
theorem k_isOne {E : zE} {σ : zH} (v : Int32) {x : Int32} (n : Nat) (e : x = nI n) (hn : n < 2 ^ 31) : zM E YD_isOneOf 1 [.int v, .int x] σ (some (.int (zo (zr v n)))) σ := by
  subst e
  have h := k_isOneOf (E := E) (σ := σ) v (nI n)
  rw [nI_toInt hn] at h
  exact h
theorem pSB_cg {hs ho hn hs' ho' hn' : Nat → Int32} (o night : Int32) : ∀ n, (∀ k, k < n → hs k = hs' k ∧ ho k = ho' k ∧ hn k = hn' k) → pSB hs ho hn o night n = pSB hs' ho' hn' o night n
  | 0, _ => rfl
  | n + 1, h => by
    simp only [pSB]
    rw [pSB_cg o night n (fun k hk => h k (by omega)), (h n (by omega)).1, (h n (by omega)).2.1, (h n (by omega)).2.2]
theorem pLS_cg {sl sl' : Nat → Int32} (sheets : Int32) : ∀ n, (∀ k, k < n → sl k = sl' k) → pLS sl sheets n = pLS sl' sheets n
  | 0, _ => rfl
  | n + 1, h => by
    simp only [pLS]
    rw [pLS_cg sheets n (fun k hk => h k (by omega)), h n (by omega)]
theorem pLA_cg {sl sl' : Nat → Int32} (sheets : Int32) : ∀ n, (∀ k, k < n → sl k = sl' k) → pLA sl sheets n = pLA sl' sheets n
  | 0, _ => rfl
  | n + 1, h => by
    simp only [pLA]
    rw [pLA_cg sheets n (fun k hk => h k (by omega)), h n (by omega)]
theorem pMn_cg {c c' : Nat → Int32} (src own : Int32) : ∀ n, (∀ k, k < n → c k = c' k) → pMn c src own n = pMn c' src own n
  | 0, _ => rfl
  | n + 1, h => by
    simp only [pMn]
    rw [pMn_cg src own n (fun k hk => h k (by omega)), h n (by omega)]
theorem pTk_cg {c c' : Nat → Int32} (src own least : Int32) : ∀ n, (∀ k, k < n → c k = c' k) → pTk c src own least n = pTk c' src own least n
  | 0, _ => rfl
  | n + 1, h => by
    simp only [pTk]
    rw [pTk_cg src own least n (fun k hk => h k (by omega)), h n (by omega)]
theorem pW_cg {sl sl' wt wt' : Nat → Int32} (line : Int32) : ∀ n, (∀ k, k < n → sl k = sl' k ∧ wt k = wt' k) → pW sl wt line n = pW sl' wt' line n
  | 0, _ => rfl
  | n + 1, h => by
    simp only [pW]
    rw [pW_cg line n (fun k hk => h k (by omega)), (h n (by omega)).1, (h n (by omega)).2]
theorem pWA_cg {wt wt' : Nat → Int32} : ∀ n, (∀ k, k < n → wt k = wt' k) → pWA wt n = pWA wt' n
  | 0, _ => rfl
  | n + 1, h => by
    simp only [pWA]
    rw [pWA_cg n (fun k hk => h k (by omega)), h n (by omega)]
theorem pWd_cg {gw gw' : Nat → Int32} (may : Int32) : ∀ n, (∀ k, k < n → gw k = gw' k) → pWd gw may n = pWd gw' may n
  | 0, _ => rfl
  | n + 1, h => by
    simp only [pWd]
    rw [pWd_cg may n (fun k hk => h k (by omega)), h n (by omega)]
theorem zB28_and {x y : Int32} (h : zB28 x) : zB28 (x &&& y) := fun i h1 h2 => by rw [zbit_and, h i h1 h2]; rfl
theorem zB28_xor {x y : Int32} (h : zB28 x) (g : zB28 y) : zB28 (x ^^^ y) := fun i h1 h2 => by rw [zbit_xor, h i h1 h2, g i h1 h2]; rfl
theorem pDr_28 (tr : Nat → Bool) : zB28 (pDr tr 28) := fun i h1 h2 => by
  rw [pDr_bit tr 28 (by decide) i h2]
  simp [Nat.not_lt.mpr h1]
theorem mDw_28 (t : Nat → Int32) (many : Nat) (see : Nat → Int32) (g : Nat) (shown : Int32) (mk : Nat → Nat) : zB28 (mDw t many see g shown mk) := by
  unfold mDw
  split
  · exact pDr_28 _
  · intro i _ _; exact zbit_0 i
section
variable {B : zMo} {r : Nat → Int32} {ns nh : Nat}
theorem bk_sb (hb : bkR B r) (hb3 : nh ≤ 60) (o night : Int32) : pSB (B.1 5) (B.1 6) (B.1 7) o night nh = pSBm r nh o night := pSB_cg o night nh (fun k hk => hb.2.2.1 k (by omega))
theorem bk_sh (hb : bkR B r) (hb2 : ns ≤ 16) (hb3 : nh ≤ 60) (o night : Int32) : pLS (B.1 4) (pSB (B.1 5) (B.1 6) (B.1 7) o night nh) ns = pSHm r nh ns o night := by
  rw [bk_sb hb hb3]
  exact pLS_cg _ ns (fun k hk => (hb.2.1 k (by omega)).2.2)
theorem bk_mn (hb : bkR B r) (h28 : ∀ s, s < 16 → zB28 (rSl r s)) (hb3 : nh ≤ 60) (s : Nat) (hs : s < 16) : pMn (fun t => jBits (B.1 4 s ^^^ B.1 4 t)) (pSB (B.1 5) (B.1 6) (B.1 7) (B.1 2 s) (B.1 3 s) nh) (jBits (B.1 4 s) + r 779) s = (mMH r nh s).2 := by
  obtain ⟨e1, e2, e3⟩ := hb.2.1 s hs
  rw [bk_sb hb hb3, e1, e2, e3, jBits_eq _ (h28 s hs), (pMH_eq (rSl r) s _ _ s).1]
  refine pMn_cg _ _ s (fun k hk => ?_)
  rw [(hb.2.1 k (by omega)).2.2, jBits_eq _ (zB28_xor (h28 s hs) (h28 k (by omega)))]
theorem bk_tk (hb : bkR B r) (h28 : ∀ s, s < 16 → zB28 (rSl r s)) (hb3 : nh ≤ 60) (s : Nat) (hs : s < 16) : pTk (fun t => jBits (B.1 4 s ^^^ B.1 4 t)) (pSB (B.1 5) (B.1 6) (B.1 7) (B.1 2 s) (B.1 3 s) nh) (jBits (B.1 4 s) + r 779) (pMn (fun t => jBits (B.1 4 s ^^^ B.1 4 t)) (pSB (B.1 5) (B.1 6) (B.1 7) (B.1 2 s) (B.1 3 s) nh) (jBits (B.1 4 s) + r 779) s) s = (mMH r nh s).1 := by
  rw [bk_mn hb h28 hb3 s hs, (pMH_eq (rSl r) s _ _ s).2, ← (pMH_eq (rSl r) s _ _ s).1]
  obtain ⟨e1, e2, e3⟩ := hb.2.1 s hs
  rw [bk_sb hb hb3, e1, e2, e3, jBits_eq _ (h28 s hs)]
  refine pTk_cg _ _ _ s (fun k hk => ?_)
  rw [(hb.2.1 k (by omega)).2.2, jBits_eq _ (zB28_xor (h28 s hs) (h28 k (by omega)))]
theorem mMH_28 (s : Nat) (hs : s ≤ 16) : zB28 (mMH r nh s).1 := fun i h1 h2 => pMH_hi (rSl r) s _ _ s hs i (by omega) h2
theorem bk_wt (hb : bkR B r) (hz : ∀ s, s < ns → zr (rSo r s) 8) (hb2 : ns ≤ 16) (k : Nat) (hk : k < ns) : B.1 1 (B.1 2 k).toNatClampNeg = mWt r k := by
  rw [(hb.2.1 k (by omega)).1]
  obtain ⟨j, hj, e⟩ := zr_nI (n := 8) (hz k hk)
  unfold mWt
  rw [e, nI_clamp (by omega)]
  exact (hb.1 j hj).2
end
section
variable {E : zE} {σ : zH} {c : Nat} {K : zDc}
theorem kN0 {no ns nh ng : Nat} {ml mk : Nat → Nat} {r : Nat → Int32} {S : zSc} (ok : mOk r no ns nh ng ml mk) (hs : sRl S r ml) : S.b.2.2.1 0 = nI no ∧ no ≤ 8 := ⟨hs.2.2.2.1.2.2.2.1.trans ok.1.1, ok.1.2⟩
theorem kN1 {no ns nh ng : Nat} {ml mk : Nat → Nat} {r : Nat → Int32} {S : zSc} (ok : mOk r no ns nh ng ml mk) (hs : sRl S r ml) : S.b.2.2.1 1 = nI ns ∧ ns ≤ 16 := ⟨hs.2.2.2.1.2.2.2.2.1.trans ok.2.1.1, ok.2.1.2⟩
theorem kN2 {no ns nh ng : Nat} {ml mk : Nat → Nat} {r : Nat → Int32} {S : zSc} (ok : mOk r no ns nh ng ml mk) (hs : sRl S r ml) : S.b.2.2.1 2 = nI nh ∧ nh ≤ 60 := ⟨hs.2.2.2.1.2.2.2.2.2.trans ok.2.2.1.1, ok.2.2.1.2⟩
theorem kN3 {no ns nh ng : Nat} {ml mk : Nat → Nat} {r : Nat → Int32} {S : zSc} (ok : mOk r no ns nh ng ml mk) (hs : sRl S r ml) : S.g.2.2.1 0 = nI ng ∧ ng ≤ 12 := ⟨hs.2.2.2.2.1.2.trans ok.2.2.2.1.1, ok.2.2.2.1.2⟩
theorem k_Dtwo (h : dAt σ c K) {no ns nh ng : Nat} {ml mk : Nat → Nat} {r : Nat → Int32} (ok : mOk r no ns nh ng ml mk) (hs : sRl K.n r ml) (x y : Int32) : zM E YD_areTwoSheets 2 [.ref c, .int x, .int y] (σ) (some (.int (zo (zr x ns ∧ zr y ns ∧ x ≠ y)))) (σ) := by
  refine zM.of oD_areTwoSheets (by decide +kernel) rfl rfl (fun n => ?_)
  refine zj_iload_n 0 rfl rfl rfl ?_
  refine zj_aload_n 1 rfl rfl rfl ?_
  refine zj_get 2 rfl rfl h.1 rfl ?_
  refine zj_get 3 rfl rfl h.2.1.1 rfl ?_
  refine zj_get 4 rfl rfl h.2.1.2.2.2.2.2.2.1.1 rfl ?_
  refine zj_csx 5 rfl rfl lk_7_42 ckD_isOneOf (k_isOne _ ns (kN1 ok hs).1 (by have := (kN1 ok hs).2; omega)) rfl rfl rfl rfl ?_
  refine zj_if_eq 6 rfl rfl (fun c14 => ?_) (fun c14 => ?_)
  · refine zj_iconst 19 (0) rfl rfl (by decide) ?_
    refine zj_zreturn 20 rfl rfl rfl rfl ?_
    first
      | exact ⟨zrt (zo_t ⟨zo_n0.mp c14, zo_n0.mp c31, c36⟩), rfl, rfl⟩
      | exact ⟨zrt (zo_f (fun g => zo_0.mp c14 g.1)), rfl, rfl⟩
      | exact ⟨zrt (zo_f (fun g => zo_0.mp c31 g.2.1)), rfl, rfl⟩
      | exact ⟨zrt (zo_f (fun g => g.2.2 c36)), rfl, rfl⟩
  · refine zj_iload_n 7 rfl rfl rfl ?_
    refine zj_aload_n 8 rfl rfl rfl ?_
    refine zj_get 9 rfl rfl h.1 rfl ?_
    refine zj_get 10 rfl rfl h.2.1.1 rfl ?_
    refine zj_get 11 rfl rfl h.2.1.2.2.2.2.2.2.1.1 rfl ?_
    refine zj_csx 12 rfl rfl lk_7_42 ckD_isOneOf (k_isOne _ ns (kN1 ok hs).1 (by have := (kN1 ok hs).2; omega)) rfl rfl rfl rfl ?_
    refine zj_if_eq 13 rfl rfl (fun c31 => ?_) (fun c31 => ?_)
    · refine zj_iconst 19 (0) rfl rfl (by decide) ?_
      refine zj_zreturn 20 rfl rfl rfl rfl ?_
      first
        | exact ⟨zrt (zo_t ⟨zo_n0.mp c14, zo_n0.mp c31, c36⟩), rfl, rfl⟩
        | exact ⟨zrt (zo_f (fun g => zo_0.mp c14 g.1)), rfl, rfl⟩
        | exact ⟨zrt (zo_f (fun g => zo_0.mp c31 g.2.1)), rfl, rfl⟩
        | exact ⟨zrt (zo_f (fun g => g.2.2 c36)), rfl, rfl⟩
    · refine zj_iload_n 14 rfl rfl rfl ?_
      refine zj_iload_n 15 rfl rfl rfl ?_
      refine zj_icmp_eq 16 rfl rfl (fun c36 => ?_) (fun c36 => ?_)
      · refine zj_iconst 19 (0) rfl rfl (by decide) ?_
        refine zj_zreturn 20 rfl rfl rfl rfl ?_
        first
          | exact ⟨zrt (zo_t ⟨zo_n0.mp c14, zo_n0.mp c31, c36⟩), rfl, rfl⟩
          | exact ⟨zrt (zo_f (fun g => zo_0.mp c14 g.1)), rfl, rfl⟩
          | exact ⟨zrt (zo_f (fun g => zo_0.mp c31 g.2.1)), rfl, rfl⟩
          | exact ⟨zrt (zo_f (fun g => g.2.2 c36)), rfl, rfl⟩
      · refine zj_iconst 17 (1) rfl rfl (by decide) ?_
        refine zj_goto 18 rfl rfl ?_
        refine zj_zreturn 20 rfl rfl rfl rfl ?_
        first
          | exact ⟨zrt (zo_t ⟨zo_n0.mp c14, zo_n0.mp c31, c36⟩), rfl, rfl⟩
          | exact ⟨zrt (zo_f (fun g => zo_0.mp c14 g.1)), rfl, rfl⟩
          | exact ⟨zrt (zo_f (fun g => zo_0.mp c31 g.2.1)), rfl, rfl⟩
          | exact ⟨zrt (zo_f (fun g => g.2.2 c36)), rfl, rfl⟩
theorem zshl1 : ∀ n, n ≤ 16 → (1 : Int32) <<< (nI n &&& 31) = nI (2 ^ n) ∧ 2 ^ n < 2 ^ 31 := by decide +kernel
theorem k_DareSheets (h : dAt σ c K) {no ns nh ng : Nat} {ml mk : Nat → Nat} {r : Nat → Int32} (ok : mOk r no ns nh ng ml mk) (hs : sRl K.n r ml) (x : Int32) : zM E YD_areSheets 2 [.ref c, .int x] (σ) (some (.int (zo (zr x (2 ^ ns : Nat))))) (σ) := by
  refine zM.of oD_areSheets (by decide +kernel) rfl rfl (fun n => ?_)
  refine zj_iload_n 0 rfl rfl rfl ?_
  refine zj_iconst 1 (1) rfl rfl (by decide) ?_
  refine zj_aload_n 2 rfl rfl rfl ?_
  refine zj_get 3 rfl rfl h.1 rfl ?_
  refine zj_get 4 rfl rfl h.2.1.1 rfl ?_
  refine zj_get 5 rfl rfl h.2.1.2.2.2.2.2.2.1.1 rfl ?_
  refine zj_ishl 6 rfl rfl ?_
  refine zj_csx 7 rfl rfl lk_7_42 ckD_isOneOf (k_isOne _ (2 ^ ns) (by rw [(kN1 ok hs).1]; exact (zshl1 ns (kN1 ok hs).2).1) (zshl1 ns (kN1 ok hs).2).2) rfl rfl rfl rfl ?_
  refine zj_zreturn 8 rfl rfl rfl (zo_nar _) ?_
  exact ⟨rfl, rfl, rfl⟩
end
