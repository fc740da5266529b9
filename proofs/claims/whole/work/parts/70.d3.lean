/-! the component: pictures and drawings, in the reference's words -/
theorem zX.mono {E : zE} {Y : zY} {d : Nat} {av : List Value} {σ : zH} {r : Option Value} {P Q : zH → Prop} (h : zX E Y d av σ r P) (hP : ∀ s, P s → Q s) : zX E Y d av σ r Q := by
  intro n
  have hn := h n
  unfold zMet Met at hn ⊢
  refine MetFree.mono hn (fun _ _ h => h) (fun _ _ _ _ _ h => h) (fun a s o s' _ g => ?_)
  obtain ⟨⟨r', n', σ', h1, ⟨h2, h3, h4⟩, h5⟩, g2⟩ := g
  exact ⟨⟨r', n', σ', h1, ⟨h2, h3, hP _ h4⟩, h5⟩, g2⟩
theorem zM.post {E : zE} {Y : zY} {d : Nat} {av : List Value} {σ σ' : zH} {r : Option Value} {Q : zH → Prop} (h : zM E Y d av σ r σ') (hQ : Q σ') : zX E Y d av σ r Q := zX.mono h.toX (fun s e => by subst e; exact hQ)
theorem zX.res {E : zE} {Y : zY} {d : Nat} {av : List Value} {σ : zH} {r r' : Option Value} {P : zH → Prop} (h : zX E Y d av σ r P) (e : r = r') : zX E Y d av σ r' P := e ▸ h
section
variable {E : zE} {σ : zH} {c : Nat} {K : zDc}
theorem kTake (h : dAt σ c K) {ns : Nat} {r : Nat → Int32} (ok2 : mOk2 r ns) (hwo : woR K.n.w r) (w : Nat) (hw : w < 4) (dk : Int32) (hdk : zr dk 16) (g air : Nat) (hg : g < 4) (ha : air < 5) : zX E YPi_takeWorld 4 [.ref (c + 126 + 1), .ref (c + 1 + 2 + 3 * w), .int dk, .int (nI g), .int (nI air)] σ none (fun s => zsm σ s c (c + 134) ∧ ∃ P, dAt s c (K.sp P) ∧ pcT P (mSeen (mPic r w dk) g air) g) := by
  have hk := k_takeWorld (E := E) (σ := σ) (a := c + 126 + 1) (b := c + 1 + 2 + 3 * w) (M := K.p) (N := K.n.w w) (h.2.1.2.2.1 w hw) (by omega) h.2.2.2.2.2.2.2.1.1 h.2.2.2.2.2.2.2.1.2 dk g air hg ha
  rw [zkp_id h.2.2.2.2.2.2.1] at hk
  refine hk.mono (fun s hs => ?_)
  obtain ⟨M', rfl, h1, h2, h3, h4⟩ := hs
  obtain ⟨ht, hz⟩ := pic_of ha h1 h2 h3 h4 (fun x hx => dk_eq (hwo w hw).1 (hwo w hw).2 (ok2.1 w hw) dk hdk x hx)
  exact ⟨zkp_sm.wide (by omega) (by omega), M', h.up M' hz, ht⟩
theorem kSpots (h : dAt σ c K) {r : Nat → Int32} (hwo : woR K.n.w r) {mk : Nat → Nat} (hmk : ∀ m, m < 8 → K.n.m m = nI (mk m) ∧ mk m < 81) (w : Nat) (hw : w < 4) (g : Nat) (hg : g < 4) : zX E YPi_takeSpots 4 [.ref (c + 126 + 1), .ref (c + 1 + 2 + 3 * w), .ref (c + 1 + 14), .int (nI g)] σ none (fun s => zsm σ s c (c + 134) ∧ ∃ P, dAt s c (K.sp P) ∧ pcT P (mSeen (mFp r w mk (fun _ => 0) 8) g 0) g) := by
  have hk := k_takeSpots (E := E) (σ := σ) (a := c + 126 + 1) (b := c + 1 + 2 + 3 * w) (M := K.p) (N := K.n.w w) (h.2.1.2.2.1 w hw) (by omega) (c + 1 + 14) K.n.m mk h.2.1.2.2.2.1 (by omega) hmk h.2.2.2.2.2.2.2.1.1 h.2.2.2.2.2.2.2.1.2 g hg
  rw [zkp_id h.2.2.2.2.2.2.1] at hk
  refine hk.mono (fun s hs => ?_)
  obtain ⟨M', rfl, h1, h2, h3, h4⟩ := hs
  obtain ⟨ht, hz⟩ := pic_of (by decide) h1 h2 h3 h4 (fun x hx => pSp_mFp (hwo w hw).1 mk (fun m hm => (hmk m hm).2) _ (fun x hx => zfl_lt hx) 8 (by decide) x hx)
  exact ⟨zkp_sm.wide (by omega) (by omega), M', h.up M' hz, ht⟩
theorem kMk {S : zSc} {no ns nh ng : Nat} {ml mk : Nat → Nat} {r : Nat → Int32} (ok : mOk r no ns nh ng ml mk) (hs : sRl S r ml) : ∀ m, m < 8 → S.m m = nI (mk m) ∧ mk m < 81 := fun m hm => ⟨(hs.2.1 m hm).trans (ok.2.2.2.2.2.1 m hm).1, (ok.2.2.2.2.2.1 m hm).2⟩
theorem zand_m1 (x y : Int32) : (x &&& (0 ^^^ (-1))) ||| (y &&& 0) = x := by simp
theorem zand_00 (y : Int32) : (0 &&& (y ^^^ (-1))) ||| (0 &&& y) = 0 := by simp
theorem kLines (h : dAt σ c K) {no ns nh ng : Nat} {ml mk : Nat → Nat} {r : Nat → Int32} (ok : mOk r no ns nh ng ml mk) (hs : sRl K.n r ml) (l : Nat) (hl : l < 4) {see : Nat → Int32} {g : Nat} (ht : pcT K.p see g) : zX E YEy_linesOf 3 [.ref (c + 126), .ref (c + 1 + 16 + 3 * l), .ref (c + 1 + 14), .int 0] σ (some (.int (mDw (fun j => r (372 + 40 * l + j)) (ml l) see g 0 mk))) (fun s => zsm σ s c (c + 134) ∧ ∃ Ey, dAt s c (K.se Ey)) := by
  have hlw := hs.2.2.1 l hl
  have hmk := kMk ok hs
  by_cases hf : (qRead (fun j => r (372 + 40 * l + j)) (ml l)).1 = -1
  · obtain ⟨q1, q2, q3, q4⟩ := hlw.2.2.2.2 hf
    obtain ⟨o1, o2, o3⟩ := qRead_ok _ (ml l) (ok.2.2.2.2.1 l hl).2 hf
    have hk := k_Elines (E := E) (σ := σ) (a := c + 126) (b := c + 1 + 16 + 3 * l) (M := K.e) (N := K.n.l l) (Pc := K.p) (h.2.1.2.2.2.2.2.1 l hl) (by omega) h.2.2.2.2.2.2.1 g ht.1 (c + 1 + 14) K.n.m mk h.2.1.2.2.2.1 (by omega) hmk 0 _ q1 o1 q2 q3 (fun lt => (o3 lt).elim fun v hv => ⟨_, hv⟩) (hlw.2.2.1.trans hf)
    rw [zke_id h.2.2.2.2.2.1] at hk
    refine (hk.mono (fun s hs => ?_)).res ?_
    · obtain ⟨Mk, rfl, _⟩ := hs
      exact ⟨zke_sm.wide (by omega) (by omega), Mk, h.ue Mk⟩
    · unfold mDw
      rw [if_pos hf, cTr_cg ht.2 _ g 0 (fun m hm => (hmk m hm).2), ← shown_eq, zand_m1]
  · have hk := k_Elines_f (E := E) (σ := σ) (a := c + 126) (b := c + 1 + 16 + 3 * l) (M := K.e) (N := K.n.l l) (h.2.1.2.2.2.2.2.1 l hl) (by omega) (c + 1 + 14) 0 (fun e => hf (hlw.2.2.1.symm.trans e))
    rw [zke_id h.2.2.2.2.2.1] at hk
    refine (hk.post ?_).res ?_
    · exact ⟨zsm.rfl', K.e, h⟩
    · unfold mDw; rw [if_neg hf]
theorem kLook (h : dAt σ c K) {no ns nh ng : Nat} {ml mk : Nat → Nat} {r : Nat → Int32} (ok : mOk r no ns nh ng ml mk) (hs : sRl K.n r ml) (l : Nat) (hl : l < 4) {see : Nat → Int32} {g : Nat} (ht : pcT K.p see g) : zX E YEy_look 4 [.ref (c + 126), .ref (c + 1 + 16 + 3 * l), .ref (c + 1 + 14)] σ none (fun s => zsm σ s c (c + 134) ∧ ∃ Ey : zMo, dAt s c (K.se Ey) ∧ ∀ shown : Int32, (Ey.2.2.1 0 &&& (shown ^^^ (-1))) ||| (Ey.2.2.1 1 &&& shown) = mDw (fun j => r (372 + 40 * l + j)) (ml l) see g shown mk) := by
  have hlw := hs.2.2.1 l hl
  have hmk := kMk ok hs
  by_cases hf : (qRead (fun j => r (372 + 40 * l + j)) (ml l)).1 = -1
  · obtain ⟨q1, q2, q3, q4⟩ := hlw.2.2.2.2 hf
    obtain ⟨o1, o2, o3⟩ := qRead_ok _ (ml l) (ok.2.2.2.2.1 l hl).2 hf
    have hk := k_look (E := E) (σ := σ) (a := c + 126) (b := c + 1 + 16 + 3 * l) (M := K.e) (N := K.n.l l) (Pc := K.p) (h.2.1.2.2.2.2.2.1 l hl) (by omega) h.2.2.2.2.2.2.1 g ht.1 (c + 1 + 14) K.n.m mk h.2.1.2.2.2.1 (by omega) hmk _ q1 o1 q2 q3 (fun lt => (o3 lt).elim fun v hv => ⟨_, hv⟩) (hlw.2.2.1.trans hf)
    rw [zke_id h.2.2.2.2.2.1] at hk
    refine hk.mono (fun s hs => ?_)
    obtain ⟨Mk, rfl, m1, m2⟩ := hs
    refine ⟨zke_sm.wide (by omega) (by omega), Mk, h.ue Mk, fun shown => ?_⟩
    have e1 : Mk.2.2.1 1 = pDr (cTr (qRead (fun j => r (372 + 40 * l + j)) (ml l)).2.1 (K.p.1 2) g 1 mk) 28 := by
      rw [m2]
      split
      · next h0 => exact cTr_nk _ (fun p hp => ⟨q3 p hp, q4 h0 p hp⟩) _ g mk
      · rfl
    rw [m1, e1, cTr_cg ht.2 _ g 0 (fun m hm => (hmk m hm).2), cTr_cg ht.2 _ g 1 (fun m hm => (hmk m hm).2), shown_eq]
    unfold mDw
    rw [if_pos hf]
  · have hk := k_look_f (E := E) (σ := σ) (a := c + 126) (b := c + 1 + 16 + 3 * l) (M := K.e) (N := K.n.l l) (h.2.1.2.2.2.2.2.1 l hl) (by omega) (c + 1 + 14) (fun e => hf (hlw.2.2.1.symm.trans e))
    rw [zke_id h.2.2.2.2.2.1] at hk
    refine hk.post ?_
    refine ⟨zke_sm.wide (by omega) (by omega), _, h.ue _, fun shown => ?_⟩
    unfold mDw; rw [if_neg hf]
    exact zand_00 shown
theorem k_Dlook (h : dAt σ c K) {no ns nh ng : Nat} {ml mk : Nat → Nat} {r : Nat → Int32} (ok : mOk r no ns nh ng ml mk) (ok2 : mOk2 r ns) (hs : sRl K.n r ml) (l w dk g air : Nat) (hl : l < 4) (hw : w < 4) (hdk : dk < 16) (hg : g < 4) (ha : air < 5) : zX E YD_look 5 [.ref c, .int (nI l), .int (nI w), .int (nI dk), .int (nI g), .int (nI air)] (σ) (none) (fun s => zsm σ s c (c + 134) ∧ ∃ Pc Ey : zMo, dAt s c ((K.sp Pc).se Ey) ∧ ∀ shown : Int32, (Ey.2.2.1 0 &&& (shown ^^^ (-1))) ||| (Ey.2.2.1 1 &&& shown) = mDw (fun j => r (372 + 40 * l + j)) (ml l) (mSeen (mPic r w (nI dk)) g air) g shown mk) := by
  refine zX.of oD_look (by decide +kernel) rfl rfl (fun n => ?_)
  refine zj_aload_n 0 rfl rfl rfl ?_
  refine zj_get 1 rfl rfl h.1 rfl ?_
  refine zj_get 2 rfl rfl h.2.2.2.2.2.1.1 rfl ?_
  refine zj_aload_n 3 rfl rfl rfl ?_
  refine zj_get 4 rfl rfl h.1 rfl ?_
  refine zj_get 5 rfl rfl h.2.1.1 rfl ?_
  refine zj_iload_n 6 rfl rfl rfl ?_
  refine zn_aald 7 (w) rfl rfl h.2.1.2.1 (by decide) rfl (by omega) (by decide) rfl ?_
  refine zj_iload_n 8 rfl rfl rfl ?_
  refine zj_iload 9 rfl rfl rfl ?_
  refine zj_iload 10 rfl rfl rfl ?_
  refine zj_cvvX 11 rfl rfl lk_7_76 ckPi_takeWorld (kTake h ok2 hs.1 w hw (nI dk) (zr_of (n := 16) hdk (by decide)) g air hg ha) rfl h.2.2.2.2.2.2.1.1 rfl rfl rfl (fun s1 hP1 => ?_)
  obtain ⟨e1, P1, h1, t1⟩ := hP1
  refine zj_aload_n 12 rfl rfl rfl ?_
  refine zj_get 13 rfl rfl h1.1 rfl ?_
  refine zj_aload_n 14 rfl rfl rfl ?_
  refine zj_get 15 rfl rfl h1.1 rfl ?_
  refine zj_get 16 rfl rfl h1.2.1.1 rfl ?_
  refine zj_iload_n 17 rfl rfl rfl ?_
  refine zn_aald 18 (l) rfl rfl h1.2.1.2.2.2.2.1 (by decide) rfl (by omega) (by decide) rfl ?_
  refine zj_aload_n 19 rfl rfl rfl ?_
  refine zj_get 20 rfl rfl h1.1 rfl ?_
  refine zj_get 21 rfl rfl h1.2.1.1 rfl ?_
  refine zj_cvvX 22 rfl rfl lk_7_284 ckEy_look (kLook h1 ok hs l hl t1) rfl h1.2.2.2.2.2.1.1 rfl rfl rfl (fun s1 hP1 => ?_)
  obtain ⟨e2, Ey2, h2, q2⟩ := hP1
  refine zj_return 23 rfl rfl rfl ?_
  exact ⟨rfl, rfl, e1.trans e2, P1, Ey2, h2, q2⟩
theorem k_Dlff (h : dAt σ c K) {no ns nh ng : Nat} {ml mk : Nat → Nat} {r : Nat → Int32} (ok : mOk r no ns nh ng ml mk) (ok2 : mOk2 r ns) (hs : sRl K.n r ml) (l w g : Nat) (hl : l < 4) (hw : w < 4) (hg : g < 4) : zX E YD_linesFromFar 5 [.ref c, .int (nI l), .int (nI w), .int (nI g)] (σ) (some (.int (mFar r ml mk l w g))) (dQ σ c K) := by
  refine zX.of oD_linesFromFar (by decide +kernel) rfl rfl (fun n => ?_)
  refine zj_aload_n 0 rfl rfl rfl ?_
  refine zj_get 1 rfl rfl h.1 rfl ?_
  refine zj_get 2 rfl rfl h.2.2.2.2.2.1.1 rfl ?_
  refine zj_aload_n 3 rfl rfl rfl ?_
  refine zj_get 4 rfl rfl h.1 rfl ?_
  refine zj_get 5 rfl rfl h.2.1.1 rfl ?_
  refine zj_iload_n 6 rfl rfl rfl ?_
  refine zn_aald 7 (w) rfl rfl h.2.1.2.1 (by decide) rfl (by omega) (by decide) rfl ?_
  refine zj_aload_n 8 rfl rfl rfl ?_
  refine zj_get 9 rfl rfl h.1 rfl ?_
  refine zj_get 10 rfl rfl h.2.1.1 rfl ?_
  refine zj_iload_n 11 rfl rfl rfl ?_
  refine zj_cvvX 12 rfl rfl lk_7_287 ckPi_takeSpots (kSpots h hs.1 (kMk ok hs) w hw g hg) rfl h.2.2.2.2.2.2.1.1 rfl rfl rfl (fun s1 hP1 => ?_)
  obtain ⟨e1, P1, h1, t1⟩ := hP1
  refine zj_aload_n 13 rfl rfl rfl ?_
  refine zj_get 14 rfl rfl h1.1 rfl ?_
  refine zj_aload_n 15 rfl rfl rfl ?_
  refine zj_get 16 rfl rfl h1.1 rfl ?_
  refine zj_get 17 rfl rfl h1.2.1.1 rfl ?_
  refine zj_iload_n 18 rfl rfl rfl ?_
  refine zn_aald 19 (l) rfl rfl h1.2.1.2.2.2.2.1 (by decide) rfl (by omega) (by decide) rfl ?_
  refine zj_aload_n 20 rfl rfl rfl ?_
  refine zj_get 21 rfl rfl h1.1 rfl ?_
  refine zj_get 22 rfl rfl h1.2.1.1 rfl ?_
  refine zj_iconst 23 (0) rfl rfl (by decide) ?_
  refine zj_cvxX 24 rfl rfl lk_7_235 ckEy_linesOf (kLines h1 ok hs l hl t1) rfl h1.2.2.2.2.2.1.1 rfl rfl rfl (fun s1 hP1 => ?_)
  obtain ⟨e2, Ey2, h2⟩ := hP1
  refine zj_ireturn 25 rfl rfl rfl ?_
  exact ⟨rfl, rfl, e1.trans e2, _, h2, ⟨rfl, rfl, rfl, rfl, rfl⟩⟩
theorem k_Dfar (h : dAt σ c K) {no ns nh ng : Nat} {ml mk : Nat → Nat} {r : Nat → Int32} (ok : mOk r no ns nh ng ml mk) (ok2 : mOk2 r ns) (hs : sRl K.n r ml) (l w g : Nat) (hl : l < 4) (hw : w < 4) (hg : g < 4) : zX E YD_far 6 [.ref c, .int (nI l), .int (nI w), .int (nI g)] (σ) (some (.int (mFar r ml mk l w g))) (dQ σ c K) := by
  refine zX.of oD_far (by decide +kernel) rfl rfl (fun n => ?_)
  refine zj_iload_n 0 rfl rfl rfl ?_
  refine zj_iconst 1 (4) rfl rfl (by decide) ?_
  refine zj_csx 2 rfl rfl lk_7_42 ckD_isOneOf (k_isOneOf _ _) rfl rfl rfl rfl ?_
  refine zj_if_eq 3 rfl rfl (fun c5 => ?_) (fun c5 => ?_)
  · exact absurd (zr_of (n := 4) (by omega) (by decide)) (zo_0.mp c5)
  · refine zj_iload_n 4 rfl rfl rfl ?_
    refine zj_iconst 5 (4) rfl rfl (by decide) ?_
    refine zj_csx 6 rfl rfl lk_7_42 ckD_isOneOf (k_isOneOf _ _) rfl rfl rfl rfl ?_
    refine zj_if_eq 7 rfl rfl (fun c13 => ?_) (fun c13 => ?_)
    · exact absurd (zr_of (n := 4) (by omega) (by decide)) (zo_0.mp c13)
    · refine zj_iload_n 8 rfl rfl rfl ?_
      refine zj_iconst 9 (4) rfl rfl (by decide) ?_
      refine zj_csx 10 rfl rfl lk_7_42 ckD_isOneOf (k_isOneOf _ _) rfl rfl rfl rfl ?_
      refine zj_if_ne 11 rfl rfl (fun c21 => ?_) (fun c21 => ?_)
      · refine zj_aload_n 14 rfl rfl rfl ?_
        refine zj_iload_n 15 rfl rfl rfl ?_
        refine zj_iload_n 16 rfl rfl rfl ?_
        refine zj_iload_n 17 rfl rfl rfl ?_
        refine zj_cvxX 18 rfl rfl lk_7_120 ckD_linesFromFar (k_Dlff h ok ok2 hs l w g hl hw hg) rfl h.1 rfl rfl rfl (fun s1 hP1 => ?_)
        skip
        refine zj_ireturn 19 rfl rfl rfl ?_
        exact ⟨rfl, rfl, hP1⟩
      · exact absurd (zr_of (n := 4) (by omega) (by decide)) (zo_0.mp c21)
theorem k_Dfar_bad (h : dAt σ c K) (x y z : Int32) (hb : ¬ (zr x 4 ∧ zr y 4 ∧ zr z 4)) : zM E YD_far 6 [.ref c, .int x, .int y, .int z] (σ) (some (.int (-2))) (σ) := by
  refine zM.of oD_far (by decide +kernel) rfl rfl (fun n => ?_)
  refine zj_iload_n 0 rfl rfl rfl ?_
  refine zj_iconst 1 (4) rfl rfl (by decide) ?_
  refine zj_csx 2 rfl rfl lk_7_42 ckD_isOneOf (k_isOneOf _ _) rfl rfl rfl rfl ?_
  refine zj_if_eq 3 rfl rfl (fun c5 => ?_) (fun c5 => ?_)
  · refine zj_bipush 12 (-2) rfl rfl (by decide) ?_
    refine zj_ireturn 13 rfl rfl rfl ?_
    exact ⟨rfl, rfl, rfl⟩
  · refine zj_iload_n 4 rfl rfl rfl ?_
    refine zj_iconst 5 (4) rfl rfl (by decide) ?_
    refine zj_csx 6 rfl rfl lk_7_42 ckD_isOneOf (k_isOneOf _ _) rfl rfl rfl rfl ?_
    refine zj_if_eq 7 rfl rfl (fun c13 => ?_) (fun c13 => ?_)
    · refine zj_bipush 12 (-2) rfl rfl (by decide) ?_
      refine zj_ireturn 13 rfl rfl rfl ?_
      exact ⟨rfl, rfl, rfl⟩
    · refine zj_iload_n 8 rfl rfl rfl ?_
      refine zj_iconst 9 (4) rfl rfl (by decide) ?_
      refine zj_csx 10 rfl rfl lk_7_42 ckD_isOneOf (k_isOneOf _ _) rfl rfl rfl rfl ?_
      refine zj_if_ne 11 rfl rfl (fun c21 => ?_) (fun c21 => ?_)
      · exact absurd ⟨zo_n0.mp c5, zo_n0.mp c13, zo_n0.mp c21⟩ hb
      · refine zj_bipush 12 (-2) rfl rfl (by decide) ?_
        refine zj_ireturn 13 rfl rfl rfl ?_
        exact ⟨rfl, rfl, rfl⟩
theorem k_Dseen (h : dAt σ c K) {no ns nh ng : Nat} {ml mk : Nat → Nat} {r : Nat → Int32} (ok : mOk r no ns nh ng ml mk) (ok2 : mOk2 r ns) (hs : sRl K.n r ml) (x w dk g air : Nat) (hx : x < 81) (hw : w < 4) (hdk : dk < 16) (hg : g < 4) (ha : air < 5) : zX E YD_seen 5 [.ref c, .int (nI w), .int (nI dk), .int (nI g), .int (nI air), .int (nI x)] (σ) (some (.int (mSeen (mPic r w (nI dk)) g air x))) (dQ σ c K) := by
  refine zX.of oD_seen (by decide +kernel) rfl rfl (fun n => ?_)
  refine zj_iload_n 0 rfl rfl rfl ?_
  refine zj_iload_n 1 rfl rfl rfl ?_
  refine zj_iload_n 2 rfl rfl rfl ?_
  refine zj_iload 3 rfl rfl rfl ?_
  refine zj_csx 4 rfl rfl lk_7_68 ckD_isView (k_isView _ _ _ _) rfl rfl rfl rfl ?_
  refine zj_if_eq 5 rfl rfl (fun c8 => ?_) (fun c8 => ?_)
  · exact absurd ⟨zr_of (n := 4) (by omega) (by decide), zr_of (n := 16) (by omega) (by decide), zr_of (n := 4) (by omega) (by decide), zr_of (n := 5) (by omega) (by decide)⟩ (zo_0.mp c8)
  · refine zj_iload 6 rfl rfl rfl ?_
    refine zj_bipush 7 (81) rfl rfl (by decide) ?_
    refine zj_csx 8 rfl rfl lk_7_42 ckD_isOneOf (k_isOneOf _ _) rfl rfl rfl rfl ?_
    refine zj_if_ne 9 rfl rfl (fun c18 => ?_) (fun c18 => ?_)
    · refine zj_aload_n 12 rfl rfl rfl ?_
      refine zj_get 13 rfl rfl h.1 rfl ?_
      refine zj_get 14 rfl rfl h.2.2.2.2.2.1.1 rfl ?_
      refine zj_aload_n 15 rfl rfl rfl ?_
      refine zj_get 16 rfl rfl h.1 rfl ?_
      refine zj_get 17 rfl rfl h.2.1.1 rfl ?_
      refine zj_iload_n 18 rfl rfl rfl ?_
      refine zn_aald 19 (w) rfl rfl h.2.1.2.1 (by decide) rfl (by omega) (by decide) rfl ?_
      refine zj_iload_n 20 rfl rfl rfl ?_
      refine zj_iload_n 21 rfl rfl rfl ?_
      refine zj_iload 22 rfl rfl rfl ?_
      refine zj_cvvX 23 rfl rfl lk_7_76 ckPi_takeWorld (kTake h ok2 hs.1 w hw (nI dk) (zr_of (n := 16) hdk (by decide)) g air hg ha) rfl h.2.2.2.2.2.2.1.1 rfl rfl rfl (fun s1 hP1 => ?_)
      obtain ⟨e1, P1, h1, t1⟩ := hP1
      refine zj_aload_n 24 rfl rfl rfl ?_
      refine zj_get 25 rfl rfl h1.1 rfl ?_
      refine zj_get 26 rfl rfl h1.2.2.2.2.2.1.1 rfl ?_
      refine zj_get 27 rfl rfl h1.2.2.2.2.2.2.1.1 rfl ?_
      refine zj_iload 28 rfl rfl rfl ?_
      refine zn_iald 29 (x) rfl rfl h1.2.2.2.2.2.2.1.2.2.2 rfl (by omega) (by decide) ?_
      refine zj_ireturn 30 rfl rfl rfl ?_
      exact ⟨zrt (t1.2 x hx), rfl, e1, _, h1, ⟨rfl, rfl, rfl, rfl, rfl⟩⟩
    · exact absurd (zr_of (n := 81) (by omega) (by decide)) (zo_0.mp c18)
theorem k_Dseen_bad (h : dAt σ c K) (w dk g air x : Int32) (hb : ¬ ((zr w 4 ∧ zr dk 16 ∧ zr g 4 ∧ zr air 5) ∧ zr x 81)) : zM E YD_seen 5 [.ref c, .int w, .int dk, .int g, .int air, .int x] (σ) (some (.int (-2))) (σ) := by
  refine zM.of oD_seen (by decide +kernel) rfl rfl (fun n => ?_)
  refine zj_iload_n 0 rfl rfl rfl ?_
  refine zj_iload_n 1 rfl rfl rfl ?_
  refine zj_iload_n 2 rfl rfl rfl ?_
  refine zj_iload 3 rfl rfl rfl ?_
  refine zj_csx 4 rfl rfl lk_7_68 ckD_isView (k_isView _ _ _ _) rfl rfl rfl rfl ?_
  refine zj_if_eq 5 rfl rfl (fun c8 => ?_) (fun c8 => ?_)
  · refine zj_bipush 10 (-2) rfl rfl (by decide) ?_
    refine zj_ireturn 11 rfl rfl rfl ?_
    exact ⟨rfl, rfl, rfl⟩
  · refine zj_iload 6 rfl rfl rfl ?_
    refine zj_bipush 7 (81) rfl rfl (by decide) ?_
    refine zj_csx 8 rfl rfl lk_7_42 ckD_isOneOf (k_isOneOf _ _) rfl rfl rfl rfl ?_
    refine zj_if_ne 9 rfl rfl (fun c18 => ?_) (fun c18 => ?_)
    · exact absurd ⟨zo_n0.mp c8, zo_n0.mp c18⟩ hb
    · refine zj_bipush 10 (-2) rfl rfl (by decide) ?_
      refine zj_ireturn 11 rfl rfl rfl ?_
      exact ⟨rfl, rfl, rfl⟩
theorem k_Ddrawn (h : dAt σ c K) {no ns nh ng : Nat} {ml mk : Nat → Nat} {r : Nat → Int32} (ok : mOk r no ns nh ng ml mk) (ok2 : mOk2 r ns) (hs : sRl K.n r ml) (l w dk g air : Nat) (hl : l < 4) (hw : w < 4) (hdk : dk < 16) (hg : g < 4) (ha : air < 5) (shown : Int32) (hsh : zr shown 268435456) : zX E YD_drawn 6 [.ref c, .int (nI l), .int (nI w), .int (nI dk), .int (nI g), .int (nI air), .int shown] (σ) (some (.int (mDw (fun j => r (372 + 40 * l + j)) (ml l) (mSeen (mPic r w (nI dk)) g air) g shown mk))) (dQ σ c K) := by
  refine zX.of oD_drawn (by decide +kernel) rfl rfl (fun n => ?_)
  refine zj_iload_n 0 rfl rfl rfl ?_
  refine zj_iconst 1 (4) rfl rfl (by decide) ?_
  refine zj_csx 2 rfl rfl lk_7_42 ckD_isOneOf (k_isOneOf _ _) rfl rfl rfl rfl ?_
  refine zj_if_eq 3 rfl rfl (fun c5 => ?_) (fun c5 => ?_)
  · exact absurd (zr_of (n := 4) (by omega) (by decide)) (zo_0.mp c5)
  · refine zj_iload_n 4 rfl rfl rfl ?_
    refine zj_iload_n 5 rfl rfl rfl ?_
    refine zj_iload 6 rfl rfl rfl ?_
    refine zj_iload 7 rfl rfl rfl ?_
    refine zj_csx 8 rfl rfl lk_7_68 ckD_isView (k_isView _ _ _ _) rfl rfl rfl rfl ?_
    refine zj_if_eq 9 rfl rfl (fun c17 => ?_) (fun c17 => ?_)
    · exact absurd ⟨zr_of (n := 4) (by omega) (by decide), zr_of (n := 16) (by omega) (by decide), zr_of (n := 4) (by omega) (by decide), zr_of (n := 5) (by omega) (by decide)⟩ (zo_0.mp c17)
    · refine zj_iload 10 rfl rfl rfl ?_
      refine zj_ldc 11 (268435456) rfl rfl (by decide) ?_
      refine zj_csx 12 rfl rfl lk_7_42 ckD_isOneOf (k_isOneOf _ _) rfl rfl rfl rfl ?_
      refine zj_if_ne 13 rfl rfl (fun c27 => ?_) (fun c27 => ?_)
      · refine zj_aload_n 16 rfl rfl rfl ?_
        refine zj_iload_n 17 rfl rfl rfl ?_
        refine zj_iload_n 18 rfl rfl rfl ?_
        refine zj_iload_n 19 rfl rfl rfl ?_
        refine zj_iload 20 rfl rfl rfl ?_
        refine zj_iload 21 rfl rfl rfl ?_
        refine zj_cvvX 22 rfl rfl lk_7_113 ckD_look (k_Dlook h ok ok2 hs l w dk g air hl hw hdk hg ha) rfl h.1 rfl rfl rfl (fun s1 hP1 => ?_)
        obtain ⟨e1, P1, Y1, h1, q1⟩ := hP1
        refine zj_aload_n 23 rfl rfl rfl ?_
        refine zj_get 24 rfl rfl h1.1 rfl ?_
        refine zj_iload 25 rfl rfl rfl ?_
        refine zj_cvx 26 rfl rfl lk_7_117 ckEy_linesIfShown (k_linesIfShown h1.2.2.2.2.2.1 shown) rfl h1.2.2.2.2.2.1.1 rfl rfl rfl ?_
        refine zj_ireturn 27 rfl rfl rfl ?_
        exact ⟨zrt (q1 shown), rfl, e1, _, h1, ⟨rfl, rfl, rfl, rfl, rfl⟩⟩
      · exact absurd hsh (zo_0.mp c27)
theorem k_Ddrawn_bad (h : dAt σ c K) (l w dk g air shown : Int32) (hb : ¬ (zr l 4 ∧ (zr w 4 ∧ zr dk 16 ∧ zr g 4 ∧ zr air 5) ∧ zr shown 268435456)) : zM E YD_drawn 6 [.ref c, .int l, .int w, .int dk, .int g, .int air, .int shown] (σ) (some (.int (-2))) (σ) := by
  refine zM.of oD_drawn (by decide +kernel) rfl rfl (fun n => ?_)
  refine zj_iload_n 0 rfl rfl rfl ?_
  refine zj_iconst 1 (4) rfl rfl (by decide) ?_
  refine zj_csx 2 rfl rfl lk_7_42 ckD_isOneOf (k_isOneOf _ _) rfl rfl rfl rfl ?_
  refine zj_if_eq 3 rfl rfl (fun c5 => ?_) (fun c5 => ?_)
  · refine zj_bipush 14 (-2) rfl rfl (by decide) ?_
    refine zj_ireturn 15 rfl rfl rfl ?_
    exact ⟨rfl, rfl, rfl⟩
  · refine zj_iload_n 4 rfl rfl rfl ?_
    refine zj_iload_n 5 rfl rfl rfl ?_
    refine zj_iload 6 rfl rfl rfl ?_
    refine zj_iload 7 rfl rfl rfl ?_
    refine zj_csx 8 rfl rfl lk_7_68 ckD_isView (k_isView _ _ _ _) rfl rfl rfl rfl ?_
    refine zj_if_eq 9 rfl rfl (fun c17 => ?_) (fun c17 => ?_)
    · refine zj_bipush 14 (-2) rfl rfl (by decide) ?_
      refine zj_ireturn 15 rfl rfl rfl ?_
      exact ⟨rfl, rfl, rfl⟩
    · refine zj_iload 10 rfl rfl rfl ?_
      refine zj_ldc 11 (268435456) rfl rfl (by decide) ?_
      refine zj_csx 12 rfl rfl lk_7_42 ckD_isOneOf (k_isOneOf _ _) rfl rfl rfl rfl ?_
      refine zj_if_ne 13 rfl rfl (fun c27 => ?_) (fun c27 => ?_)
      · exact absurd ⟨zo_n0.mp c5, zo_n0.mp c17, zo_n0.mp c27⟩ hb
      · refine zj_bipush 14 (-2) rfl rfl (by decide) ?_
        refine zj_ireturn 15 rfl rfl rfl ?_
        exact ⟨rfl, rfl, rfl⟩
end
