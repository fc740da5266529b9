/-! the reference: guesses -/
def mOk (r : Nat → Int32) (no ns nh ng : Nat) (ml mk : Nat → Nat) : Prop :=
  (r 532 = nI no ∧ no ≤ 8) ∧ (r 549 = nI ns ∧ ns ≤ 16) ∧ (r 598 = nI nh ∧ nh ≤ 60) ∧ (r 780 = nI ng ∧ ng ≤ 12) ∧ (∀ l, l < 4 → r (368 + l) = nI (ml l) ∧ ml l ≤ 40) ∧ (∀ m, m < 8 → r (360 + m) = nI (mk m) ∧ mk m < 81) ∧
  (∀ o, o < no → zr (rOl r o) 4) ∧ (∀ s, s < ns → zr (rSo r s) 8) ∧ (∀ g, g < ng → zr (rGw r g) 4 ∧ zr (rGl r g) 4 ∧ zr (rGg r g) 4)
abbrev mD (r : Nat → Int32) (ml mk : Nat → Nat) (l w g : Nat) (shown : Int32) : Int32 := mDw (fun j => r (372 + 40 * l + j)) (ml l) (mSeen (mPic r w 0) g 0) g shown mk
theorem zr4 {v : Int32} (h : zr v 4) : v.toNatClampNeg < 4 ∧ v = nI v.toNatClampNeg := by
  obtain ⟨j, hj, rfl⟩ := zr_nI (n := 4) h
  rw [nI_clamp (by omega)]
  exact ⟨hj, rfl⟩
abbrev mAl (r : Nat → Int32) (ns nh : Nat) (ml mk : Nat → Nat) (gi s : Nat) : Prop := zb28 (mD r ml mk (rGl r gi).toNatClampNeg (rGw r gi).toNatClampNeg (rGg r gi).toNatClampNeg (pSHm r nh ns (rSo r s) (rSn r s)) ^^^ rSl r s) 28 ≤ r 817
theorem mw_1r {σ : zH} {a : Nat} {M Mk : zMo} (h : mCr M Mk) : mw σ a Mk (a + 1) = some (.inl (0, 818, .inl (M.1 0))) := by rw [mw_1, h.1]
theorem mQ_tr {σ : zH} {a : Nat} {M M1 : zMo} (h : mCr M M1) (s : zH) (g : mQ σ a M1 s) : mQ σ a M s := by
  obtain ⟨M', e, h1⟩ := g
  exact ⟨M', e, h.trans h1⟩
def pMB (ns : Nat) (sheets : Int32) (al : Nat → Nat → Bool) : Nat → Int32
  | 0 => 0
  | g + 1 => pMB ns sheets al g ||| (if ∀ s, s < ns → zhas sheets (nI s) → al g s = true then 1 <<< (nI g &&& 31) else 0)
def pWd (gw : Nat → Int32) (may : Int32) : Nat → Int32
  | 0 => 0
  | g + 1 => pWd gw may g ||| (if zhas may (nI g) then 1 <<< (gw g &&& 31) else 0)
section
variable {E : zE} {σ : zH} {a : Nat} {M : zMo}
theorem k_linesOf_r (r : Nat → Int32) (hr0 : M.1 0 = r) (s : Nat) (hs : s < 80) : zM E YM_linesOf 1 [.ref a, .int (nI s)] (mw σ a M) (some (.int (rSl r s))) (mw σ a M) := by
  subst hr0; exact k_linesOf s hs
theorem k_shownFor_r (r : Nat → Int32) (hr0 : M.1 0 = r) (no ns nh ng : Nat) (ml mk : Nat → Nat) (ok : mOk r no ns nh ng ml mk) (s : Nat) (hs : s < 80) : zM E YM_shownFor 3 [.ref a, .int (nI s)] (mw σ a M) (some (.int (pSHm r nh ns (rSo r s) (rSn r s)))) (mw σ a M) := by
  subst hr0; exact k_shownFor s hs nh ns ok.2.2.1.1 ok.2.2.1.2 ok.2.1.1 ok.2.1.2
theorem k_drawnOn_r (r : Nat → Int32) (hr0 : M.1 0 = r) (no ns nh ng : Nat) (ml mk : Nat → Nat) (ok : mOk r no ns nh ng ml mk) (l w g : Nat) (x y z : Int32) (hl : l < 4) (hw : w < 4) (hg : g < 4) (hx : x = nI l) (hy : y = nI w) (hz : z = nI g) (shown : Int32) : zX E YM_drawnOn 8 [.ref a, .int x, .int y, .int 0, .int z, .int 0, .int shown] (mw σ a M) (some (.int (mD r ml mk l w g shown))) (mQ σ a M) := by
  subst hr0; subst hx; subst hy; subst hz
  exact k_drawnOn w hw 0 l g 0 (ml l) shown mk hl hg (by decide) (ok.2.2.2.2.1 l hl).1 (ok.2.2.2.2.1 l hl).2 ok.2.2.2.2.2.1
theorem k_allowsOf (Mk : zMo) (hc : mCr M Mk) (no ns nh ng : Nat) (ml mk : Nat → Nat) (ok : mOk (M.1 0) no ns nh ng ml mk) (gi s : Nat) (hg : gi < ng) (hs : s < ns) : zX E YM_allowsOf 9 [.ref a, .int (nI gi), .int (nI s)] (mw σ a Mk) (some (.int (zo (mAl (M.1 0) ns nh ml mk gi s)))) (mQ σ a M) := by
  obtain ⟨g1, g2, g3⟩ := ok.2.2.2.2.2.2.2.2 gi hg
  obtain ⟨w1, w2⟩ := zr4 g1
  obtain ⟨l1, l2⟩ := zr4 g2
  obtain ⟨q1, q2⟩ := zr4 g3
  have hns := ok.2.1.2
  have hng := ok.2.2.2.1.2
  refine zX.of oM_allowsOf (by decide +kernel) rfl rfl (fun n => ?_)
  refine zj_sipush 0 (781) rfl rfl (by decide) ?_
  refine zj_iconst 1 (3) rfl rfl (by decide) ?_
  refine zj_iload_n 2 rfl rfl rfl ?_
  refine zn_imul 3 (3) (gi) rfl rfl rfl rfl ?_
  refine zn_iadd 4 (781) (3 * gi) rfl rfl rfl rfl ?_
  refine zj_istore_n 5 rfl rfl ?_
  refine zj_aload_n 6 rfl rfl rfl ?_
  refine zj_aload_n 7 rfl rfl rfl ?_
  refine zj_get 8 rfl rfl mw_0 rfl ?_
  refine zj_iload_n 9 rfl rfl rfl ?_
  refine zj_iconst 10 (1) rfl rfl (by decide) ?_
  refine zn_iadd 11 ((781) + (3 * gi)) (1) rfl rfl rfl rfl ?_
  refine zn_iald 12 (((781) + (3 * gi)) + (1)) rfl rfl (mw_1r hc) rfl (by omega) (by decide) ?_
  refine zj_aload_n 13 rfl rfl rfl ?_
  refine zj_get 14 rfl rfl mw_0 rfl ?_
  refine zj_iload_n 15 rfl rfl rfl ?_
  refine zn_iald 16 ((781) + (3 * gi)) rfl rfl (mw_1r hc) rfl (by omega) (by decide) ?_
  refine zj_iconst 17 (0) rfl rfl (by decide) ?_
  refine zj_aload_n 18 rfl rfl rfl ?_
  refine zj_get 19 rfl rfl mw_0 rfl ?_
  refine zj_iload_n 20 rfl rfl rfl ?_
  refine zj_iconst 21 (2) rfl rfl (by decide) ?_
  refine zn_iadd 22 ((781) + (3 * gi)) (2) rfl rfl rfl rfl ?_
  refine zn_iald 23 (((781) + (3 * gi)) + (2)) rfl rfl (mw_1r hc) rfl (by omega) (by decide) ?_
  refine zj_iconst 24 (0) rfl rfl (by decide) ?_
  refine zj_aload_n 25 rfl rfl rfl ?_
  refine zj_iload_n 26 rfl rfl rfl ?_
  refine zj_cvx 27 rfl rfl lk_8_219 ckM_shownFor (k_shownFor_r (M.1 0) hc.1 no ns nh ng ml mk ok _ (by omega)) rfl mw_0 rfl rfl rfl ?_
  refine zj_cvxX 28 rfl rfl lk_8_177 ckM_drawnOn (k_drawnOn_r (M.1 0) hc.1 no ns nh ng ml mk ok _ _ _ _ _ _ l1 w1 q1 l2 w2 q2 _) rfl mw_0 rfl rfl rfl (fun s1 hP1 => ?_)
  obtain ⟨M1, rfl, hc0⟩ := hP1
  have hc1 := hc.trans hc0
  refine zj_istore 29 rfl rfl ?_
  refine zj_iload 30 rfl rfl rfl ?_
  refine zj_aload_n 31 rfl rfl rfl ?_
  refine zj_iload_n 32 rfl rfl rfl ?_
  refine zj_cvx 33 rfl rfl lk_8_207 ckM_linesOf (k_linesOf_r (M.1 0) hc1.1 _ (by omega)) rfl mw_0 rfl rfl rfl ?_
  refine zj_ixor 34 rfl rfl ?_
  refine zj_csx 35 rfl rfl lk_8_184 ckM_bitsOf (k_bitsOf _) rfl rfl rfl rfl ?_
  refine zj_aload_n 36 rfl rfl rfl ?_
  refine zj_get 37 rfl rfl mw_0 rfl ?_
  refine zj_sipush 38 (817) rfl rfl (by decide) ?_
  refine zn_iald 39 (817) rfl rfl (mw_1r hc1) rfl (by omega) (by decide) ?_
  refine zj_icmp_gt 40 rfl rfl (fun c62 => ?_) (fun c62 => ?_)
  · refine zj_iconst 43 (0) rfl rfl (by decide) ?_
    refine zj_zreturn 44 rfl rfl rfl rfl ?_
    exact ⟨zrt (zo_f (Int32.not_le.mpr c62)), rfl, M1, rfl, hc1⟩
  · refine zj_iconst 41 (1) rfl rfl (by decide) ?_
    refine zj_goto 42 rfl rfl ?_
    refine zj_zreturn 44 rfl rfl rfl rfl ?_
    exact ⟨zrt (zo_t (Int32.not_lt.mp c62)), rfl, M1, rfl, hc1⟩
theorem k_Mallows (no ns nh ng : Nat) (ml mk : Nat → Nat) (ok : mOk (M.1 0) no ns nh ng ml mk) (gi s : Nat) (hg : gi < ng) (hs : s < ns) : zX E YM_allows 10 [.ref a, .int (nI gi), .int (nI s)] (mw σ a M) (some (.int (zo (mAl (M.1 0) ns nh ml mk gi s)))) (mQ σ a M) := by
  have hns := ok.2.1.2
  have hng := ok.2.2.2.1.2
  refine zX.of oM_allows (by decide +kernel) rfl rfl (fun n => ?_)
  refine zj_iload_n 0 rfl rfl rfl ?_
  refine zj_i2l 1 rfl rfl ?_
  refine zj_lconst 2 (0) rfl rfl (by decide) ?_
  refine zj_aload_n 3 rfl rfl rfl ?_
  refine zj_get 4 rfl rfl mw_0 rfl ?_
  refine zj_sipush 5 (780) rfl rfl (by decide) ?_
  refine zn_iald 6 (780) rfl rfl mw_1 rfl (by omega) (by decide) ?_
  rw [ok.2.2.2.1.1]
  refine zj_iconst 7 (1) rfl rfl (by decide) ?_
  refine zj_isub 8 rfl rfl ?_
  refine zj_i2l 9 rfl rfl ?_
  refine zj_csx 10 rfl rfl lk_8_51 ckM_in (k_in _ _ _) rfl rfl rfl rfl ?_
  refine zj_if_eq 11 rfl rfl (fun c17 => ?_) (fun c17 => ?_)
  · exact absurd (by rw [zl0, zm1_toInt (by omega), nI_toInt (by omega), Int64.toInt_zero]; omega) (zo_0.mp c17)
  · refine zj_aload_n 12 rfl rfl rfl ?_
    refine zj_iload_n 13 rfl rfl rfl ?_
    refine zj_cvx 14 rfl rfl lk_8_213 ckM_isSheet (k_isSheet _ ns ok.2.1.1 (by omega)) rfl mw_0 rfl rfl rfl ?_
    refine zj_if_ne 15 rfl rfl (fun c25 => ?_) (fun c25 => ?_)
    · refine zj_aload_n 18 rfl rfl rfl ?_
      refine zj_iload_n 19 rfl rfl rfl ?_
      refine zj_iload_n 20 rfl rfl rfl ?_
      refine zj_cvxX 21 rfl rfl lk_8_253 ckM_allowsOf (k_allowsOf M mCr.rfl no ns nh ng ml mk ok gi s hg hs) rfl mw_0 rfl rfl rfl (fun s1 hP1 => ?_)
      obtain ⟨M1, rfl, hc1⟩ := hP1
      refine zj_if_eq 22 rfl rfl (fun c37 => ?_) (fun c37 => ?_)
      · refine zj_iconst 25 (0) rfl rfl (by decide) ?_
        refine zj_ireturn 26 rfl rfl rfl ?_
        exact ⟨zrt (zo_f (zo_0.mp c37)), rfl, M1, rfl, hc1⟩
      · refine zj_iconst 23 (1) rfl rfl (by decide) ?_
        refine zj_goto 24 rfl rfl ?_
        refine zj_ireturn 26 rfl rfl rfl ?_
        exact ⟨zrt (zo_t (zo_n0.mp c37)), rfl, M1, rfl, hc1⟩
    · exact absurd (zr_of (n := ns) (by omega) (by omega)) (zo_0.mp c25)
theorem k_Mallows_bad (g s : Int32) (ns ng : Nat) (h2 : M.1 0 549 = nI ns) (hb2 : ns ≤ 16) (h4 : M.1 0 780 = nI ng) (hb4 : ng ≤ 12) (hv : ¬ (zr g ng ∧ zr s ns)) : zM E YM_allows 10 [.ref a, .int g, .int s] (mw σ a M) (some (.int (-2))) (mw σ a M) := by
  refine zM.of oM_allows (by decide +kernel) rfl rfl (fun n => ?_)
  refine zj_iload_n 0 rfl rfl rfl ?_
  refine zj_i2l 1 rfl rfl ?_
  refine zj_lconst 2 (0) rfl rfl (by decide) ?_
  refine zj_aload_n 3 rfl rfl rfl ?_
  refine zj_get 4 rfl rfl mw_0 rfl ?_
  refine zj_sipush 5 (780) rfl rfl (by decide) ?_
  refine zn_iald 6 (780) rfl rfl mw_1 rfl (by omega) (by decide) ?_
  rw [h4]
  refine zj_iconst 7 (1) rfl rfl (by decide) ?_
  refine zj_isub 8 rfl rfl ?_
  refine zj_i2l 9 rfl rfl ?_
  refine zj_csx 10 rfl rfl lk_8_51 ckM_in (k_in _ _ _) rfl rfl rfl rfl ?_
  refine zj_if_eq 11 rfl rfl (fun c17 => ?_) (fun c17 => ?_)
  · refine zj_bipush 16 (-2) rfl rfl (by decide) ?_
    refine zj_ireturn 17 rfl rfl rfl ?_
    exact ⟨rfl, rfl, rfl⟩
  · refine zj_aload_n 12 rfl rfl rfl ?_
    refine zj_iload_n 13 rfl rfl rfl ?_
    refine zj_cvx 14 rfl rfl lk_8_213 ckM_isSheet (k_isSheet _ ns h2 (by omega)) rfl mw_0 rfl rfl rfl ?_
    refine zj_if_ne 15 rfl rfl (fun c25 => ?_) (fun c25 => ?_)
    · exact absurd ⟨by have := zo_n0.mp c17; rw [zl0, zm1_toInt (by omega), Int64.toInt_zero] at this; unfold zr; omega, zo_n0.mp c25⟩ hv
    · refine zj_bipush 16 (-2) rfl rfl (by decide) ?_
      refine zj_ireturn 17 rfl rfl rfl ?_
      exact ⟨rfl, rfl, rfl⟩
end
