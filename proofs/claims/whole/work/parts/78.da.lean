/-! the component: chance, the digest, images -/
theorem pB_and (x y : Int32) : ∀ k, pB (x &&& y) k ≤ pB x k
  | 0 => Nat.le_refl _
  | k + 1 => by
    have ih := pB_and x y k
    simp only [pB]
    by_cases h : zhas x (nI k)
    · rw [if_pos h]; split <;> omega
    · rw [if_neg h, if_neg]
      · omega
      · intro g
        refine h (fun e => g ?_)
        have e2 : ((x &&& y) >>> (nI k &&& 31)) &&& 1 = ((x >>> (nI k &&& 31)) &&& 1) &&& (y >>> (nI k &&& 31)) := by
          rw [Int32.shiftRight_and, Int32.and_assoc, Int32.and_comm (y >>> _) 1, Int32.and_assoc]
        rw [e2, e]
        exact Int32.zero_and
theorem dig_eq {S : zSc} {no ns nh ng : Nat} {ml mk : Nat → Nat} {r : Nat → Int32} (ok : mOk r no ns nh ng ml mk) (hs : sRl S r ml) (u l : Int64) : 31 * (31 * mixS S ml no ns nh ng 431 + u) + l = mDig r u l no ns nh ng ml := by
  obtain ⟨hw, hm, hl, hb, hg, ho, he⟩ := hs
  have b0 := ok.1.2
  have b1 := ok.2.1.2
  have b2 := ok.2.2.1.2
  have b3 := ok.2.2.2.1.2
  have lw : ∀ k, k < 4 → ∀ x, pTR ((S.l k).1 0) x (ml k) = pTR (fun j => r (372 + 40 * k + j)) x (ml k) := fun k hk x => pTR_cg x (ml k) (fun j hj => (hl k hk).2.1 j (by have := (ok.2.2.2.2.1 k hk).2; omega))
  have ww : ∀ w, w < 4 → ∀ x, pTR ((S.w w).1 1) (pTR ((S.w w).1 0) x 81) 9 = pTR (fun j => r (324 + 9 * w + j)) (pTR (fun j => r (81 * w + j)) x 81) 9 := fun w hw4 x => by
    rw [pTR_cg x 81 (fun j hj => (hw w hw4).1 j hj), pTR_cg _ 9 (fun j hj => (hw w hw4).2 j hj)]
  have e5 : ∀ x, pM3 (S.b.1 5) (S.b.1 6) (S.b.1 7) (pM3 (S.b.1 4) (S.b.1 2) (S.b.1 3) (pM2 (S.b.1 0) (S.b.1 1) x no) ns) nh = pTR (fun j => r (599 + j)) (pTR (fun j => r (550 + j)) (pTR (fun j => r (533 + j)) x (2 * no)) (3 * ns)) (3 * nh) := fun x => by
    rw [pM2_pTR _ _ (fun j => r (533 + j)) x no (fun i hi => ⟨((hb.1 i (by omega)).1).symm, (by have := (hb.1 i (by omega)).2; rw [this]; show r _ = r _; congr 1; omega)⟩)]
    rw [pM3_pTR _ _ _ (fun j => r (550 + j)) _ ns (fun i hi => by
      obtain ⟨g1, g2, g3⟩ := hb.2.1 i (by omega)
      rw [g1, g2, g3]
      exact ⟨rfl, by show r _ = r _; congr 1; omega, by show r _ = r _; congr 1; omega⟩)]
    rw [pM3_pTR _ _ _ (fun j => r (599 + j)) _ nh (fun i hi => by
      obtain ⟨g1, g2, g3⟩ := hb.2.2.1 i (by omega)
      rw [g1, g2, g3]
      exact ⟨rfl, by show r _ = r _; congr 1, by show r _ = r _; congr 1⟩)]
  have e6 : ∀ x, pM3 (S.g.1 0) (S.g.1 1) (S.g.1 2) x ng = pTR (fun j => r (781 + j)) x (3 * ng) := fun x => by
    rw [pM3_pTR _ _ _ (fun j => r (781 + j)) _ ng (fun i hi => by
      obtain ⟨g1, g2, g3⟩ := hg.1 i (by omega)
      rw [g1, g2, g3]
      exact ⟨rfl, by show r _ = r _; congr 1, by show r _ = r _; congr 1⟩)]
  have e3 : ∀ x, pTR S.m x 8 = pTR (fun j => r (360 + j)) x 8 := fun x => pTR_cg x 8 hm
  unfold mixS mixE
  rw [e6, e5, e3, ho, he, hb.2.2.2.1, hb.2.2.2.2.1, hb.2.2.2.2.2, hg.2]
  simp only [mixL, mixW]
  rw [ww 0 (by decide), ww 1 (by decide), ww 2 (by decide), ww 3 (by decide), lw 0 (by decide), lw 1 (by decide), lw 2 (by decide), lw 3 (by decide), ← (ok.2.2.2.2.1 0 (by decide)).1, ← (ok.2.2.2.2.1 1 (by decide)).1, ← (ok.2.2.2.2.1 2 (by decide)).1, ← (ok.2.2.2.2.1 3 (by decide)).1]
  rfl
section
variable {E : zE} {σ : zH} {c : Nat} {K : zDc}
theorem k_Dchance (h : dAt σ c K) {no ns nh ng : Nat} {ml mk : Nat → Nat} {r : Nat → Int32} (ok : mOk r no ns nh ng ml mk) (ok2 : mOk2 r ns) (hs : sRl K.n r ml) (x y : Nat) (hx : x < ns) (hy : y < ns) (hne : x ≠ y) : zX E YD_chance 3 [.ref c, .int (nI x), .int (nI y)] (σ) (some (.int 1)) (fun τ => zsm σ τ c (c + 134) ∧ dAt τ c (K.sf (mUp (rSl r x) (rSl r y)) (mLow (rSl r x) (rSl r y)))) := by
  refine zX.of oD_chance (by decide +kernel) rfl rfl (fun n => ?_)
  have b1 := (kN1 ok hs).2
  have ex := (hs.2.2.2.1.2.1 x (by omega)).2.2
  have ey := (hs.2.2.2.1.2.1 y (by omega)).2.2
  have p1 := pB_le (rSl r x) 28
  have p2 := pB_le (rSl r y) 28
  have p3 := pB_and (rSl r x) (rSl r y) 28
  have o2 : (pB (rSl r x) 28 ≤ 28 → 0 < mUnder (rSl r x)) ∧ mUnder (rSl r x) < 2 ^ 27 := pCh_ok 28 (by decide) (pB (rSl r x) 28) (by omega)
  have o3 : pChoose 28 (pB (rSl r x) 28) = mUnder (rSl r x) := if_pos (by omega)
  refine zj_aload_n 0 rfl rfl rfl ?_
  refine zj_iload_n 1 rfl rfl rfl ?_
  refine zj_iload_n 2 rfl rfl rfl ?_
  refine zj_cvx 3 rfl rfl lk_7_174 ckD_areTwoSheets (k_Dtwo h ok hs _ _) rfl h.1 rfl rfl rfl ?_
  refine zj_if_ne 4 rfl rfl (fun c6 => ?_) (fun c6 => ?_)
  · refine zj_aload_n 7 rfl rfl rfl ?_
    refine zj_get 8 rfl rfl h.1 rfl ?_
    refine zj_get 9 rfl rfl h.2.1.1 rfl ?_
    refine zj_get 10 rfl rfl h.2.1.2.2.2.2.2.2.1.1 rfl ?_
    refine zj_iload_n 11 rfl rfl rfl ?_
    refine zn_iald 12 (x) rfl rfl h.2.1.2.2.2.2.2.2.1.2.2.2.2.2.1 rfl (by omega) (by decide) ?_
    refine zj_istore_n 13 rfl rfl ?_
    refine zj_norm [_, _, _, _, _, _] rfl ?_
    refine zj_aload_n 14 rfl rfl rfl ?_
    refine zj_get 15 rfl rfl h.1 rfl ?_
    refine zj_get 16 rfl rfl h.2.1.1 rfl ?_
    refine zj_get 17 rfl rfl h.2.1.2.2.2.2.2.2.1.1 rfl ?_
    refine zj_iload_n 18 rfl rfl rfl ?_
    refine zn_iald 19 (y) rfl rfl h.2.1.2.2.2.2.2.2.1.2.2.2.2.2.1 rfl (by omega) (by decide) ?_
    refine zj_istore 20 rfl rfl ?_
    rw [ex, ey]
    refine zj_norm [_, _, _, _, _, _] rfl ?_
    refine zj_iload_n 21 rfl rfl rfl ?_
    refine zj_csx 22 rfl rfl lk_7_124 ckJ_bitCount (k_bitCount _) rfl rfl rfl rfl ?_
    rw [jBits_eq _ (ok2.2.1 x (by omega)), zb28_nat]
    refine zj_istore 23 rfl rfl ?_
    refine zj_norm [_, _, _, _, _, _] rfl ?_
    refine zj_aload_n 24 rfl rfl rfl ?_
    refine zj_iload 25 rfl rfl rfl ?_
    refine zj_iload 26 rfl rfl rfl ?_
    refine zj_csx 27 rfl rfl lk_7_124 ckJ_bitCount (k_bitCount _) rfl rfl rfl rfl ?_
    rw [jBits_eq _ (ok2.2.1 y (by omega)), zb28_nat]
    refine zj_iload_n 28 rfl rfl rfl ?_
    refine zj_iload 29 rfl rfl rfl ?_
    refine zj_iand 30 rfl rfl ?_
    refine zj_csx 31 rfl rfl lk_7_124 ckJ_bitCount (k_bitCount _) rfl rfl rfl rfl ?_
    rw [jBits_eq _ (zB28_and (ok2.2.1 x (by omega))), zb28_nat]
    refine zj_csx 32 rfl rfl lk_7_177 ckD_waysToShare (k_waysToShare (pB (rSl r x) 28) (pB (rSl r y) 28) (pB (rSl r x &&& rSl r y) 28) (by omega) (by omega) (by omega)) rfl rfl rfl rfl ?_
    refine zj_bipush 33 (28) rfl rfl (by decide) ?_
    refine zj_iload 34 rfl rfl rfl ?_
    refine zj_csx 35 rfl rfl lk_7_181 ckD_choices (k_choices 28 (pB (rSl r x) 28) (by decide) (by omega)) rfl rfl rfl rfl ?_
    rw [o3]
    refine zj_cvvX 36 rfl rfl lk_7_185 ckD_setFraction (k_Dset h (mOver (rSl r x) (rSl r y)) (mUnder (rSl r x)) (by have := mOver_lt (rSl r x) (rSl r y); omega) (by omega) (o2.1 (by omega))) rfl h.1 rfl rfl rfl (fun s1 hP1 => ?_)
    obtain ⟨e1, h1⟩ := hP1
    refine zj_iconst 37 (1) rfl rfl (by decide) ?_
    refine zj_ireturn 38 rfl rfl rfl ?_
    exact ⟨rfl, rfl, e1, h1⟩
  · exact absurd ⟨zr_of (n := ns) hx (by omega), zr_of (n := ns) hy (by omega), fun e => hne ((nI_eq (by omega) (by omega)).mp e)⟩ (zo_0.mp c6)
theorem k_Dchance_bad (h : dAt σ c K) {no ns nh ng : Nat} {ml mk : Nat → Nat} {r : Nat → Int32} (ok : mOk r no ns nh ng ml mk) (hs : sRl K.n r ml) (x y : Int32) (hv : ¬ (zr x ns ∧ zr y ns ∧ x ≠ y)) : zM E YD_chance 3 [.ref c, .int x, .int y] (σ) (some (.int (-2))) (σ) := by
  refine zM.of oD_chance (by decide +kernel) rfl rfl (fun n => ?_)
  refine zj_aload_n 0 rfl rfl rfl ?_
  refine zj_iload_n 1 rfl rfl rfl ?_
  refine zj_iload_n 2 rfl rfl rfl ?_
  refine zj_cvx 3 rfl rfl lk_7_174 ckD_areTwoSheets (k_Dtwo h ok hs _ _) rfl h.1 rfl rfl rfl ?_
  refine zj_if_ne 4 rfl rfl (fun c6 => ?_) (fun c6 => ?_)
  · exact absurd (zo_n0.mp c6) hv
  · refine zj_bipush 5 (-2) rfl rfl (by decide) ?_
    refine zj_ireturn 6 rfl rfl rfl ?_
    exact ⟨rfl, rfl, rfl⟩
theorem k_Ddigest (h : dAt σ c K) {no ns nh ng : Nat} {ml mk : Nat → Nat} {r : Nat → Int32} (ok : mOk r no ns nh ng ml mk) (hs : sRl K.n r ml) : zM E YD_digest 5 [.ref c] (σ) (some (.long (mDig r K.a K.u no ns nh ng ml))) (σ) := by
  refine zM.of oD_digest (by decide +kernel) rfl rfl (fun n => ?_)
  refine zj_aload_n 0 rfl rfl rfl ?_
  refine zj_get 1 rfl rfl h.1 rfl ?_
  refine zj_ldc2 2 (431) rfl rfl (by decide) ?_
  refine zj_cvx 3 rfl rfl lk_7_268 ckSt_mixInto (k_Stmix h.2.1 no ns nh ng ml (kN0 ok hs) (kN1 ok hs) (kN2 ok hs) (kN3 ok hs) (fun l hl => ⟨(hs.2.2.1 l hl).1, (ok.2.2.2.2.1 l hl).2⟩) _) rfl h.2.1.1 rfl rfl rfl ?_
  refine zj_aload_n 4 rfl rfl rfl ?_
  refine zj_get 5 rfl rfl h.1 rfl ?_
  refine zj_csx 6 rfl rfl lk_7_272 ckD_mix (k_mix _ _) rfl rfl rfl rfl ?_
  refine zj_aload_n 7 rfl rfl rfl ?_
  refine zj_get 8 rfl rfl h.1 rfl ?_
  refine zj_csx 9 rfl rfl lk_7_272 ckD_mix (k_mix _ _) rfl rfl rfl rfl ?_
  refine zj_lreturn 10 rfl rfl rfl ?_
  exact ⟨zrl (dig_eq ok hs K.a K.u), rfl, rfl⟩
theorem k_Dimage (h : dAt σ c K) (i : Nat) (hi : i < 2) (hB : ∀ l, l < 4 → (K.n.l l).2.2.1 3 = 0 ∨ (K.n.l l).2.2.1 3 = 1) : zX E YD_image 5 [.ref c, .int (nI i)] (σ) (some (.int 1)) (fun τ => zsm σ τ c (c + 134) ∧ ∃ S', dAt τ c ((K.si (va_up K.i i S')).sk (va_up K.k i 1)) ∧ sEq K.n S') := by
  refine zX.of oD_image (by decide +kernel) rfl rfl (fun n => ?_)
  refine zj_iload_n 0 rfl rfl rfl ?_
  refine zj_iconst 1 (2) rfl rfl (by decide) ?_
  refine zj_csx 2 rfl rfl lk_7_42 ckD_isOneOf (k_isOneOf _ _) rfl rfl rfl rfl ?_
  refine zj_if_ne 3 rfl rfl (fun c5 => ?_) (fun c5 => ?_)
  · refine zj_aload_n 6 rfl rfl rfl ?_
    refine zj_get 7 rfl rfl h.1 rfl ?_
    refine zj_iload_n 8 rfl rfl rfl ?_
    refine zn_aald 9 (i) rfl rfl h.2.2.1 (by decide) rfl (by omega) (by decide) rfl ?_
    refine zj_aload_n 10 rfl rfl rfl ?_
    refine zj_get 11 rfl rfl h.1 rfl ?_
    refine zj_cvvX 12 rfl rfl lk_7_259 ckSt_copy (k_Stcopy (h.2.2.2.1 i hi) h.2.1 (by omega) hB) rfl (h.2.2.2.1 i hi).1 rfl rfl rfl (fun s1 hP1 => ?_)
    obtain ⟨e1, S1, g1, g2⟩ := hP1
    have h1 := h.ui hi e1 g1
    refine zj_aload_n 13 rfl rfl rfl ?_
    refine zj_get 14 rfl rfl h1.1 rfl ?_
    refine zj_iload_n 15 rfl rfl rfl ?_
    refine zj_iconst 16 (1) rfl rfl (by decide) ?_
    refine zn_zast 17 (i) rfl rfl h1.2.2.2.2.1 rfl (by omega) (by decide) rfl rfl ?_
    refine zj_iconst 18 (1) rfl rfl (by decide) ?_
    refine zj_ireturn 19 rfl rfl rfl ?_
    exact ⟨rfl, rfl, (e1.wide (by omega) (by omega)).trans (zsm_zup.wide (by omega) (by omega)), S1, h1.uk zsm_zup (zup_eq _ _ _), g2⟩
  · exact absurd (zr_of (n := 2) (by omega) (by decide)) (zo_0.mp c5)
theorem k_Dimage_bad (x : Int32) (hb : ¬ zr x 2) : zM E YD_image 5 [.ref c, .int x] (σ) (some (.int (-2))) (σ) := by
  refine zM.of oD_image (by decide +kernel) rfl rfl (fun n => ?_)
  refine zj_iload_n 0 rfl rfl rfl ?_
  refine zj_iconst 1 (2) rfl rfl (by decide) ?_
  refine zj_csx 2 rfl rfl lk_7_42 ckD_isOneOf (k_isOneOf _ _) rfl rfl rfl rfl ?_
  refine zj_if_ne 3 rfl rfl (fun c5 => ?_) (fun c5 => ?_)
  · exact absurd (zo_n0.mp c5) hb
  · refine zj_bipush 4 (-2) rfl rfl (by decide) ?_
    refine zj_ireturn 5 rfl rfl rfl ?_
    exact ⟨rfl, rfl, rfl⟩
theorem k_Dfrom (h : dAt σ c K) (i : Nat) (hi : i < 2) (hk : ¬ K.k i = 0) (hB : ∀ l, l < 4 → ((K.i i).l l).2.2.1 3 = 0 ∨ ((K.i i).l l).2.2.1 3 = 1) : zX E YD_from 5 [.ref c, .int (nI i)] (σ) (some (.int 1)) (fun τ => zsm σ τ c (c + 134) ∧ ∃ S', dAt τ c (K.sn S') ∧ sEq (K.i i) S') := by
  refine zX.of oD_from (by decide +kernel) rfl rfl (fun n => ?_)
  refine zj_iload_n 0 rfl rfl rfl ?_
  refine zj_iconst 1 (2) rfl rfl (by decide) ?_
  refine zj_csx 2 rfl rfl lk_7_42 ckD_isOneOf (k_isOneOf _ _) rfl rfl rfl rfl ?_
  refine zj_if_ne 3 rfl rfl (fun c5 => ?_) (fun c5 => ?_)
  · refine zj_aload_n 6 rfl rfl rfl ?_
    refine zj_get 7 rfl rfl h.1 rfl ?_
    refine zj_iload_n 8 rfl rfl rfl ?_
    refine zn_zald 9 (i) rfl rfl h.2.2.2.2.1 rfl (by omega) (by decide) ?_
    refine zj_if_ne 10 rfl rfl (fun c17 => ?_) (fun c17 => ?_)
    · refine zj_aload_n 13 rfl rfl rfl ?_
      refine zj_get 14 rfl rfl h.1 rfl ?_
      refine zj_aload_n 15 rfl rfl rfl ?_
      refine zj_get 16 rfl rfl h.1 rfl ?_
      refine zj_iload_n 17 rfl rfl rfl ?_
      refine zn_aald 18 (i) rfl rfl h.2.2.1 (by decide) rfl (by omega) (by decide) rfl ?_
      refine zj_cvvX 19 rfl rfl lk_7_259 ckSt_copy (k_Stcopy h.2.1 (h.2.2.2.1 i hi) (by omega) hB) rfl h.2.1.1 rfl rfl rfl (fun s1 hP1 => ?_)
      obtain ⟨e1, S1, g1, g2⟩ := hP1
      refine zj_iconst 20 (1) rfl rfl (by decide) ?_
      refine zj_ireturn 21 rfl rfl rfl ?_
      exact ⟨rfl, rfl, e1.wide (by omega) (by omega), S1, h.un (e1.wide (by omega) (by omega)) g1, g2⟩
    · exact absurd c17 hk
  · exact absurd (zr_of (n := 2) (by omega) (by decide)) (zo_0.mp c5)
theorem k_Dfrom_no (h : dAt σ c K) (i : Nat) (hi : i < 2) (hk : K.k i = 0) : zM E YD_from 5 [.ref c, .int (nI i)] (σ) (some (.int (-3))) (σ) := by
  refine zM.of oD_from (by decide +kernel) rfl rfl (fun n => ?_)
  refine zj_iload_n 0 rfl rfl rfl ?_
  refine zj_iconst 1 (2) rfl rfl (by decide) ?_
  refine zj_csx 2 rfl rfl lk_7_42 ckD_isOneOf (k_isOneOf _ _) rfl rfl rfl rfl ?_
  refine zj_if_ne 3 rfl rfl (fun c5 => ?_) (fun c5 => ?_)
  · refine zj_aload_n 6 rfl rfl rfl ?_
    refine zj_get 7 rfl rfl h.1 rfl ?_
    refine zj_iload_n 8 rfl rfl rfl ?_
    refine zn_zald 9 (i) rfl rfl h.2.2.2.2.1 rfl (by omega) (by decide) ?_
    refine zj_if_ne 10 rfl rfl (fun c17 => ?_) (fun c17 => ?_)
    · exact absurd hk c17
    · refine zj_bipush 11 (-3) rfl rfl (by decide) ?_
      refine zj_ireturn 12 rfl rfl rfl ?_
      exact ⟨rfl, rfl, rfl⟩
  · exact absurd (zr_of (n := 2) (by omega) (by decide)) (zo_0.mp c5)
theorem k_Dfrom_bad (x : Int32) (hb : ¬ zr x 2) : zM E YD_from 5 [.ref c, .int x] (σ) (some (.int (-2))) (σ) := by
  refine zM.of oD_from (by decide +kernel) rfl rfl (fun n => ?_)
  refine zj_iload_n 0 rfl rfl rfl ?_
  refine zj_iconst 1 (2) rfl rfl (by decide) ?_
  refine zj_csx 2 rfl rfl lk_7_42 ckD_isOneOf (k_isOneOf _ _) rfl rfl rfl rfl ?_
  refine zj_if_ne 3 rfl rfl (fun c5 => ?_) (fun c5 => ?_)
  · exact absurd (zo_n0.mp c5) hb
  · refine zj_bipush 4 (-2) rfl rfl (by decide) ?_
    refine zj_ireturn 5 rfl rfl rfl ?_
    exact ⟨rfl, rfl, rfl⟩
end
