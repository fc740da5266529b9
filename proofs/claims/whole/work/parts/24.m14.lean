/-! the reference's reader, behind a unit; a sign; a text -/
def qBit (c : Int32) (S : zS) : Bool := decide (pFirm (qJoint c) = 3) || (S.2.2.2.1 S.2.2.1 && decide (3 < pFirm (qJoint c)))
def qCmp (c : Int32) (S : zS) : zS := (S.1, S.2.1, S.2.2.1, va_up S.2.2.2.1 S.2.2.1 (qBit c S), S.2.2.2.2)
theorem qBehind_c {c : Int32} {k : Nat} {S : zS} (h : c = 41) (h0 : 0 < S.2.2.1) : qBehind c k S = (0, ((qLDS 1 S).1, (qLDS 1 S).2.1.tail, S.2.2.1 - 1, S.2.2.2)) := if_pos ⟨h, h0⟩
theorem qBehind_f {c : Int32} {k : Nat} {S : zS} (h : ¬ (c = 41 ∧ 0 < S.2.2.1)) (h1 : qJoint c = -1 ∨ (pFirm (qJoint c) = 3 ∧ S.2.2.2.1 S.2.2.1 = true)) : qBehind c k S = (nI (10 * k + 1), S) := by
  unfold qBehind; rw [if_neg h, if_pos h1]
theorem qBehind_j {c : Int32} {k : Nat} {S : zS} (h : ¬ (c = 41 ∧ 0 < S.2.2.1)) (h1 : ¬ (qJoint c = -1 ∨ (pFirm (qJoint c) = 3 ∧ S.2.2.2.1 S.2.2.1 = true))) : qBehind c k S = (0, qJoin (qJoint c) (qCmp c S)) := by
  unfold qBehind; rw [if_neg h, if_neg h1]; rfl
theorem mRep_cmp {M : zMo} {S : zS} (h : mRep M S) (c : Int32) {x : Int32} (hx : zob (qBit c S) = x) : mRep (M.sA 6 (va_up (M.1 6) S.2.2.1 x)) (qCmp c S) := by
  subst hx; exact mRep_cm h _
section
variable {E : zE} {σ : zH} {a : Nat} {M : zMo}
theorem k_goBehind (c : Int32) (k : Nat) (S : zS) (hr : mRep M S) (hb : S.1.length + S.2.1.length ≤ 39) (hk : k < 100) (hdp : S.2.2.1 ≤ 8) (hne : 0 < S.2.2.1 → (qLDS 1 S).2.1 ≠ []) : zX E YM_goBehind 4 [.ref a, .int c, .int (nI k)] (mw σ a M) (some (.int (qBehind c k S).1)) (mP σ a M (qBehind c k S).2) := by
  refine zX.of oM_goBehind (by decide +kernel) rfl rfl (fun n => ?_)
  refine zj_iload_n 0 rfl rfl rfl ?_
  refine zj_bipush 1 (41) rfl rfl (by decide) ?_
  refine zj_icmp_ne 2 rfl rfl (fun c3 => ?_) (fun c3 => ?_)
  · refine zj_iload_n 23 rfl rfl rfl ?_
    refine zj_csx 24 rfl rfl lk_8_137 ckM_joint (k_joint _) rfl rfl rfl rfl ?_
    refine zj_istore_n 25 rfl rfl ?_
    refine zj_iload_n 26 rfl rfl rfl ?_
    refine zj_iconst 27 (-1) rfl rfl (by decide) ?_
    refine zj_icmp_eq 28 rfl rfl (fun c47 => ?_) (fun c47 => ?_)
    · refine zj_iconst 35 (0) rfl rfl (by decide) ?_
      refine zj_istore 36 rfl rfl ?_
      refine zj_iload_n 37 rfl rfl rfl ?_
      refine zj_iconst 38 (-1) rfl rfl (by decide) ?_
      refine zj_icmp_eq 39 rfl rfl (fun c67 => ?_) (fun c67 => ?_)
      · refine zj_bipush 48 (10) rfl rfl (by decide) ?_
        refine zj_iload_n 49 rfl rfl rfl ?_
        refine zn_imul 50 (10) (k) rfl rfl rfl rfl ?_
        refine zj_iconst 51 (1) rfl rfl (by decide) ?_
        refine zn_iadd 52 (10 * k) (1) rfl rfl rfl rfl ?_
        refine zj_ireturn 53 rfl rfl rfl ?_
        have hno : ¬ (c = 41 ∧ 0 < S.2.2.1) := fun g => c3 g.1
        rw [qBehind_f hno (Or.inl c67)]
        exact ⟨rfl, rfl, M, rfl, mCore.rfl, hr⟩
      · exact absurd c47 c67
    · refine zj_iload_n 29 rfl rfl rfl ?_
      refine zj_csx 30 rfl rfl lk_8_106 ckM_firm (k_firm _) rfl rfl rfl rfl ?_
      refine zj_iconst 31 (3) rfl rfl (by decide) ?_
      refine zj_icmp_ne 32 rfl rfl (fun c55 => ?_) (fun c55 => ?_)
      · refine zj_iconst 35 (0) rfl rfl (by decide) ?_
        refine zj_istore 36 rfl rfl ?_
        refine zj_iload_n 37 rfl rfl rfl ?_
        refine zj_iconst 38 (-1) rfl rfl (by decide) ?_
        refine zj_icmp_eq 39 rfl rfl (fun c67 => ?_) (fun c67 => ?_)
        · exact absurd c67 c47
        · refine zj_iload 40 rfl rfl rfl ?_
          refine zj_if_eq 41 rfl rfl (fun c72 => ?_) (fun c72 => ?_)
          · refine zj_aload_n 54 rfl rfl rfl ?_
            refine zj_get 55 rfl rfl mw_0 rfl ?_
            refine zj_aload_n 56 rfl rfl rfl ?_
            refine zj_get 57 rfl rfl mw_0 rfl ?_
            refine zj_iload 58 rfl rfl rfl ?_
            refine zj_if_ne 59 rfl rfl (fun c104 => ?_) (fun c104 => ?_)
            · exact absurd c104 (by decide)
            · refine zj_aload_n 60 rfl rfl rfl ?_
              refine zj_get 61 rfl rfl mw_0 rfl ?_
              refine zj_aload_n 62 rfl rfl rfl ?_
              refine zj_get 63 rfl rfl mw_0 rfl ?_
              refine zn_zald 64 (S.2.2.1) rfl rfl mw_8 hr.2.2.1.1 (by omega) (by decide) ?_
              refine zj_if_eq 65 rfl rfl (fun c116 => ?_) (fun c116 => ?_)
              · have hB : zob (qBit c S) = 0 := by
                  have h6 : S.2.2.2.1 S.2.2.1 = false := zob_0.mp (by rw [← hr.2.2.1.2 _ (Nat.le_refl _)]; exact c116)
                  have : qBit c S = false := by unfold qBit; rw [h6, decide_eq_false c55]; rfl
                  rw [this]; rfl
                refine zj_iconst 72 (0) rfl rfl (by decide) ?_
                refine zn_zast 73 (S.2.2.1) rfl rfl mw_8 hr.2.2.1.1 (by omega) (by decide) rfl mw_u8 ?_
                refine zj_aload_n 74 rfl rfl rfl ?_
                refine zj_iload_n 75 rfl rfl rfl ?_
                refine zj_cvvX 76 rfl rfl lk_8_140 ckM_join (k_join _ (qCmp c S) (mRep_cmp hr c hB) hb) rfl mw_0 rfl rfl rfl (fun s1 hP1 => ?_)
                obtain ⟨M1, rfl, hc1, hr1⟩ := hP1
                refine zj_iconst 77 (0) rfl rfl (by decide) ?_
                refine zj_ireturn 78 rfl rfl rfl ?_
                have hno : ¬ (c = 41 ∧ 0 < S.2.2.1) := fun g => c3 g.1
                rw [qBehind_j hno (by
                  rintro (g | ⟨g1, g2⟩)
                  · exact c67 g
                  · exact c55 g1)]
                exact ⟨rfl, rfl, M1, rfl, (mCore_sA6 M _).trans hc1, hr1⟩
              · refine zj_iload_n 66 rfl rfl rfl ?_
                refine zj_csx 67 rfl rfl lk_8_106 ckM_firm (k_firm _) rfl rfl rfl rfl ?_
                refine zj_iconst 68 (3) rfl rfl (by decide) ?_
                refine zj_icmp_le 69 rfl rfl (fun c124 => ?_) (fun c124 => ?_)
                · have hB : zob (qBit c S) = 0 := by
                    have : qBit c S = false := by unfold qBit; rw [decide_eq_false c55, decide_eq_false (Int32.not_lt.mpr c124)]; simp
                    rw [this]; rfl
                  refine zj_iconst 72 (0) rfl rfl (by decide) ?_
                  refine zn_zast 73 (S.2.2.1) rfl rfl mw_8 hr.2.2.1.1 (by omega) (by decide) rfl mw_u8 ?_
                  refine zj_aload_n 74 rfl rfl rfl ?_
                  refine zj_iload_n 75 rfl rfl rfl ?_
                  refine zj_cvvX 76 rfl rfl lk_8_140 ckM_join (k_join _ (qCmp c S) (mRep_cmp hr c hB) hb) rfl mw_0 rfl rfl rfl (fun s1 hP1 => ?_)
                  obtain ⟨M1, rfl, hc1, hr1⟩ := hP1
                  refine zj_iconst 77 (0) rfl rfl (by decide) ?_
                  refine zj_ireturn 78 rfl rfl rfl ?_
                  have hno : ¬ (c = 41 ∧ 0 < S.2.2.1) := fun g => c3 g.1
                  rw [qBehind_j hno (by
                    rintro (g | ⟨g1, g2⟩)
                    · exact c67 g
                    · exact c55 g1)]
                  exact ⟨rfl, rfl, M1, rfl, (mCore_sA6 M _).trans hc1, hr1⟩
                · have hB : zob (qBit c S) = 1 := by
                    have h6 : S.2.2.2.1 S.2.2.1 = true := zob_n.mp (by rw [← hr.2.2.1.2 _ (Nat.le_refl _)]; exact c116)
                    have : qBit c S = true := by unfold qBit; rw [h6, decide_eq_true (Int32.not_le.mp c124)]; simp
                    rw [this]; rfl
                  refine zj_iconst 70 (1) rfl rfl (by decide) ?_
                  refine zj_goto 71 rfl rfl ?_
                  refine zn_zast 73 (S.2.2.1) rfl rfl mw_8 hr.2.2.1.1 (by omega) (by decide) rfl mw_u8 ?_
                  refine zj_aload_n 74 rfl rfl rfl ?_
                  refine zj_iload_n 75 rfl rfl rfl ?_
                  refine zj_cvvX 76 rfl rfl lk_8_140 ckM_join (k_join _ (qCmp c S) (mRep_cmp hr c hB) hb) rfl mw_0 rfl rfl rfl (fun s1 hP1 => ?_)
                  obtain ⟨M1, rfl, hc1, hr1⟩ := hP1
                  refine zj_iconst 77 (0) rfl rfl (by decide) ?_
                  refine zj_ireturn 78 rfl rfl rfl ?_
                  have hno : ¬ (c = 41 ∧ 0 < S.2.2.1) := fun g => c3 g.1
                  rw [qBehind_j hno (by
                    rintro (g | ⟨g1, g2⟩)
                    · exact c67 g
                    · exact c55 g1)]
                  exact ⟨rfl, rfl, M1, rfl, (mCore_sA6 M _).trans hc1, hr1⟩
          · exact absurd c72 (by decide)
      · refine zj_iconst 33 (1) rfl rfl (by decide) ?_
        refine zj_goto 34 rfl rfl ?_
        refine zj_istore 36 rfl rfl ?_
        refine zj_iload_n 37 rfl rfl rfl ?_
        refine zj_iconst 38 (-1) rfl rfl (by decide) ?_
        refine zj_icmp_eq 39 rfl rfl (fun c67 => ?_) (fun c67 => ?_)
        · exact absurd c67 c47
        · refine zj_iload 40 rfl rfl rfl ?_
          refine zj_if_eq 41 rfl rfl (fun c72 => ?_) (fun c72 => ?_)
          · exact absurd c72 (by decide)
          · refine zj_aload_n 42 rfl rfl rfl ?_
            refine zj_get 43 rfl rfl mw_0 rfl ?_
            refine zj_aload_n 44 rfl rfl rfl ?_
            refine zj_get 45 rfl rfl mw_0 rfl ?_
            refine zn_zald 46 (S.2.2.1) rfl rfl mw_8 hr.2.2.1.1 (by omega) (by decide) ?_
            refine zj_if_eq 47 rfl rfl (fun c84 => ?_) (fun c84 => ?_)
            · refine zj_aload_n 54 rfl rfl rfl ?_
              refine zj_get 55 rfl rfl mw_0 rfl ?_
              refine zj_aload_n 56 rfl rfl rfl ?_
              refine zj_get 57 rfl rfl mw_0 rfl ?_
              refine zj_iload 58 rfl rfl rfl ?_
              refine zj_if_ne 59 rfl rfl (fun c104 => ?_) (fun c104 => ?_)
              · have hB : zob (qBit c S) = 1 := by
                  have : qBit c S = true := by unfold qBit; rw [decide_eq_true c55]; rfl
                  rw [this]; rfl
                refine zj_iconst 70 (1) rfl rfl (by decide) ?_
                refine zj_goto 71 rfl rfl ?_
                refine zn_zast 73 (S.2.2.1) rfl rfl mw_8 hr.2.2.1.1 (by omega) (by decide) rfl mw_u8 ?_
                refine zj_aload_n 74 rfl rfl rfl ?_
                refine zj_iload_n 75 rfl rfl rfl ?_
                refine zj_cvvX 76 rfl rfl lk_8_140 ckM_join (k_join _ (qCmp c S) (mRep_cmp hr c hB) hb) rfl mw_0 rfl rfl rfl (fun s1 hP1 => ?_)
                obtain ⟨M1, rfl, hc1, hr1⟩ := hP1
                refine zj_iconst 77 (0) rfl rfl (by decide) ?_
                refine zj_ireturn 78 rfl rfl rfl ?_
                have hno : ¬ (c = 41 ∧ 0 < S.2.2.1) := fun g => c3 g.1
                rw [qBehind_j hno (by
                  rintro (g | ⟨g1, g2⟩)
                  · exact c67 g
                  · exact absurd (zob_0.mp (by rw [← hr.2.2.1.2 _ (Nat.le_refl _)]; exact c84)) (by rw [g2]; decide))]
                exact ⟨rfl, rfl, M1, rfl, (mCore_sA6 M _).trans hc1, hr1⟩
              · exact absurd c104 (by decide)
            · refine zj_bipush 48 (10) rfl rfl (by decide) ?_
              refine zj_iload_n 49 rfl rfl rfl ?_
              refine zn_imul 50 (10) (k) rfl rfl rfl rfl ?_
              refine zj_iconst 51 (1) rfl rfl (by decide) ?_
              refine zn_iadd 52 (10 * k) (1) rfl rfl rfl rfl ?_
              refine zj_ireturn 53 rfl rfl rfl ?_
              have hno : ¬ (c = 41 ∧ 0 < S.2.2.1) := fun g => c3 g.1
              rw [qBehind_f hno (Or.inr ⟨c55, zob_n.mp (by rw [← hr.2.2.1.2 _ (Nat.le_refl _)]; exact c84)⟩)]
              exact ⟨rfl, rfl, M, rfl, mCore.rfl, hr⟩
  · refine zj_aload_n 3 rfl rfl rfl ?_
    refine zj_get 4 rfl rfl mw_0 rfl ?_
    refine zj_if_le 5 rfl rfl (fun c10 => ?_) (fun c10 => ?_)
    · refine zj_iload_n 23 rfl rfl rfl ?_
      refine zj_csx 24 rfl rfl lk_8_137 ckM_joint (k_joint _) rfl rfl rfl rfl ?_
      refine zj_istore_n 25 rfl rfl ?_
      refine zj_iload_n 26 rfl rfl rfl ?_
      refine zj_iconst 27 (-1) rfl rfl (by decide) ?_
      refine zj_icmp_eq 28 rfl rfl (fun c47 => ?_) (fun c47 => ?_)
      · refine zj_iconst 35 (0) rfl rfl (by decide) ?_
        refine zj_istore 36 rfl rfl ?_
        refine zj_iload_n 37 rfl rfl rfl ?_
        refine zj_iconst 38 (-1) rfl rfl (by decide) ?_
        refine zj_icmp_eq 39 rfl rfl (fun c67 => ?_) (fun c67 => ?_)
        · refine zj_bipush 48 (10) rfl rfl (by decide) ?_
          refine zj_iload_n 49 rfl rfl rfl ?_
          refine zn_imul 50 (10) (k) rfl rfl rfl rfl ?_
          refine zj_iconst 51 (1) rfl rfl (by decide) ?_
          refine zn_iadd 52 (10 * k) (1) rfl rfl rfl rfl ?_
          refine zj_ireturn 53 rfl rfl rfl ?_
          have hno : ¬ (c = 41 ∧ 0 < S.2.2.1) := fun g => absurd (show M.2.2.1 2 ≤ 0 from c10) (by rw [hr.2.2.1.1]; exact nI_nle g.2 (by omega))
          rw [qBehind_f hno (Or.inl c67)]
          exact ⟨rfl, rfl, M, rfl, mCore.rfl, hr⟩
        · exact absurd c47 c67
      · refine zj_iload_n 29 rfl rfl rfl ?_
        refine zj_csx 30 rfl rfl lk_8_106 ckM_firm (k_firm _) rfl rfl rfl rfl ?_
        refine zj_iconst 31 (3) rfl rfl (by decide) ?_
        refine zj_icmp_ne 32 rfl rfl (fun c55 => ?_) (fun c55 => ?_)
        · refine zj_iconst 35 (0) rfl rfl (by decide) ?_
          refine zj_istore 36 rfl rfl ?_
          refine zj_iload_n 37 rfl rfl rfl ?_
          refine zj_iconst 38 (-1) rfl rfl (by decide) ?_
          refine zj_icmp_eq 39 rfl rfl (fun c67 => ?_) (fun c67 => ?_)
          · exact absurd c67 c47
          · refine zj_iload 40 rfl rfl rfl ?_
            refine zj_if_eq 41 rfl rfl (fun c72 => ?_) (fun c72 => ?_)
            · refine zj_aload_n 54 rfl rfl rfl ?_
              refine zj_get 55 rfl rfl mw_0 rfl ?_
              refine zj_aload_n 56 rfl rfl rfl ?_
              refine zj_get 57 rfl rfl mw_0 rfl ?_
              refine zj_iload 58 rfl rfl rfl ?_
              refine zj_if_ne 59 rfl rfl (fun c104 => ?_) (fun c104 => ?_)
              · exact absurd c104 (by decide)
              · refine zj_aload_n 60 rfl rfl rfl ?_
                refine zj_get 61 rfl rfl mw_0 rfl ?_
                refine zj_aload_n 62 rfl rfl rfl ?_
                refine zj_get 63 rfl rfl mw_0 rfl ?_
                refine zn_zald 64 (S.2.2.1) rfl rfl mw_8 hr.2.2.1.1 (by omega) (by decide) ?_
                refine zj_if_eq 65 rfl rfl (fun c116 => ?_) (fun c116 => ?_)
                · have hB : zob (qBit c S) = 0 := by
                    have h6 : S.2.2.2.1 S.2.2.1 = false := zob_0.mp (by rw [← hr.2.2.1.2 _ (Nat.le_refl _)]; exact c116)
                    have : qBit c S = false := by unfold qBit; rw [h6, decide_eq_false c55]; rfl
                    rw [this]; rfl
                  refine zj_iconst 72 (0) rfl rfl (by decide) ?_
                  refine zn_zast 73 (S.2.2.1) rfl rfl mw_8 hr.2.2.1.1 (by omega) (by decide) rfl mw_u8 ?_
                  refine zj_aload_n 74 rfl rfl rfl ?_
                  refine zj_iload_n 75 rfl rfl rfl ?_
                  refine zj_cvvX 76 rfl rfl lk_8_140 ckM_join (k_join _ (qCmp c S) (mRep_cmp hr c hB) hb) rfl mw_0 rfl rfl rfl (fun s1 hP1 => ?_)
                  obtain ⟨M1, rfl, hc1, hr1⟩ := hP1
                  refine zj_iconst 77 (0) rfl rfl (by decide) ?_
                  refine zj_ireturn 78 rfl rfl rfl ?_
                  have hno : ¬ (c = 41 ∧ 0 < S.2.2.1) := fun g => absurd (show M.2.2.1 2 ≤ 0 from c10) (by rw [hr.2.2.1.1]; exact nI_nle g.2 (by omega))
                  rw [qBehind_j hno (by
                    rintro (g | ⟨g1, g2⟩)
                    · exact c67 g
                    · exact c55 g1)]
                  exact ⟨rfl, rfl, M1, rfl, (mCore_sA6 M _).trans hc1, hr1⟩
                · refine zj_iload_n 66 rfl rfl rfl ?_
                  refine zj_csx 67 rfl rfl lk_8_106 ckM_firm (k_firm _) rfl rfl rfl rfl ?_
                  refine zj_iconst 68 (3) rfl rfl (by decide) ?_
                  refine zj_icmp_le 69 rfl rfl (fun c124 => ?_) (fun c124 => ?_)
                  · have hB : zob (qBit c S) = 0 := by
                      have : qBit c S = false := by unfold qBit; rw [decide_eq_false c55, decide_eq_false (Int32.not_lt.mpr c124)]; simp
                      rw [this]; rfl
                    refine zj_iconst 72 (0) rfl rfl (by decide) ?_
                    refine zn_zast 73 (S.2.2.1) rfl rfl mw_8 hr.2.2.1.1 (by omega) (by decide) rfl mw_u8 ?_
                    refine zj_aload_n 74 rfl rfl rfl ?_
                    refine zj_iload_n 75 rfl rfl rfl ?_
                    refine zj_cvvX 76 rfl rfl lk_8_140 ckM_join (k_join _ (qCmp c S) (mRep_cmp hr c hB) hb) rfl mw_0 rfl rfl rfl (fun s1 hP1 => ?_)
                    obtain ⟨M1, rfl, hc1, hr1⟩ := hP1
                    refine zj_iconst 77 (0) rfl rfl (by decide) ?_
                    refine zj_ireturn 78 rfl rfl rfl ?_
                    have hno : ¬ (c = 41 ∧ 0 < S.2.2.1) := fun g => absurd (show M.2.2.1 2 ≤ 0 from c10) (by rw [hr.2.2.1.1]; exact nI_nle g.2 (by omega))
                    rw [qBehind_j hno (by
                      rintro (g | ⟨g1, g2⟩)
                      · exact c67 g
                      · exact c55 g1)]
                    exact ⟨rfl, rfl, M1, rfl, (mCore_sA6 M _).trans hc1, hr1⟩
                  · have hB : zob (qBit c S) = 1 := by
                      have h6 : S.2.2.2.1 S.2.2.1 = true := zob_n.mp (by rw [← hr.2.2.1.2 _ (Nat.le_refl _)]; exact c116)
                      have : qBit c S = true := by unfold qBit; rw [h6, decide_eq_true (Int32.not_le.mp c124)]; simp
                      rw [this]; rfl
                    refine zj_iconst 70 (1) rfl rfl (by decide) ?_
                    refine zj_goto 71 rfl rfl ?_
                    refine zn_zast 73 (S.2.2.1) rfl rfl mw_8 hr.2.2.1.1 (by omega) (by decide) rfl mw_u8 ?_
                    refine zj_aload_n 74 rfl rfl rfl ?_
                    refine zj_iload_n 75 rfl rfl rfl ?_
                    refine zj_cvvX 76 rfl rfl lk_8_140 ckM_join (k_join _ (qCmp c S) (mRep_cmp hr c hB) hb) rfl mw_0 rfl rfl rfl (fun s1 hP1 => ?_)
                    obtain ⟨M1, rfl, hc1, hr1⟩ := hP1
                    refine zj_iconst 77 (0) rfl rfl (by decide) ?_
                    refine zj_ireturn 78 rfl rfl rfl ?_
                    have hno : ¬ (c = 41 ∧ 0 < S.2.2.1) := fun g => absurd (show M.2.2.1 2 ≤ 0 from c10) (by rw [hr.2.2.1.1]; exact nI_nle g.2 (by omega))
                    rw [qBehind_j hno (by
                      rintro (g | ⟨g1, g2⟩)
                      · exact c67 g
                      · exact c55 g1)]
                    exact ⟨rfl, rfl, M1, rfl, (mCore_sA6 M _).trans hc1, hr1⟩
            · exact absurd c72 (by decide)
        · refine zj_iconst 33 (1) rfl rfl (by decide) ?_
          refine zj_goto 34 rfl rfl ?_
          refine zj_istore 36 rfl rfl ?_
          refine zj_iload_n 37 rfl rfl rfl ?_
          refine zj_iconst 38 (-1) rfl rfl (by decide) ?_
          refine zj_icmp_eq 39 rfl rfl (fun c67 => ?_) (fun c67 => ?_)
          · exact absurd c67 c47
          · refine zj_iload 40 rfl rfl rfl ?_
            refine zj_if_eq 41 rfl rfl (fun c72 => ?_) (fun c72 => ?_)
            · exact absurd c72 (by decide)
            · refine zj_aload_n 42 rfl rfl rfl ?_
              refine zj_get 43 rfl rfl mw_0 rfl ?_
              refine zj_aload_n 44 rfl rfl rfl ?_
              refine zj_get 45 rfl rfl mw_0 rfl ?_
              refine zn_zald 46 (S.2.2.1) rfl rfl mw_8 hr.2.2.1.1 (by omega) (by decide) ?_
              refine zj_if_eq 47 rfl rfl (fun c84 => ?_) (fun c84 => ?_)
              · refine zj_aload_n 54 rfl rfl rfl ?_
                refine zj_get 55 rfl rfl mw_0 rfl ?_
                refine zj_aload_n 56 rfl rfl rfl ?_
                refine zj_get 57 rfl rfl mw_0 rfl ?_
                refine zj_iload 58 rfl rfl rfl ?_
                refine zj_if_ne 59 rfl rfl (fun c104 => ?_) (fun c104 => ?_)
                · have hB : zob (qBit c S) = 1 := by
                    have : qBit c S = true := by unfold qBit; rw [decide_eq_true c55]; rfl
                    rw [this]; rfl
                  refine zj_iconst 70 (1) rfl rfl (by decide) ?_
                  refine zj_goto 71 rfl rfl ?_
                  refine zn_zast 73 (S.2.2.1) rfl rfl mw_8 hr.2.2.1.1 (by omega) (by decide) rfl mw_u8 ?_
                  refine zj_aload_n 74 rfl rfl rfl ?_
                  refine zj_iload_n 75 rfl rfl rfl ?_
                  refine zj_cvvX 76 rfl rfl lk_8_140 ckM_join (k_join _ (qCmp c S) (mRep_cmp hr c hB) hb) rfl mw_0 rfl rfl rfl (fun s1 hP1 => ?_)
                  obtain ⟨M1, rfl, hc1, hr1⟩ := hP1
                  refine zj_iconst 77 (0) rfl rfl (by decide) ?_
                  refine zj_ireturn 78 rfl rfl rfl ?_
                  have hno : ¬ (c = 41 ∧ 0 < S.2.2.1) := fun g => absurd (show M.2.2.1 2 ≤ 0 from c10) (by rw [hr.2.2.1.1]; exact nI_nle g.2 (by omega))
                  rw [qBehind_j hno (by
                    rintro (g | ⟨g1, g2⟩)
                    · exact c67 g
                    · exact absurd (zob_0.mp (by rw [← hr.2.2.1.2 _ (Nat.le_refl _)]; exact c84)) (by rw [g2]; decide))]
                  exact ⟨rfl, rfl, M1, rfl, (mCore_sA6 M _).trans hc1, hr1⟩
                · exact absurd c104 (by decide)
              · refine zj_bipush 48 (10) rfl rfl (by decide) ?_
                refine zj_iload_n 49 rfl rfl rfl ?_
                refine zn_imul 50 (10) (k) rfl rfl rfl rfl ?_
                refine zj_iconst 51 (1) rfl rfl (by decide) ?_
                refine zn_iadd 52 (10 * k) (1) rfl rfl rfl rfl ?_
                refine zj_ireturn 53 rfl rfl rfl ?_
                have hno : ¬ (c = 41 ∧ 0 < S.2.2.1) := fun g => absurd (show M.2.2.1 2 ≤ 0 from c10) (by rw [hr.2.2.1.1]; exact nI_nle g.2 (by omega))
                rw [qBehind_f hno (Or.inr ⟨c55, zob_n.mp (by rw [← hr.2.2.1.2 _ (Nat.le_refl _)]; exact c84)⟩)]
                exact ⟨rfl, rfl, M, rfl, mCore.rfl, hr⟩
    · have hdpos : 0 < S.2.2.1 := by
        rcases Nat.eq_zero_or_pos S.2.2.1 with e | e
        · exact absurd (show M.2.2.1 2 ≤ 0 by rw [hr.2.2.1.1, e]; decide) c10
        · exact e
      refine zj_aload_n 6 rfl rfl rfl ?_
      refine zj_iconst 7 (1) rfl rfl (by decide) ?_
      refine zj_cvvX 8 rfl rfl lk_8_113 ckM_layDown (k_layDown _ S hr (by omega)) rfl mw_0 rfl rfl rfl (fun s1 hP1 => ?_)
      obtain ⟨M1, rfl, hc1, hr1⟩ := hP1
      have hl1 := qLD_len 1 S.2.1 S.1
      have hl2 : (qLDS 1 S).2.1.length + (qLDS 1 S).1.length = S.2.1.length + S.1.length := hl1
      obtain ⟨x, ws, hws⟩ : ∃ x ws, (qLDS 1 S).2.1 = x :: ws := by
        cases hS : (qLDS 1 S).2.1 with
        | nil => exact absurd hS (hne hdpos)
        | cons x ws => exact ⟨x, ws, rfl⟩
      have hw1 : M1.2.2.1 1 = nI (ws.length + 1) := by have := hr1.2.1.1; rw [hws] at this; exact this
      obtain ⟨d, hd⟩ : ∃ d, S.2.2.1 = d + 1 := ⟨S.2.2.1 - 1, by omega⟩
      have hwl : ws.length + 1 ≤ 40 := by rw [hws] at hl2; simp at hl2; omega
      have hd1 : M1.2.2.1 2 = nI (d + 1) := by have := hr1.2.2.1.1; rw [← hd]; exact this
      refine zj_aload_n 9 rfl rfl rfl ?_
      refine zj_dup 10 rfl rfl rfl ?_
      refine zj_get 11 rfl rfl mw_0 rfl ?_
      refine zj_iconst 12 (1) rfl rfl (by decide) ?_
      refine zn_isub 13 (ws.length + 1) (1) rfl rfl hw1 rfl (by omega) ?_
      refine zn_put 14 rfl rfl mw_0 rfl rfl rfl rfl mw_p_waiting ?_
      refine zj_aload_n 15 rfl rfl rfl ?_
      refine zj_dup 16 rfl rfl rfl ?_
      refine zj_get 17 rfl rfl mw_0 rfl ?_
      refine zj_iconst 18 (1) rfl rfl (by decide) ?_
      refine zn_isub 19 (d + 1) (1) rfl rfl hd1 rfl (by omega) ?_
      refine zn_put 20 rfl rfl mw_0 rfl rfl rfl rfl mw_p_depth ?_
      refine zj_iconst 21 (0) rfl rfl (by decide) ?_
      refine zj_ireturn 22 rfl rfl rfl ?_
      rw [qBehind_c c3 hdpos, hws, hd]
      exact ⟨rfl, rfl, _, rfl, hc1.trans ((mCore_sI _ 1 _).trans (mCore_sI _ 2 _)), mRep_up (mRep_pop hr1 hws) hd⟩
end
