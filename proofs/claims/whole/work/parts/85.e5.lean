/-! a law that was read -/
theorem lRd_ok (t : Nat → Int32) (many : Nat) (hmany : many ≤ 40) (ht : ∀ j, j < many → ¬ t j = -1) : (lRd t many).2.2.1 = (qRead t many).1 ∧ ((qRead t many).1 = -1 → lR (lRd t many) (qRead t many).2.1) := by
  have hA := (rd_ok (t := t) hmany 81).1 0 0 lS0 [] [] (fun _ => false) 0 (by decide) (by decide) rfl ⟨rfl, rfl, fun p hp => by simp at hp, fun _ p hp => by simp at hp⟩ (Nat.zero_le _) (Nat.le_refl _) (fun w ws1 e => by cases e) (fun _ => rfl)
  have hG : qGo t many 0 (qM [] [] 0 (fun _ => false) false 0) = ((qRead t many).1, (qRead t many).2.1) := by
    unfold qGo
    rw [Nat.sub_zero]
  change lPo t many 0 0 [] (fun _ => false) 0 (qGo t many 0 (qM [] [] 0 (fun _ => false) false 0)) (rd t many 81 0 0 lS0) at hA
  rw [hG] at hA
  rw [show lRd t many = lFin t many (rd t many 81 0 0 lS0) from rfl]
  generalize rd t many 81 0 0 lS0 = S1 at hA ⊢
  unfold lFin
  rcases hA with h | ⟨cs', ws', cm', na', cs2, a1, a2, a3, a4, a5, a6, a7, x1, x2⟩
  · have e : (if lSgn t many S1 = -1 then lAt S1 (lSk t many S1.2.1) else lFault (lAt S1 (lSk t many S1.2.1)) (nI (lSk t many S1.2.1)) 1).2.2.1 = S1.2.2.1 := by
      by_cases hc : lSgn t many S1 = -1
      · rw [if_pos hc]
      · rw [if_neg hc]; exact lFault_keep (S := lAt S1 (lSk t many S1.2.1)) _ _ h.1
    have h2 : (qRead t many).1 = S1.2.2.1 := h.2
    exact ⟨e.trans h2.symm, fun z => absurd (h2.symm.trans z) h.1⟩
  · have hsk := lSk_le t many S1.2.1 a2
    have hat := lSk_at (t := t) (many := many) (many - S1.2.1) S1.2.1 (by omega)
    have a3' := a3.trans (qGo_sk (many - S1.2.1) S1.2.1 (by omega))
    obtain ⟨q, hq⟩ : ∃ q, q = lSk t many S1.2.1 := ⟨_, rfl⟩
    have x2' : ∀ j, ¬ uJoin (lSg t many q) = 0 → uLev (uJoin (lSg t many q)) = nI j → j ≤ 4 → (j < 0 ∨ (j = 2 ∧ 0 ≤ 2 ∧ cm' 0 = true)) := by rw [hq]; exact x2
    unfold lSgn
    rw [← hq] at hsk a3' hat ⊢
    by_cases hqm : q < many
    · have hct : lSg t many q = t q := if_pos hqm
      rw [hct] at x2' ⊢
      rw [if_neg (ht q hqm)]
      have es2 : qSign (t q) q (qM cs' ws' 0 cm' true na') = (nI (10 * q + 1), qM cs' ws' 0 cm' true na') := by
        rw [qSign_b q00 (fun z => hat ⟨hqm, z⟩) rfl]
        refine qBehind_f (fun z => absurd z.2 (Nat.lt_irrefl 0)) ?_
        by_cases hj : uJoin (t q) = 0
        · exact Or.inl (joint_no _ hj)
        · obtain ⟨j, l', t1, t2, t3, t4, t5, t6, t7, t8, t9, t10⟩ := joint_tab (t q) hj
          rcases x2' l' hj t6 t5 with z | ⟨z1, _, z3⟩
          · omega
          · refine Or.inr ⟨?_, z3⟩
            rw [t1, t7, z1]; rfl
      have e1 : (qRead t many).1 = nI (10 * q + 1) := by
        have := congrArg Prod.fst a3'
        rw [qGo_err hqm (by rw [es2]; exact nI_nz (by omega) (by omega)), es2] at this
        exact this
      have e2 : (lFault (lAt S1 q) (nI q) (nI 1)).2.2.1 = nI (10 * q + 1) := by rw [lFault_new (S := lAt S1 q) _ _ a6.1, ten_p]
      exact ⟨e2.trans e1.symm, fun z => absurd (e1.symm.trans z) (nI_nm1 (by omega))⟩
    · rw [lSg_end hqm, if_pos rfl]
      have hqe : q = many := by omega
      rw [hqe, qGo_end] at a3'
      have e3 : qEnd many (0, qM cs' ws' 0 cm' true na') = (-1, qLDS 1 (qM cs' ws' 0 cm' true na')) := by
        unfold qEnd
        rw [if_pos rfl, if_neg (by rintro (z | z); cases z; exact absurd z (Nat.lt_irrefl 0))]
      rw [e3] at a3'
      have e4 : (qLDS 1 (qM cs' ws' 0 cm' true na')).1 = cs2 := by
        show (qLD 1 ws' cs').2 = cs2
        rw [show (1 : Int32) = nI (0 + 1) from rfl, a5]
      rw [e4] at a3'
      have g1 : (qRead t many).1 = -1 := congrArg Prod.fst a3'
      have g2 : (qRead t many).2.1 = cs2 := congrArg Prod.snd a3'
      exact ⟨a6.1.trans g1.symm, fun _ => by rw [g2]; exact a6.at _⟩
theorem lwR_of {t t' : Nat → Int32} {many : Nat} {N : zMo} (hmany : many ≤ 40) (ht : ∀ j, j < many → ¬ t j = -1) (h : lRep t many N (lRd t many)) (e : ∀ j, j < 40 → t j = t' j) : lwR N t' many := by
  obtain ⟨h1, h2, ⟨h3, h4, h5⟩, h6, h7, h8⟩ := h
  obtain ⟨k1, k2⟩ := lRd_ok t many hmany ht
  have hw : lwR N t many := by
    refine ⟨h2, fun j hj => by rw [h1], h7.trans k1, ?_, fun hf => ?_⟩
    · rw [h8]; unfold zob; split
      · exact Or.inr rfl
      · exact Or.inl rfl
    · obtain ⟨m1, m2, m3, m4⟩ := k2 hf
      refine ⟨by rw [h3, m2, List.length_map], fun i p hp => ?_, m3, fun h0 => ?_⟩
      · refine h5 i (cst p) ?_
        rw [m2, List.getElem?_map, hp]; rfl
      · refine m4 ?_
        rw [h8] at h0
        cases hb : (lRd t many).2.2.2
        · rfl
        · rw [hb] at h0; exact absurd h0 (by decide)
  exact hw.cg hmany (fun j hj => (e j hj).symm)
