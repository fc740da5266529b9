/-! the two readers agree: all kinds -/
theorem lAdd_2 (S : lS) (x : Int32) : (lAdd S x).2 = S.2 := rfl
theorem lFault_keep {S : lS} (x k : Int32) (h : ¬ S.2.2.1 = -1) : (lFault S x k).2.2.1 = S.2.2.1 := by
  unfold lFault; exact if_neg h
theorem lFault_new {S : lS} (x k : Int32) (h : S.2.2.1 = -1) : (lFault S x k).2.2.1 = 10 * x + k := by
  unfold lFault; exact if_pos h
section
variable {t : Nat → Int32} {many : Nat}
/-- a fault at the place p, where the reference finds it too -/
theorem flt_of {G : Int32 × List (Int32 × Int64)} {S : lS} {p k : Nat} (hp : 10 * p + k < 2 ^ 31) (h : S.2.2.1 = -1) (hG : G.1 = nI (10 * p + k)) : lFlt G (lFault S (nI p) (nI k)) := by
  have e : (lFault S (nI p) (nI k)).2.2.1 = nI (10 * p + k) := by rw [lFault_new _ _ h, ten_p]
  exact ⟨by rw [e]; exact nI_nm1 hp, by rw [e, hG]⟩
theorem qEnd_no (Q : zS) (h : Q.2.2.2.2.1 = false ∨ 0 < Q.2.2.1) : (qEnd many (0, Q)).1 = nI (10 * many + 1) := by
  unfold qEnd
  rw [if_pos rfl, if_pos h]
theorem rdIn_ok (hmany : many ≤ 40) (g : lS → lS) (o : Nat) (S : lS) (cs : List (Int32 × Int64)) (ws : List Int32) (cm : Nat → Bool) (na : Nat) (ho : o ≤ 8) (hR : lR S cs) (hp : S.2.1 < many) (ht : t S.2.1 = 40) (hlen : cs.length + ws.length ≤ S.2.1)
    (hg : o < 8 → lPo t many 0 (o + 1) (30 :: ws) (va_up cm (o + 1) false) (S.2.1 + 1) (qGo t many (S.2.1 + 1) (qM cs (30 :: ws) (o + 1) (va_up cm (o + 1) false) false na)) (g (lAt S (S.2.1 + 1)))) :
    lPl t many o ws cm S.2.1 (qGo t many S.2.1 (qM cs ws o cm false na)) (rdIn t many g o S) := by
  unfold rdIn
  by_cases h8 : 8 ≤ o
  · rw [if_pos h8]
    have e8 : o = 8 := by omega
    subst e8
    have es : qSign (t S.2.1) S.2.1 (qM cs ws 8 cm false na) = (nI (10 * S.2.1 + 3), qM cs ws 8 cm false na) := by
      rw [qSign_u q00 (by rw [ht]; decide) rfl, ht]
      unfold qUnit
      rw [if_neg (by decide), if_neg (by decide), if_neg (by decide), if_neg (by decide), if_pos rfl]
    refine Or.inl (flt_of (k := 3) (by omega) hR.1 ?_)
    rw [qGo_err hp (by rw [es]; exact nI_nz (by omega) (by omega)), es]
  · rw [if_neg h8]
    have es : qSign (t S.2.1) S.2.1 (qM cs ws o cm false na) = (0, qM cs (30 :: ws) (o + 1) (va_up cm (o + 1) false) false na) := by
      rw [qSign_u q00 (by rw [ht]; decide) rfl, ht]
      unfold qUnit
      rw [if_neg (by decide), if_neg (by decide), if_neg (by decide), if_neg (by decide), if_neg (by show ¬ o = 8; omega)]
    rw [qGo_step hp (by rw [es]), es]
    have hP := hg (by omega)
    generalize g (lAt S (S.2.1 + 1)) = S1 at hP ⊢
    rcases hP with hP | ⟨cs', ws', cm', na', cs2, a1, a2, a3, a4, a5, a6, a7, x1, x2⟩
    · refine Or.inl ?_
      by_cases h41 : lSgn t many S1 = 41
      · rw [if_pos h41]; exact hP
      · rw [if_neg h41]
        have e := lFault_keep (S := lAt S1 (lSk t many S1.2.1)) (nI (lSk t many S1.2.1)) 1 hP.1
        exact ⟨by rw [e]; exact hP.1, by rw [e]; exact hP.2⟩
    · have hsk := lSk_le t many S1.2.1 a2
      have hat := lSk_at (t := t) (many := many) (many - S1.2.1) S1.2.1 (by omega)
      have a3' := a3.trans (qGo_sk (many - S1.2.1) S1.2.1 (by omega))
      have hln := qLD_ln a5
      simp only [List.length_cons] at hln
      obtain ⟨q, hq⟩ : ∃ q, q = lSk t many S1.2.1 := ⟨_, rfl⟩
      have x2' : ∀ j, ¬ uJoin (lSg t many q) = 0 → uLev (uJoin (lSg t many q)) = nI j → j ≤ 4 → (j < 0 ∨ (j = 2 ∧ 0 ≤ 2 ∧ cm' (o + 1) = true)) := by rw [hq]; exact x2
      unfold lSgn
      rw [← hq] at hsk a3' hat ⊢
      by_cases h41 : lSg t many q = 41
      · rw [if_pos h41]
        have hqm : q < many := Decidable.byContradiction fun z => by rw [lSg_end z] at h41; exact absurd h41 (by decide)
        have hct : lSg t many q = t q := if_pos hqm
        rw [hct] at h41
        have es2 : qSign (t q) q (qM cs' ws' (o + 1) cm' true na') = (0, qM cs2 ws o cm' true na') := by
          rw [qSign_b q00 (by rw [h41]; decide) rfl, qBehind_c h41 (by show 0 < o + 1; omega)]
          show (0, ((qLD 1 ws' cs').2, (qLD 1 ws' cs').1.tail, o + 1 - 1, cm', true, 0, na')) = _
          rw [show (1 : Int32) = nI (0 + 1) from rfl, a5, Nat.add_sub_cancel]
          rfl
        refine Or.inr ⟨cs2, cm', na', ?_, ?_, ?_, ?_, a6.at _, fun i hi => ?_⟩
        · show S.2.1 < q + 1; omega
        · show q + 1 ≤ many; omega
        · rw [a3', qGo_step hqm (by rw [es2]), es2]
        · show _ ≤ q + 1; omega
        · rw [a7 i (by omega), va_up_ne' (by omega)]
      · rw [if_neg h41]
        refine Or.inl (flt_of (k := 1) (by omega) a6.1 ?_)
        rw [a3']
        by_cases hqm : q < many
        · have hct : lSg t many q = t q := if_pos hqm
          rw [hct] at h41 x2'
          have es2 : qSign (t q) q (qM cs' ws' (o + 1) cm' true na') = (nI (10 * q + 1), qM cs' ws' (o + 1) cm' true na') := by
            rw [qSign_b q00 (fun z => hat ⟨hqm, z⟩) rfl]
            refine qBehind_f (fun z => h41 z.1) ?_
            by_cases hj : uJoin (t q) = 0
            · exact Or.inl (joint_no _ hj)
            · obtain ⟨j, l', t1, t2, t3, t4, t5, t6, t7, t8, t9, t10⟩ := joint_tab (t q) hj
              rcases x2' l' hj t6 t5 with z | ⟨z1, _, z3⟩
              · omega
              · refine Or.inr ⟨?_, z3⟩
                rw [t1, t7, z1]; rfl
          rw [qGo_err hqm (by rw [es2]; exact nI_nz (by omega) (by omega)), es2]
        · have hqe : q = many := by omega
          rw [hqe, qGo_end]
          exact qEnd_no _ (Or.inr (by show 0 < o + 1; omega))
theorem rdPlain_ok (hmany : many ≤ 40) (g : lS → lS) (o : Nat) (S : lS) (cs : List (Int32 × Int64)) (ws : List Int32) (cm : Nat → Bool) (na : Nat) (hR : lR S cs) (hp : S.2.1 ≤ many) (hlen : cs.length + ws.length ≤ S.2.1) (hx : ¬ (S.2.1 < many ∧ lPfx (t S.2.1)))
    (hg : S.2.1 < many → t S.2.1 = 40 → lPl t many o ws cm S.2.1 (qGo t many S.2.1 (qM cs ws o cm false na)) (g S)) :
    lPl t many o ws cm S.2.1 (qGo t many S.2.1 (qM cs ws o cm false na)) (rdPlain t many g S) := by
  have hsk : lSk t many S.2.1 = S.2.1 := lSk_n (fun z => hx ⟨z.1, Or.inr (Or.inr z.2)⟩)
  unfold rdPlain lSgn
  rw [hsk]
  obtain ⟨p, hpp⟩ : ∃ p, p = S.2.1 := ⟨_, rfl⟩
  have hlt : cs.length < 40 ∨ p = many := by omega
  by_cases hu : uUnit (lSg t many S.2.1) = 0
  · rw [if_neg (fun z => z hu)]
    by_cases hd : lDigit (lSg t many S.2.1)
    · rw [if_pos hd]
      have hqm : S.2.1 < many := Decidable.byContradiction fun z => by rw [lSg_end z] at hd; exact absurd hd (by decide)
      have hct : lSg t many S.2.1 = t S.2.1 := if_pos hqm
      rw [hct] at hd
      have hqd := (dig_iff _).mp hd
      obtain ⟨e, he, ec⟩ := dig_nI hqd
      have e1 : lDg t many S.2.1 S.2.1 0 = lDg t many S.2.1 (S.2.1 + 1) (nI e) := by
        rw [lDg_s hqm hd, if_pos (by omega), ec]
        congr 1
        have := num32 0 e
        rw [Nat.mul_zero, Nat.zero_add] at this
        exact this
      have es : qSign (t S.2.1) S.2.1 (qM cs ws o cm false na) = (0, (cs ++ [(6, (nI e).toInt64)], ws, o, cm, true, 1, S.2.1)) := by
        rw [qSign_u q00 (by rw [ec]; intro z; have := (nI_eq (a := 48 + e) (b := 32) (by omega) (by omega)).mp z; omega) rfl]
        unfold qUnit
        rw [if_pos hqd, ec, show (48 : Int32) = nI 48 from rfl, pk_sub (by omega), Nat.add_sub_cancel_left]
      rw [e1, qGo_step hqm (by rw [es]), es]
      obtain ⟨⟨r1, r2⟩, r3, r4⟩ := dig_run (t := t) (cs := cs) (ws := ws) (o := o) (cm := cm) S.2.1 hmany (many - (S.2.1 + 1)) (S.2.1 + 1) e 1 (by omega) rfl (by decide) (by decide) (by omega)
      unfold lDigs
      by_cases h6 : 6 < (lDg t many S.2.1 (S.2.1 + 1) (nI e)).1 - S.2.1
      · rw [if_pos h6]
        refine Or.inl ?_
        have := flt_of (S := ((lAt S S.2.1).1, (lDg t many S.2.1 (S.2.1 + 1) (nI e)).1, (lAt S S.2.1).2.2)) (p := S.2.1) (k := 2) (by omega) hR.1 (r3 h6)
        exact this
      · rw [if_neg h6]
        obtain ⟨v, v1, v2, v3⟩ := r4 h6
        refine Or.inr ⟨cs ++ [(6, (nI v).toInt64)], cm, S.2.1, ?_, r2, v3, ?_, ?_, fun i _ => rfl⟩
        · show S.2.1 < (lDg t many S.2.1 (S.2.1 + 1) (nI e)).1; omega
        · show _ ≤ (lDg t many S.2.1 (S.2.1 + 1) (nI e)).1
          simp only [List.length_append, List.length_cons, List.length_nil]; omega
        · have ecs : (lDg t many S.2.1 (S.2.1 + 1) (nI e)).2 = cst (6, (nI v).toInt64) := by
            rw [v2]
            unfold cst
            rw [if_pos rfl, nI_l (by omega), lN_i]
          rw [ecs]
          exact lR.add' (S := ((lAt S S.2.1).1, (lDg t many S.2.1 (S.2.1 + 1) (nI e)).1, (lAt S S.2.1).2.2)) hR (by omega) ⟨6, rfl, Or.inr (Or.inl ⟨rfl, v, by omega, rfl⟩)⟩ (fun _ => show ¬ (6 : Int32) = 4 by decide)
    · rw [if_neg hd]
      by_cases h40 : lSg t many S.2.1 = 40
      · rw [if_pos h40]
        have hqm : S.2.1 < many := Decidable.byContradiction fun z => by rw [lSg_end z] at h40; exact absurd h40 (by decide)
        have hct : lSg t many S.2.1 = t S.2.1 := if_pos hqm
        rw [hct] at h40
        exact hg hqm h40
      · rw [if_neg h40]
        refine Or.inl (flt_of (k := 1) (by omega) hR.1 ?_)
        by_cases hqm : S.2.1 < many
        · have hct : lSg t many S.2.1 = t S.2.1 := if_pos hqm
          rw [hct] at h40 hd hu
          have hnx : ¬ lPfx (t S.2.1) := fun z => hx ⟨hqm, z⟩
          have es : qSign (t S.2.1) S.2.1 (qM cs ws o cm false na) = (nI (10 * S.2.1 + 1), qM cs ws o cm false na) := by
            rw [qSign_u q00 (fun z => hnx (Or.inr (Or.inr z))) rfl]
            unfold qUnit
            rw [if_neg (fun z => hd ((dig_iff _).mpr z)), if_neg (fun z => z (unit_no _ hu)), if_neg (fun z => hnx (z.elim Or.inl (fun y => Or.inr (Or.inl y)))), if_pos h40]
          rw [qGo_err hqm (by rw [es]; exact nI_nz (by omega) (by omega)), es]
        · have hqe : S.2.1 = many := by omega
          rw [hqe, qGo_end]
          exact qEnd_no _ (Or.inl rfl)
  · rw [if_pos hu]
    have hqm : S.2.1 < many := Decidable.byContradiction fun z => by rw [lSg_end z] at hu; exact absurd (by decide) hu
    have hct : lSg t many S.2.1 = t S.2.1 := if_pos hqm
    rw [hct] at hu ⊢
    obtain ⟨j, u1, u2, u3, u4, u5, u6, u7⟩ := unit_tab (t S.2.1) hu
    have es : qSign (t S.2.1) S.2.1 (qM cs ws o cm false na) = (0, qM (cs ++ [(qLet (t S.2.1), 0)]) ws o cm true na) := by
      rw [qSign_u q00 u5 rfl]
      unfold qUnit
      rw [if_neg u4, if_pos u3]
    rw [qGo_step hqm (by rw [es]), es]
    refine Or.inr ⟨cs ++ [(qLet (t S.2.1), 0)], cm, na, ?_, ?_, rfl, ?_, ?_, fun i _ => rfl⟩
    · show S.2.1 < S.2.1 + 1; omega
    · show S.2.1 + 1 ≤ many; omega
    · show _ ≤ S.2.1 + 1
      simp only [List.length_append, List.length_cons, List.length_nil]; omega
    · rw [← u6]
      refine lR.add' (S := (S.1, S.2.1 + 1, S.2.2.1, S.2.2.2 || decide (cst (qLet (t S.2.1), 0) = -5))) ⟨hR.1, hR.2.1, hR.2.2.1, fun z => hR.2.2.2 (by simp only [Bool.or_eq_false_iff] at z; exact z.1)⟩ (by omega) ⟨j, u1, Or.inl u2⟩ (fun z => ?_)
      simp only [Bool.or_eq_false_iff] at z
      rw [u6] at z
      exact u7 z.2
theorem rd_ok (hmany : many ≤ 40) : ∀ f,
    (∀ l o S cs ws cm na, l ≤ 5 → o ≤ 8 → f = 9 * (8 - o) + (9 - l) → lR S cs → S.2.1 ≤ many → cs.length + ws.length ≤ S.2.1 → hdF l ws → (l ≤ 2 → cm o = false) → lPo t many l o ws cm S.2.1 (qGo t many S.2.1 (qM cs ws o cm false na)) (rd t many f l o S)) ∧
    (∀ o S cs ws cm na, o ≤ 8 → f = 9 * (8 - o) + 3 → lR S cs → S.2.1 ≤ many → cs.length + ws.length ≤ S.2.1 → hdF 5 ws → lPo t many 5 o ws cm S.2.1 (qGo t many S.2.1 (qM cs ws o cm false na)) (rd t many f 6 o S)) ∧
    (∀ o S cs ws cm na, o ≤ 8 → f = 9 * (8 - o) + 2 → lR S cs → S.2.1 ≤ many → cs.length + ws.length ≤ S.2.1 → ¬ (S.2.1 < many ∧ lPfx (t S.2.1)) → lPl t many o ws cm S.2.1 (qGo t many S.2.1 (qM cs ws o cm false na)) (rd t many f 7 o S)) ∧
    (∀ o S cs ws cm na, o ≤ 8 → f = 9 * (8 - o) + 1 → lR S cs → S.2.1 < many → t S.2.1 = 40 → cs.length + ws.length ≤ S.2.1 → lPl t many o ws cm S.2.1 (qGo t many S.2.1 (qM cs ws o cm false na)) (rd t many f 8 o S)) := by
  intro f
  induction f with
  | zero => exact ⟨fun l o S cs ws cm na hl ho hf => by omega, fun o S cs ws cm na ho hf => by omega, fun o S cs ws cm na ho hf => by omega, fun o S cs ws cm na ho hf => by omega⟩
  | succ f ih =>
    obtain ⟨A, B, C, D⟩ := ih
    refine ⟨fun l o S cs ws cm na hl ho hf hR hp hlen hws hcm => ?_, fun o S cs ws cm na ho hf hR hp hlen hws => ?_, fun o S cs ws cm na ho hf hR hp hlen hx => ?_, fun o S cs ws cm na ho hf hR hp ht hlen => ?_⟩
    · by_cases h5 : l = 5
      · subst h5
        exact B o S cs ws cm na ho (by omega) hR hp hlen hws
      · have e : rd t many (f + 1) l o S = rdL t many (rd t many f (l + 1) o) l (if l = 2 then 1 else 40) (rd t many f (l + 1) o S) := if_pos (by omega)
        rw [e]
        have hg : ∀ S cs ws1 cm1 na, lR S cs → S.2.1 ≤ many → cs.length + ws1.length ≤ S.2.1 → hdF (l + 1) ws1 → (l + 1 ≤ 2 → cm1 o = false) → lPo t many (l + 1) o ws1 cm1 S.2.1 (qGo t many S.2.1 (qM cs ws1 o cm1 false na)) (rd t many f (l + 1) o S) :=
          fun S cs ws1 cm1 na g1 g2 g3 g4 g5 => A (l + 1) o S cs ws1 cm1 na (by omega) ho (by omega) g1 g2 g3 g4 g5
        refine rdL_ok hmany _ l o (by omega) S.2.1 _ ws cm hws hg _ _ (fun e2 => by rw [if_pos e2]; omega) ?_
        rcases hg S cs ws cm na hR hp hlen (hdF_up (by omega) hws) (fun z => hcm (by omega)) with h | ⟨cs', ws', cm', na', cs2, a1, a2, a3, a4, a5, a6, a7, x1, x2⟩
        · exact Or.inl h
        · refine Or.inr ⟨cs', ws', cm', na', cs2, a1, a2, a3, a4, qLD_mono (nI_le (by omega) (by omega)) hws ws' cs' a5, a6, a7, fun h3 => x1 (by omega), x2, fun e2 _ => ?_, fun e2 hk => ?_, fun e2 => ?_⟩
          · rw [x1 (by omega)]; exact hcm (by omega)
          · rw [if_pos e2] at hk; exact absurd hk (by decide)
          · rw [if_neg e2]; exact Nat.le_add_right _ _
    · have e : rd t many (f + 1) 6 o S = lPre t S.2.1 (lPx t many S.2.1 - S.2.1) (rd t many f 7 o (lAt S (lPx t many S.2.1))) := rfl
      rw [e]
      obtain ⟨i1, i2, i3, i4⟩ := lPx_in (t := t) (many := many) (many - S.2.1) S.2.1 (by omega)
      obtain ⟨j, hj⟩ : ∃ j, j = lPx t many S.2.1 - S.2.1 := ⟨_, rfl⟩
      rw [← hj, qGo_pfx S.2.1 j (by omega) (fun i hi => i1 _ (by omega) (by omega)), show S.2.1 + j = lPx t many S.2.1 by omega]
      have hl2 := pfs_len (t := t) S.2.1 j
      have hC := C o (lAt S (lPx t many S.2.1)) cs (pfs t S.2.1 j ++ ws) cm na ho (by omega) (hR.at _) i4 (by show _ ≤ lPx t many S.2.1; rw [List.length_append]; omega) i2
      generalize rd t many f 7 o (lAt S (lPx t many S.2.1)) = S1 at hC ⊢
      have e2 := lPre_snd (t := t) S.2.1 j S1
      rcases hC with h | ⟨cs', cm', na', a1, a2, a3, a4, a5, a6⟩
      · refine Or.inl ⟨?_, ?_⟩
        · rw [e2]; exact h.1
        · rw [e2]; exact h.2
      · rw [List.length_append] at a4
        have a1' : lPx t many S.2.1 < S1.2.1 := a1
        have e3 : (lPre t S.2.1 j S1).2.1 = S1.2.1 := by rw [e2]
        refine Or.inr ⟨cs', pfs t S.2.1 j ++ ws, cm', na', cs' ++ (pfs t S.2.1 j).map (fun w => (w, 0)), ?_, ?_, ?_, ?_, qLD_pfs S.2.1 hws j cs', lPre_lR S.2.1 j S1 cs' a5 (by omega), fun i hi => a6 i (by omega), fun _ => a6 o (Nat.le_refl _), ?_⟩
        · rw [e3]; omega
        · rw [e3]; exact a2
        · rw [e3]; exact a3
        · rw [e3, List.length_append]; exact a4
        · intro j' _ _ hj4
          exact Or.inl (by omega)
    · have e : rd t many (f + 1) 7 o S = rdPlain t many (rd t many f 8 o) S := rfl
      rw [e]
      exact rdPlain_ok hmany _ o S cs ws cm na hR hp hlen hx (fun h1 h2 => D o S cs ws cm na ho (by omega) hR h1 h2 hlen)
    · have e : rd t many (f + 1) 8 o S = rdIn t many (rd t many f 0 (o + 1)) o S := rfl
      rw [e]
      refine rdIn_ok hmany _ o S cs ws cm na ho hR hp ht hlen (fun h8 => ?_)
      exact A 0 (o + 1) (lAt S (S.2.1 + 1)) cs (30 :: ws) (va_up cm (o + 1) false) na (by decide) (by omega) (by omega) (hR.at _) hp (by show _ ≤ S.2.1 + 1; simp only [List.length_cons]; omega) (fun w ws1 e z => by cases e; exact absurd z (by decide)) (fun _ => zva_eq)
end
