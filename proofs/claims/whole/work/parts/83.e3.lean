/-! the two readers agree -/
theorem lR.add' {S : lS} {cs : List (Int32 × Int64)} (h : lR S cs) {p : Int32 × Int64} (hl : cs.length < 40) (hp : cCode p) (h4 : S.2.2.2 = false → ¬ p.1 = 4) : lR (lAdd S (cst p)) (cs ++ [p]) := by
  obtain ⟨h1, h2, h3, h5⟩ := h
  refine ⟨h1, ?_, fun q hq => ?_, fun ha q hq => ?_⟩
  · unfold lAdd
    rw [if_pos (by rw [h2, List.length_map]; exact hl), h2, List.map_append]
    rfl
  · rcases List.mem_append.mp hq with g | g
    · exact h3 q g
    · rw [List.mem_singleton.mp g]; exact hp
  · rcases List.mem_append.mp hq with g | g
    · exact h5 ha q g
    · rw [List.mem_singleton.mp g]; exact h4 ha
def lNx (t : Nat → Int32) (many l p o : Nat) (cm : Nat → Bool) : Prop := ∀ j, ¬ uJoin (lSg t many (lSk t many p)) = 0 → uLev (uJoin (lSg t many (lSk t many p))) = nI j → j ≤ 4 → (j < l ∨ (j = 2 ∧ l ≤ 2 ∧ cm o = true))
abbrev lFlt (G : Int32 × List (Int32 × Int64)) (S' : lS) : Prop := ¬ S'.2.2.1 = -1 ∧ G.1 = S'.2.2.1
def lOK (t : Nat → Int32) (many b o : Nat) (ws : List Int32) (cm : Nat → Bool) (p : Nat) (G : Int32 × List (Int32 × Int64)) (S' : lS) (X : (Nat → Bool) → Prop) : Prop :=
  ∃ cs' ws' cm' na' cs2, p < S'.2.1 ∧ S'.2.1 ≤ many ∧ G = qGo t many S'.2.1 (qM cs' ws' o cm' true na') ∧ cs'.length + ws'.length ≤ S'.2.1 ∧ qLD (nI b) ws' cs' = (ws, cs2) ∧ lR S' cs2 ∧ (∀ i, i < o → cm' i = cm i) ∧ X cm'
def lPo (t : Nat → Int32) (many l o : Nat) (ws : List Int32) (cm : Nat → Bool) (p : Nat) (G : Int32 × List (Int32 × Int64)) (S' : lS) : Prop :=
  lFlt G S' ∨ lOK t many (l + 1) o ws cm p G S' (fun cm' => (3 ≤ l → cm' o = cm o) ∧ lNx t many l S'.2.1 o cm')
/-- of a plain unit: nothing of it waits -/
def lPl (t : Nat → Int32) (many o : Nat) (ws : List Int32) (cm : Nat → Bool) (p : Nat) (G : Int32 × List (Int32 × Int64)) (S' : lS) : Prop :=
  lFlt G S' ∨ ∃ cs' cm' na', p < S'.2.1 ∧ S'.2.1 ≤ many ∧ G = qGo t many S'.2.1 (qM cs' ws o cm' true na') ∧ cs'.length + ws.length ≤ S'.2.1 ∧ lR S' cs' ∧ ∀ i, i ≤ o → cm' i = cm i
theorem lSg_end {t : Nat → Int32} {many p : Nat} (h : ¬ p < many) : lSg t many p = -1 := if_neg h
theorem bit_lo {c : Int32} {j l : Nat} {b : Bool} (h1 : qJoint c = nI j) (h7 : pFirm (nI j) = nI (l + 1)) (hl : l ≤ 1) : (decide (pFirm (qJoint c) = 3) || (b && decide (3 < pFirm (qJoint c)))) = false := by
  rw [h1, h7]
  match l, hl with
  | 0, _ => simp; exact ⟨by decide, fun _ => by decide⟩
  | 1, _ => simp; exact ⟨by decide, fun _ => by decide⟩
theorem bit_2 {c : Int32} {j : Nat} {b : Bool} (h1 : qJoint c = nI j) (h7 : pFirm (nI j) = nI (2 + 1)) : (decide (pFirm (qJoint c) = 3) || (b && decide (3 < pFirm (qJoint c)))) = true := by
  rw [h1, h7]
  have : nI (2 + 1) = 3 := rfl
  rw [this]; simp
theorem bit_hi {c : Int32} {j l : Nat} {b : Bool} (h1 : qJoint c = nI j) (h7 : pFirm (nI j) = nI (l + 1)) (h3 : 3 ≤ l) (hl : l ≤ 4) : (decide (pFirm (qJoint c) = 3) || (b && decide (3 < pFirm (qJoint c)))) = b := by
  rw [h1, h7]
  obtain rfl | rfl : l = 3 ∨ l = 4 := by omega
  · rw [show decide (nI (3 + 1) = 3) = false from by decide, show decide ((3 : Int32) < nI (3 + 1)) = true from by decide]; simp
  · rw [show decide (nI (4 + 1) = 3) = false from by decide, show decide ((3 : Int32) < nI (4 + 1)) = true from by decide]; simp
theorem qLD_ln {a : Int32} {ws' ws : List Int32} {cs' cs2 : List (Int32 × Int64)} (h : qLD a ws' cs' = (ws, cs2)) : ws.length + cs2.length = ws'.length + cs'.length := by
  have := qLD_len a ws' cs'
  rw [h] at this
  exact this
section
variable {t : Nat → Int32} {many : Nat}
theorem rdL_ok (hmany : many ≤ 40) (g : lS → lS) (l o : Nat) (hl : l < 5) (p0 : Nat) (G : Int32 × List (Int32 × Int64)) (ws : List Int32) (cm : Nat → Bool) (hws : hdF l ws)
    (hg : ∀ S cs ws1 cm1 na, lR S cs → S.2.1 ≤ many → cs.length + ws1.length ≤ S.2.1 → hdF (l + 1) ws1 → (l + 1 ≤ 2 → cm1 o = false) → lPo t many (l + 1) o ws1 cm1 S.2.1 (qGo t many S.2.1 (qM cs ws1 o cm1 false na)) (g S)) :
    ∀ k S1, (l = 2 → k ≤ 1) →
    (lFlt G S1 ∨ lOK t many (l + 1) o ws cm p0 G S1 (fun cm' => (3 ≤ l → cm' o = cm o) ∧ lNx t many (l + 1) S1.2.1 o cm' ∧ (l = 2 → k = 1 → cm' o = false) ∧ (l = 2 → k = 0 → cm' o = true) ∧ (l ≠ 2 → 40 ≤ k + S1.2.1))) →
    lPo t many l o ws cm p0 G (rdL t many g l k S1) := by
  intro k
  induction k with
  | zero =>
    intro S1 hk2 h
    rcases h with h | ⟨cs', ws', cm', na', cs2, a1, a2, a3, a4, a5, a6, a7, x1, x2, x3, x4, x5⟩
    · exact Or.inl h
    · refine Or.inr ⟨cs', ws', cm', na', cs2, a1, a2, a3, a4, a5, a6, a7, x1, ?_⟩
      intro j hj hlv hj4
      by_cases e2 : l = 2
      · subst e2
        rcases x2 j hj hlv hj4 with q | q
        · by_cases ej : j = 2
          · exact Or.inr ⟨ej, Nat.le_refl _, x4 rfl rfl⟩
          · exact Or.inl (by omega)
        · exact absurd q.2.1 (by decide)
      · have hp := x5 e2
        have a2' : S1.2.1 ≤ many := a2
        have hm : S1.2.1 = many := by omega
        refine absurd ?_ hj
        show uJoin (lSg t many (lSk t many S1.2.1)) = 0
        rw [lSk_n (by omega), lSg_end (by omega)]
        decide
  | succ k ih =>
    intro S1 hk2 h
    simp only [rdL]
    rcases h with h | ⟨cs', ws', cm', na', cs2, a1, a2, a3, a4, a5, a6, a7, x1, x2, x3, x4, x5⟩
    · rw [if_pos h.1]; exact Or.inl h
    · rw [if_neg (fun z => z a6.1)]
      have hsk := lSk_le t many S1.2.1 a2
      have a3' := a3.trans (qGo_sk (many - S1.2.1) S1.2.1 (by omega))
      by_cases hc : uJoin (lSgn t many S1) = 0 ∨ ¬ uLev (uJoin (lSgn t many S1)) = nI l
      · rw [if_pos hc]
        refine Or.inr ⟨cs', ws', cm', na', cs2, by show p0 < lSk t many S1.2.1; omega, hsk.2, a3', by show _ ≤ lSk t many S1.2.1; omega, a5, a6.at _, a7, x1, ?_⟩
        intro j hj hlv hj4
        change ¬ uJoin (lSg t many (lSk t many (lSk t many S1.2.1))) = 0 at hj
        change uLev (uJoin (lSg t many (lSk t many (lSk t many S1.2.1)))) = nI j at hlv
        rw [lSk_idem a2] at hj hlv
        rcases x2 j hj hlv hj4 with q | ⟨q1, q2, q3⟩
        · by_cases ej : j = l
          · subst ej
            rcases hc with hc | hc
            · exact absurd hc hj
            · exact absurd hlv hc
          · exact Or.inl (by omega)
        · exact Or.inr ⟨q1, by omega, q3⟩
      · rw [if_neg hc]
        have hc1 : ¬ uJoin (lSgn t many S1) = 0 := fun z => hc (Or.inl z)
        have hc2 : uLev (uJoin (lSgn t many S1)) = nI l := Decidable.byContradiction fun z => hc (Or.inr z)
        obtain ⟨q, hq⟩ : ∃ q, q = lSk t many S1.2.1 := ⟨_, rfl⟩
        unfold lSgn at hc1 hc2 ⊢
        rw [← hq] at hsk a3' hc1 hc2 ⊢
        have hqm : q < many := by
          refine Decidable.byContradiction fun z => hc1 ?_
          rw [lSg_end z]; decide
        have hct : lSg t many q = t q := if_pos hqm
        rw [hct] at hc1 hc2 ⊢
        obtain ⟨j, l', t1, t2, t3, t4, t5, t6, t7, t8, t9, t10⟩ := joint_tab (t q) hc1
        have ell : l' = l := (nI_eq (by omega) (by omega)).mp (t6.symm.trans hc2)
        subst ell
        have hcm : ¬ (qJoint (t q) = -1 ∨ (pFirm (qJoint (t q)) = 3 ∧ cm' o = true)) := by
          rintro (z | ⟨z1, z2⟩)
          · rw [t1] at z; exact nI_nm1 (by omega) z
          · rw [t1, t7] at z1
            have e2 : l' + 1 = 3 := (nI_eq (by omega) (by omega)).mp (z1.trans (show (3 : Int32) = nI 3 from rfl))
            have hk : k + 1 = 1 := by have := hk2 (by omega); omega
            rw [x3 (by omega) hk] at z2
            cases z2
        obtain ⟨bit, hbit⟩ : ∃ b, b = (decide (pFirm (qJoint (t q)) = 3) || (cm' o && decide (3 < pFirm (qJoint (t q))))) := ⟨_, rfl⟩
        have es : qSign (t q) q (qM cs' ws' o cm' true na') = (0, qM cs2 (nI j :: ws) o (va_up cm' o bit) false na') := by
          rw [qSign_b q00 t8 rfl, qBehind_j (fun z => t9 z.1) hcm]
          show (0, ((qLD (pFirm (qJoint (t q))) ws' cs').2, qJoint (t q) :: (qLD (pFirm (qJoint (t q))) ws' cs').1, o, va_up cm' o (decide (pFirm (qJoint (t q)) = 3) || (cm' o && decide (3 < pFirm (qJoint (t q))))), false, 0, na')) = _
          rw [← hbit, t1, t7, a5]
        have hG : G = qGo t many (q + 1) (qM cs2 (nI j :: ws) o (va_up cm' o bit) false na') := by
          rw [a3', qGo_step hqm (by rw [es]), es]
        have hln := qLD_ln a5
        have hP := hg (lAt S1 (q + 1)) cs2 (nI j :: ws) (va_up cm' o bit) na' (a6.at _) (by show q + 1 ≤ many; omega) (by show _ ≤ q + 1; simp only [List.length_cons]; omega)
          (fun w ws1 e z => by
            cases e
            rw [t7] at z
            exact nI_ge (a := l' + 1) (b := l' + 1 + 1) (by omega) (by omega) z)
          (fun hl1 => by rw [zva_eq, hbit]; exact bit_lo t1 t7 (by omega))
        refine ih _ (fun e => by have := hk2 e; omega) ?_
        rcases hP with hP | ⟨cs3, ws3, cm4, na3, cs4, b1, b2, b3, b4, b5, b6, b7, y1, y2⟩
        · exact Or.inl ⟨hP.1, by rw [hG]; exact hP.2⟩
        · have hln2 := qLD_ln b5
          simp only [List.length_cons] at hln2
          have hcm4 : 3 ≤ l' + 1 → cm4 o = bit := fun z => (y1 z).trans zva_eq
          refine Or.inr ⟨cs3, ws3, cm4, na3, cs4 ++ [(nI j, 0)], ?_, b2, hG.trans b3, b4, qLD_code (nI_le (by omega) (by omega)) (by rw [t7]; exact Int32.le_refl _) hws ws3 cs3 b5, ?_, ?_, ?_, y2, ?_, ?_, ?_⟩
          · have : q + 1 < (g (lAt S1 (q + 1))).2.1 := b1
            show p0 < (g (lAt S1 (q + 1))).2.1
            omega
          · rw [← t10]
            refine b6.add (by omega) ⟨j, rfl, Or.inr (Or.inr ⟨t2, by omega⟩)⟩ (fun z => ?_)
            have := (nI_eq (a := j) (b := 4) (by omega) (by omega)).mp z
            omega
          · intro i hi
            rw [b7 i hi, va_up_ne' (by omega)]
            exact a7 i hi
          · intro h3
            rw [hcm4 (by omega), hbit, bit_hi t1 t7 h3 (by omega)]
            exact x1 h3
          · intro e hk
            have := hk2 e
            omega
          · intro e hk
            rw [hcm4 (by omega), hbit]
            subst e
            exact bit_2 t1 t7
          · intro e
            have h5 := x5 e
            have : q + 1 < (g (lAt S1 (q + 1))).2.1 := b1
            show 40 ≤ k + (g (lAt S1 (q + 1))).2.1
            omega
end
