/-! both sides: the oldest; rows told -/
theorem pOld_fuel (mh : Nat → Int32) (h : ∀ s, mh s >>> ((16 : Int32) &&& 31) = 0 → pLo (mh s) s s < s) : ∀ s f, s ≤ f → pOld mh f s = pOld mh s s := by
  intro s
  induction s using Nat.strongRecOn with
  | ind s ih =>
    intro f hf
    by_cases c : mh s >>> ((16 : Int32) &&& 31) = 0
    · have hl := h s c
      obtain ⟨s', rfl⟩ : ∃ s', s = s' + 1 := ⟨s - 1, by omega⟩
      obtain ⟨f', rfl⟩ : ∃ f', f = f' + 1 := ⟨f - 1, by omega⟩
      have e1 : pOld mh (f' + 1) (s' + 1) = pOld mh f' (pLo (mh (s' + 1)) (s' + 1) (s' + 1)) := if_pos c
      have e2 : pOld mh (s' + 1) (s' + 1) = pOld mh s' (pLo (mh (s' + 1)) (s' + 1) (s' + 1)) := if_pos c
      rw [e1, e2, ih _ hl f' (by omega), ih _ hl s' (by omega)]
    · have e : ∀ g, pOld mh g s = s := by
        intro g
        match g with
        | 0 => rfl
        | g + 1 => exact if_neg c
      rw [e f, e s]
theorem pOc_pOld (mh : Nat → Int32) (h : ∀ s, mh s &&& 65536 = 0 ↔ mh s >>> ((16 : Int32) &&& 31) = 0) : ∀ f s, pOc mh f s = pOld mh f s := by
  intro f
  induction f with
  | zero => intro s; rfl
  | succ f ih =>
    intro s
    by_cases c : mh s &&& 65536 = 0
    · have e1 : pOc mh (f + 1) s = pOc mh f (pLo (mh s) s s) := if_pos c
      have e2 : pOld mh (f + 1) s = pOld mh f (pLo (mh s) s s) := if_pos ((h s).mp c)
      rw [e1, e2, ih]
    · have e1 : pOc mh (f + 1) s = s := if_neg c
      have e2 : pOld mh (f + 1) s = s := if_neg (fun g => c ((h s).mpr g))
      rw [e1, e2]
/-- two rows told in turn are one row told -/
theorem pM2_pTR (f g r : Nat → Int32) (h : Int64) : ∀ k, (∀ i, i < k → r (2 * i) = f i ∧ r (2 * i + 1) = g i) → pM2 f g h k = pTR r h (2 * k)
  | 0, _ => rfl
  | k + 1, hr => by
    have e : pTR r h (2 * (k + 1)) = 31 * (31 * pTR r h (2 * k) + (r (2 * k)).toInt64) + (r (2 * k + 1)).toInt64 := rfl
    rw [e, (hr k (by omega)).1, (hr k (by omega)).2, ← pM2_pTR f g r h k (fun i hi => hr i (by omega))]
    rfl
theorem pM3_pTR (f g u r : Nat → Int32) (h : Int64) : ∀ k, (∀ i, i < k → r (3 * i) = f i ∧ r (3 * i + 1) = g i ∧ r (3 * i + 2) = u i) → pM3 f g u h k = pTR r h (3 * k)
  | 0, _ => rfl
  | k + 1, hr => by
    have e : pTR r h (3 * (k + 1)) = 31 * (31 * (31 * pTR r h (3 * k) + (r (3 * k)).toInt64) + (r (3 * k + 1)).toInt64) + (r (3 * k + 2)).toInt64 := rfl
    rw [e, (hr k (by omega)).1, (hr k (by omega)).2.1, (hr k (by omega)).2.2, ← pM3_pTR f g u r h k (fun i hi => hr i (by omega))]
    rfl
/-- lines of a season -/
theorem pLSe_eq (sl : Nat → Int32) (x y : Int32) : ∀ n, pLSe sl x y n = pLA sl x n &&& (pLS sl y n ^^^ (-1))
  | 0 => by simp only [pLSe, pLA, pLS]; decide
  | n + 1 => by
    simp only [pLSe, pLA, pLS]
    rw [pLSe_eq sl x y n]
    refine zbit_ext (fun i hi => ?_)
    have m1 : ∀ i, i < 32 → zbit (-1) i = true := by decide +kernel
    by_cases c1 : zhas x (nI n) <;> by_cases c2 : zhas y (nI n)
    all_goals
      first | rw [if_pos c1] | rw [if_neg c1]
      first | rw [if_pos c2, if_pos c2] | rw [if_neg c2, if_neg c2]
      simp only [zbit_and, zbit_xor, zbit_or, m1 i hi, zbit_0]
      cases zbit (pLA sl x n) i <;> cases zbit (pLS sl y n) i <;> cases zbit (sl n) i <;> rfl
