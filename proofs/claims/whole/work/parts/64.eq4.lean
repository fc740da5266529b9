/-! both sides: unlike drawings counted -/
theorem pUn_mem (W : Int32) (d : Nat → Int32) (x : Int32) : ∀ w, x ∈ pUn W d w ↔ ∃ v, v < w ∧ zhas W (nI v) ∧ d v = x := by
  intro w
  induction w with
  | zero => simp [pUn]
  | succ w ih =>
    have up : (∃ v, v < w ∧ zhas W (nI v) ∧ d v = x) → ∃ v, v < w + 1 ∧ zhas W (nI v) ∧ d v = x := fun ⟨v, h1, h2⟩ => ⟨v, by omega, h2⟩
    have dn : (∃ v, v < w + 1 ∧ zhas W (nI v) ∧ d v = x) → (∃ v, v < w ∧ zhas W (nI v) ∧ d v = x) ∨ (zhas W (nI w) ∧ d w = x) := by
      rintro ⟨v, h1, h2, h3⟩
      by_cases e : v = w
      · subst e; exact Or.inr ⟨h2, h3⟩
      · exact Or.inl ⟨v, by omega, h2, h3⟩
    rw [pUn_s]
    by_cases c : zhas W (nI w)
    · rw [if_pos c]
      by_cases c2 : d w ∈ pUn W d w
      · rw [if_pos c2]
        constructor
        · exact fun h => up (ih.mp h)
        · intro h
          rcases dn h with h | ⟨_, h⟩
          · exact ih.mpr h
          · rw [← h]; exact c2
      · rw [if_neg c2, List.mem_append, List.mem_singleton]
        constructor
        · rintro (h | h)
          · exact up (ih.mp h)
          · exact ⟨w, by omega, c, h.symm⟩
        · intro h
          rcases dn h with h | ⟨_, h⟩
          · exact Or.inl (ih.mpr h)
          · exact Or.inr h.symm
    · rw [if_neg c]
      constructor
      · exact fun h => up (ih.mp h)
      · intro h
        rcases dn h with h | ⟨h, _⟩
        · exact ih.mpr h
        · exact absurd h c
/-- the unlike ones, as the component counts them -/
def cUn (W : Int32) (d : Nat → Int32) : Nat → Nat
  | 0 => 0
  | w + 1 => cUn W d w + (if zhas W (nI w) ∧ ¬ (d w ∈ pUn W d w) then 1 else 0)
theorem cUn_eq (W : Int32) (d : Nat → Int32) : ∀ w, cUn W d w = (pUn W d w).length := by
  intro w
  induction w with
  | zero => rfl
  | succ w ih =>
    have e : cUn W d (w + 1) = cUn W d w + (if zhas W (nI w) ∧ ¬ (d w ∈ pUn W d w) then 1 else 0) := rfl
    rw [e, pUn_s, ih]
    by_cases c : zhas W (nI w)
    · rw [if_pos c]
      by_cases c2 : d w ∈ pUn W d w
      · rw [if_pos c2, if_neg (fun h => h.2 c2)]; rfl
      · rw [if_neg c2, if_pos ⟨c, c2⟩, List.length_append, List.length_singleton]
    · rw [if_neg c, if_neg (fun h => c h.1)]; rfl
