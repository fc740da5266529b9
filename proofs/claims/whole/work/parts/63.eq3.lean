/-! both sides: lines, if some were shown -/
theorem pDr_bit (tr : Nat → Bool) : ∀ n, n ≤ 32 → ∀ i, i < 32 → zbit (pDr tr n) i = (decide (i < n) && tr i) := by
  intro n
  induction n with
  | zero => intro _ i _; simp only [pDr]; rw [zbit_0]; simp
  | succ n ih =>
    intro hn i hi
    have e : pDr tr (n + 1) = pDr tr n ||| (if tr n then 1 <<< (nI n &&& 31) else 0) := rfl
    rw [e, zbit_or, ih (by omega) i hi]
    by_cases c : tr n = true
    · rw [if_pos c, zbit_1shl n (by omega) i hi]
      by_cases h : i = n
      · subst h; simp [c]
      · have : (i < n + 1) = (i < n) := by apply propext; omega
        simp [h, this]
    · rw [if_neg c, zbit_0]
      by_cases h : i = n
      · subst h; simp [c]
      · have : (i < n + 1) = (i < n) := by apply propext; omega
        simp [this]
theorem zkb_bit (x : Int32) {i : Nat} (hi : i < 32) : (x >>> (nI i &&& 31)) &&& 1 = if zbit x i = true then 1 else 0 := by
  by_cases h : zbit x i = true
  · rw [if_pos h]; exact (zhas1_iff _ _).mpr ((zhas_bit x hi).mpr h)
  · rw [if_neg h]
    exact Decidable.of_not_not (fun g => h ((zhas_bit x hi).mp g))
theorem shown_eq (cs : List (Int32 × Int64)) (see : Nat → Int32) (g : Nat) (mk : Nat → Nat) (shown : Int32) : (pDr (cTr cs see g 0 mk) 28 &&& (shown ^^^ (-1))) ||| (pDr (cTr cs see g 1 mk) 28 &&& shown) = pDr (mTr cs see g shown mk) 28 := by
  refine zbit_ext (fun i hi => ?_)
  have m1 : ∀ i, i < 32 → zbit (-1) i = true := by decide +kernel
  rw [zbit_or, zbit_and, zbit_and, zbit_xor, m1 i hi, pDr_bit _ 28 (by decide) i hi, pDr_bit _ 28 (by decide) i hi, pDr_bit _ 28 (by decide) i hi]
  unfold mTr
  rw [zkb_bit shown hi]
  by_cases h : zbit shown i = true
  · rw [if_pos h, h]; simp
  · rw [if_neg h]
    have h' : zbit shown i = false := by simpa using h
    rw [h']; simp
