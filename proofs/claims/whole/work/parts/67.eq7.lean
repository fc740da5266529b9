/-! both sides: blurred cells -/
abbrev wN (g c j : Nat) : Nat := min 9 (c + j - g) - (c - g)
theorem mBl1_w (pic : Nat → Int32) (g r c i : Nat) (s : Int32 × Nat) (hr : g ≤ r + i ∧ r + i - g ≤ 8) (hc : c < 9) : ∀ j, mBl1 pic g r c i s j = (s.1 + wR pic (r + i - g) (c - g) (wN g c j), s.2 + wN g c j)
  | 0 => by
    have : wN g c 0 = 0 := by unfold wN; omega
    rw [this]
    simp [mBl1, wR]
  | j + 1 => by
    simp only [mBl1]
    rw [mBl1_w pic g r c i s hr hc j]
    by_cases h : g ≤ c + j ∧ c + j - g ≤ 8
    · have e : wN g c (j + 1) = wN g c j + 1 := by unfold wN; omega
      rw [if_pos ⟨hr, h⟩, e]
      simp only [wR]
      rw [show c - g + wN g c j = c + j - g by unfold wN; omega, Int32.add_assoc, Nat.add_assoc]
    · have e : wN g c (j + 1) = wN g c j := by unfold wN; omega
      rw [if_neg (fun z => h z.2), e]
theorem mBl1_n' (pic : Nat → Int32) (g r c i : Nat) (s : Int32 × Nat) (hr : ¬ (g ≤ r + i ∧ r + i - g ≤ 8)) : ∀ j, mBl1 pic g r c i s j = s
  | 0 => rfl
  | j + 1 => by
    simp only [mBl1]
    rw [mBl1_n' pic g r c i s hr j, if_neg (fun z => hr z.1)]
theorem mBl_w (pic : Nat → Int32) (g r c : Nat) (hr : r < 9) (hc : c < 9) : ∀ i, mBl pic g r c i = (wS pic (r - g) (c - g) (wN g c (2 * g + 1)) (wN g r i), wN g r i * wN g c (2 * g + 1))
  | 0 => by
    have : wN g r 0 = 0 := by unfold wN; omega
    rw [this]
    simp [mBl, wS]
  | i + 1 => by
    simp only [mBl]
    rw [mBl_w pic g r c hr hc i]
    by_cases h : g ≤ r + i ∧ r + i - g ≤ 8
    · have e : wN g r (i + 1) = wN g r i + 1 := by unfold wN; omega
      rw [mBl1_w pic g r c i _ h hc, e]
      simp only [wS]
      rw [show r - g + wN g r i = r + i - g by unfold wN; omega, Nat.add_mul, Nat.one_mul]
    · have e : wN g r (i + 1) = wN g r i := by unfold wN; omega
      rw [mBl1_n' pic g r c i _ h, e]
theorem blur_eq (sh f : Nat → Int32) (hf : adJ sh 9 f) (g r c : Nat) (hr : r < 9) (hc : c < 9) : pBlr f g r c = mBlur sh g r c := by
  have er : wN g r (2 * g + 1) = min 9 (r + g + 1) - (r - g) := by unfold wN; omega
  have ec : wN g c (2 * g + 1) = min 9 (c + g + 1) - (c - g) := by unfold wN; omega
  unfold pBlr mBlur
  rw [mBl_w sh g r c hr hc, er, ec]
  have hs := pS_wS sh (r - g) (c - g) (min 9 (c + g + 1) - (c - g)) (min 9 (r + g + 1) - (r - g))
  rw [show r - g + (min 9 (r + g + 1) - (r - g)) = min 9 (r + g + 1) by omega, show c - g + (min 9 (c + g + 1) - (c - g)) = min 9 (c + g + 1) by omega] at hs
  have e : pBs f g r c = wS sh (r - g) (c - g) (min 9 (c + g + 1) - (c - g)) (min 9 (r + g + 1) - (r - g)) := by
    rw [← hs]
    show f _ - f _ - f _ + f _ = _
    rw [hf.1 _ _ (by omega) (by omega), hf.1 _ _ (by omega) (by omega), hf.1 _ _ (by omega) (by omega), hf.1 _ _ (by omega) (by omega)]
  rw [e]
