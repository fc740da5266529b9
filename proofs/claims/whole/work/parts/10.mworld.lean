/-! the reference's world: its object at a, its rows behind it -/
abbrev zMo : Type := (Nat → Nat → Int32) × (Nat → Nat → Int64) × (Nat → Int32) × (Nat → Int64)
abbrev zMo.row (M : zMo) : Nat → Int32 := M.1 0
abbrev zMo.kept (M : zMo) : Nat → Int32 := M.1 1
abbrev zMo.isKept (M : zMo) : Nat → Int32 := M.1 2
abbrev zMo.picture (M : zMo) : Nat → Int32 := M.1 3
abbrev zMo.codes (M : zMo) : Nat → Int32 := M.1 4
abbrev zMo.waits (M : zMo) : Nat → Int32 := M.1 5
abbrev zMo.isCompared (M : zMo) : Nat → Int32 := M.1 6
abbrev zMo.drawings (M : zMo) : Nat → Int32 := M.1 7
abbrev zMo.numbers (M : zMo) : Nat → Int64 := M.2.1 0
abbrev zMo.letters (M : zMo) : Nat → Int64 := M.2.1 1
abbrev zMo.stack (M : zMo) : Nat → Int64 := M.2.1 2
abbrev zMo.codeMany (M : zMo) : Int32 := M.2.2.1 0
abbrev zMo.waiting (M : zMo) : Int32 := M.2.2.1 1
abbrev zMo.depth (M : zMo) : Int32 := M.2.2.1 2
abbrev zMo.isBehind (M : zMo) : Int32 := M.2.2.1 3
abbrev zMo.digits (M : zMo) : Int32 := M.2.2.1 4
abbrev zMo.numberAt (M : zMo) : Int32 := M.2.2.1 5
abbrev zMo.leastCost (M : zMo) : Int32 := M.2.2.1 6
abbrev zMo.up (M : zMo) : Int64 := M.2.2.2 0
abbrev zMo.low (M : zMo) : Int64 := M.2.2.2 1
abbrev zMo.hash (M : zMo) : Int64 := M.2.2.2 2
abbrev zMo.sA (M : zMo) (j : Nat) (f : Nat → Int32) : zMo := (va_up M.1 j f, M.2)
abbrev zMo.sB (M : zMo) (j : Nat) (f : Nat → Int64) : zMo := (M.1, va_up M.2.1 j f, M.2.2)
abbrev zMo.sI (M : zMo) (j : Nat) (x : Int32) : zMo := (M.1, M.2.1, va_up M.2.2.1 j x, M.2.2.2)
abbrev zMo.sL (M : zMo) (j : Nat) (x : Int64) : zMo := (M.1, M.2.1, M.2.2.1, va_up M.2.2.2 j x)
abbrev mfs (a : Nat) (M : zMo) : List Value := [.ref (a + 1), .ref (a + 2), .ref (a + 3), .long (M.2.2.2 0), .long (M.2.2.2 1), .ref (a + 4), .ref (a + 5), .ref (a + 6), .int (M.2.2.1 0), .ref (a + 7), .int (M.2.2.1 1), .int (M.2.2.1 2), .ref (a + 8), .int (M.2.2.1 3), .int (M.2.2.1 4), .int (M.2.2.1 5), .ref (a + 9), .ref (a + 10), .int (M.2.2.1 6), .ref (a + 11), .long (M.2.2.2 2)]
def mw (σ : zH) (a : Nat) (M : zMo) : zH := fun q =>
  if q = a then some (.inr (8, mfs a M))
  else if q = a + 1 then some (.inl (0, 818, .inl (M.1 0)))
  else if q = a + 2 then some (.inl (0, 1636, .inl (M.1 1)))
  else if q = a + 3 then some (.inl (2, 2, .inl (M.1 2)))
  else if q = a + 4 then some (.inl (0, 81, .inl (M.1 3)))
  else if q = a + 5 then some (.inl (0, 40, .inl (M.1 4)))
  else if q = a + 6 then some (.inl (1, 40, .inr (.inl (M.2.1 0))))
  else if q = a + 7 then some (.inl (0, 41, .inl (M.1 5)))
  else if q = a + 8 then some (.inl (2, 10, .inl (M.1 6)))
  else if q = a + 9 then some (.inl (1, 6, .inr (.inl (M.2.1 1))))
  else if q = a + 10 then some (.inl (1, 41, .inr (.inl (M.2.1 2))))
  else if q = a + 11 then some (.inl (0, 4, .inl (M.1 7)))
  else σ q
section
variable {σ : zH} {a : Nat} {M : zMo}
theorem mw_0 : mw σ a M a = some (.inr (8, mfs a M)) := by simp [mw]
theorem mw_1 : mw σ a M (a + 1) = some (.inl (0, 818, .inl (M.1 0))) := by simp [mw]
theorem mw_2 : mw σ a M (a + 2) = some (.inl (0, 1636, .inl (M.1 1))) := by simp [mw]
theorem mw_3 : mw σ a M (a + 3) = some (.inl (2, 2, .inl (M.1 2))) := by simp [mw]
theorem mw_4 : mw σ a M (a + 4) = some (.inl (0, 81, .inl (M.1 3))) := by simp [mw]
theorem mw_5 : mw σ a M (a + 5) = some (.inl (0, 40, .inl (M.1 4))) := by simp [mw]
theorem mw_6 : mw σ a M (a + 6) = some (.inl (1, 40, .inr (.inl (M.2.1 0)))) := by simp [mw]
theorem mw_7 : mw σ a M (a + 7) = some (.inl (0, 41, .inl (M.1 5))) := by simp [mw]
theorem mw_8 : mw σ a M (a + 8) = some (.inl (2, 10, .inl (M.1 6))) := by simp [mw]
theorem mw_9 : mw σ a M (a + 9) = some (.inl (1, 6, .inr (.inl (M.2.1 1)))) := by simp [mw]
theorem mw_10 : mw σ a M (a + 10) = some (.inl (1, 41, .inr (.inl (M.2.1 2)))) := by simp [mw]
theorem mw_11 : mw σ a M (a + 11) = some (.inl (0, 4, .inl (M.1 7))) := by simp [mw]
theorem mw_ne {q : Nat} (h : q < a ∨ a + 12 ≤ q) : mw σ a M q = σ q := by
  unfold mw
  rw [if_neg (by omega)]
  rw [if_neg (by omega)]
  rw [if_neg (by omega)]
  rw [if_neg (by omega)]
  rw [if_neg (by omega)]
  rw [if_neg (by omega)]
  rw [if_neg (by omega)]
  rw [if_neg (by omega)]
  rw [if_neg (by omega)]
  rw [if_neg (by omega)]
  rw [if_neg (by omega)]
  rw [if_neg (by omega)]
theorem mw_u1 {f : Nat → Int32} : zup (mw σ a M) (a + 1) (.inl (0, 818, .inl f)) = mw σ a (M.sA 0 f) := by
  funext q
  by_cases h : q = a + 1
  · subst h; simp [zup, mw, va_up]
  · simp [zup, mw, va_up, h]
theorem mw_u2 {f : Nat → Int32} : zup (mw σ a M) (a + 2) (.inl (0, 1636, .inl f)) = mw σ a (M.sA 1 f) := by
  funext q
  by_cases h : q = a + 2
  · subst h; simp [zup, mw, va_up]
  · simp [zup, mw, va_up, h]
theorem mw_u3 {f : Nat → Int32} : zup (mw σ a M) (a + 3) (.inl (2, 2, .inl f)) = mw σ a (M.sA 2 f) := by
  funext q
  by_cases h : q = a + 3
  · subst h; simp [zup, mw, va_up]
  · simp [zup, mw, va_up, h]
theorem mw_u4 {f : Nat → Int32} : zup (mw σ a M) (a + 4) (.inl (0, 81, .inl f)) = mw σ a (M.sA 3 f) := by
  funext q
  by_cases h : q = a + 4
  · subst h; simp [zup, mw, va_up]
  · simp [zup, mw, va_up, h]
theorem mw_u5 {f : Nat → Int32} : zup (mw σ a M) (a + 5) (.inl (0, 40, .inl f)) = mw σ a (M.sA 4 f) := by
  funext q
  by_cases h : q = a + 5
  · subst h; simp [zup, mw, va_up]
  · simp [zup, mw, va_up, h]
theorem mw_u6 {f : Nat → Int64} : zup (mw σ a M) (a + 6) (.inl (1, 40, .inr (.inl f))) = mw σ a (M.sB 0 f) := by
  funext q
  by_cases h : q = a + 6
  · subst h; simp [zup, mw, va_up]
  · simp [zup, mw, va_up, h]
theorem mw_u7 {f : Nat → Int32} : zup (mw σ a M) (a + 7) (.inl (0, 41, .inl f)) = mw σ a (M.sA 5 f) := by
  funext q
  by_cases h : q = a + 7
  · subst h; simp [zup, mw, va_up]
  · simp [zup, mw, va_up, h]
theorem mw_u8 {f : Nat → Int32} : zup (mw σ a M) (a + 8) (.inl (2, 10, .inl f)) = mw σ a (M.sA 6 f) := by
  funext q
  by_cases h : q = a + 8
  · subst h; simp [zup, mw, va_up]
  · simp [zup, mw, va_up, h]
theorem mw_u9 {f : Nat → Int64} : zup (mw σ a M) (a + 9) (.inl (1, 6, .inr (.inl f))) = mw σ a (M.sB 1 f) := by
  funext q
  by_cases h : q = a + 9
  · subst h; simp [zup, mw, va_up]
  · simp [zup, mw, va_up, h]
theorem mw_u10 {f : Nat → Int64} : zup (mw σ a M) (a + 10) (.inl (1, 41, .inr (.inl f))) = mw σ a (M.sB 2 f) := by
  funext q
  by_cases h : q = a + 10
  · subst h; simp [zup, mw, va_up]
  · simp [zup, mw, va_up, h]
theorem mw_u11 {f : Nat → Int32} : zup (mw σ a M) (a + 11) (.inl (0, 4, .inl f)) = mw σ a (M.sA 7 f) := by
  funext q
  by_cases h : q = a + 11
  · subst h; simp [zup, mw, va_up]
  · simp [zup, mw, va_up, h]
theorem mw_p_up {x : Int64} : zup (mw σ a M) a (.inr (8, (mfs a M).set 3 (.long x))) = mw σ a (M.sL 0 x) := by
  funext q
  by_cases h : q = a
  · subst h; simp [zup, mw, va_up]
  · simp [zup, mw, h]
theorem mw_p_low {x : Int64} : zup (mw σ a M) a (.inr (8, (mfs a M).set 4 (.long x))) = mw σ a (M.sL 1 x) := by
  funext q
  by_cases h : q = a
  · subst h; simp [zup, mw, va_up]
  · simp [zup, mw, h]
theorem mw_p_codeMany {x : Int32} : zup (mw σ a M) a (.inr (8, (mfs a M).set 8 (.int x))) = mw σ a (M.sI 0 x) := by
  funext q
  by_cases h : q = a
  · subst h; simp [zup, mw, va_up]
  · simp [zup, mw, h]
theorem mw_p_waiting {x : Int32} : zup (mw σ a M) a (.inr (8, (mfs a M).set 10 (.int x))) = mw σ a (M.sI 1 x) := by
  funext q
  by_cases h : q = a
  · subst h; simp [zup, mw, va_up]
  · simp [zup, mw, h]
theorem mw_p_depth {x : Int32} : zup (mw σ a M) a (.inr (8, (mfs a M).set 11 (.int x))) = mw σ a (M.sI 2 x) := by
  funext q
  by_cases h : q = a
  · subst h; simp [zup, mw, va_up]
  · simp [zup, mw, h]
theorem mw_p_isBehind {x : Int32} : zup (mw σ a M) a (.inr (8, (mfs a M).set 13 (.int x))) = mw σ a (M.sI 3 x) := by
  funext q
  by_cases h : q = a
  · subst h; simp [zup, mw, va_up]
  · simp [zup, mw, h]
theorem mw_p_digits {x : Int32} : zup (mw σ a M) a (.inr (8, (mfs a M).set 14 (.int x))) = mw σ a (M.sI 4 x) := by
  funext q
  by_cases h : q = a
  · subst h; simp [zup, mw, va_up]
  · simp [zup, mw, h]
theorem mw_p_numberAt {x : Int32} : zup (mw σ a M) a (.inr (8, (mfs a M).set 15 (.int x))) = mw σ a (M.sI 5 x) := by
  funext q
  by_cases h : q = a
  · subst h; simp [zup, mw, va_up]
  · simp [zup, mw, h]
theorem mw_p_leastCost {x : Int32} : zup (mw σ a M) a (.inr (8, (mfs a M).set 18 (.int x))) = mw σ a (M.sI 6 x) := by
  funext q
  by_cases h : q = a
  · subst h; simp [zup, mw, va_up]
  · simp [zup, mw, h]
theorem mw_p_hash {x : Int64} : zup (mw σ a M) a (.inr (8, (mfs a M).set 20 (.long x))) = mw σ a (M.sL 2 x) := by
  funext q
  by_cases h : q = a
  · subst h; simp [zup, mw, va_up]
  · simp [zup, mw, h]
end
