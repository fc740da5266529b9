/-! the component: its groups of cells -/
abbrev zkbfs (a : Nat) (M : zMo) : List Value := [.ref (a + 1), .ref (a + 2), .int (M.2.2.1 0), .ref (a + 3), .ref (a + 4), .ref (a + 5), .int (M.2.2.1 1), .ref (a + 6), .ref (a + 7), .ref (a + 8), .int (M.2.2.1 2)]
def zkb (σ : zH) (a : Nat) (M : zMo) : zH := fun q =>
  if q = a then some (.inr (0, zkbfs a M))
  else if q = a + 1 then some (.inl (0, 8, .inl (M.1 0)))
  else if q = a + 2 then some (.inl (0, 8, .inl (M.1 1)))
  else if q = a + 3 then some (.inl (0, 16, .inl (M.1 2)))
  else if q = a + 4 then some (.inl (0, 16, .inl (M.1 3)))
  else if q = a + 5 then some (.inl (0, 16, .inl (M.1 4)))
  else if q = a + 6 then some (.inl (0, 60, .inl (M.1 5)))
  else if q = a + 7 then some (.inl (0, 60, .inl (M.1 6)))
  else if q = a + 8 then some (.inl (0, 60, .inl (M.1 7)))
  else σ q
section
variable {σ : zH} {a : Nat} {M : zMo}
theorem zkb_0 : zkb σ a M a = some (.inr (0, zkbfs a M)) := by simp [zkb]
theorem zkb_1 : zkb σ a M (a + 1) = some (.inl (0, 8, .inl (M.1 0))) := by simp [zkb]
theorem zkb_2 : zkb σ a M (a + 2) = some (.inl (0, 8, .inl (M.1 1))) := by simp [zkb]
theorem zkb_3 : zkb σ a M (a + 3) = some (.inl (0, 16, .inl (M.1 2))) := by simp [zkb]
theorem zkb_4 : zkb σ a M (a + 4) = some (.inl (0, 16, .inl (M.1 3))) := by simp [zkb]
theorem zkb_5 : zkb σ a M (a + 5) = some (.inl (0, 16, .inl (M.1 4))) := by simp [zkb]
theorem zkb_6 : zkb σ a M (a + 6) = some (.inl (0, 60, .inl (M.1 5))) := by simp [zkb]
theorem zkb_7 : zkb σ a M (a + 7) = some (.inl (0, 60, .inl (M.1 6))) := by simp [zkb]
theorem zkb_8 : zkb σ a M (a + 8) = some (.inl (0, 60, .inl (M.1 7))) := by simp [zkb]
theorem zkb_ne {q : Nat} (h : q ≠ a ∧ q ≠ a + 1 ∧ q ≠ a + 2 ∧ q ≠ a + 3 ∧ q ≠ a + 4 ∧ q ≠ a + 5 ∧ q ≠ a + 6 ∧ q ≠ a + 7 ∧ q ≠ a + 8) : zkb σ a M q = σ q := by
  unfold zkb
  rw [if_neg (by omega)]
  rw [if_neg (by omega)]
  rw [if_neg (by omega)]
  rw [if_neg (by omega)]
  rw [if_neg (by omega)]
  rw [if_neg (by omega)]
  rw [if_neg (by omega)]
  rw [if_neg (by omega)]
  rw [if_neg (by omega)]
theorem zkb_u1 {f : Nat → Int32} : zup (zkb σ a M) (a + 1) (.inl (0, 8, .inl f)) = zkb σ a (M.sA 0 f) := by
  funext q
  by_cases h : q = a + 1
  · subst h; simp [zup, zkb, va_up]
  · simp [zup, zkb, va_up, h]
theorem zkb_u2 {f : Nat → Int32} : zup (zkb σ a M) (a + 2) (.inl (0, 8, .inl f)) = zkb σ a (M.sA 1 f) := by
  funext q
  by_cases h : q = a + 2
  · subst h; simp [zup, zkb, va_up]
  · simp [zup, zkb, va_up, h]
theorem zkb_u3 {f : Nat → Int32} : zup (zkb σ a M) (a + 3) (.inl (0, 16, .inl f)) = zkb σ a (M.sA 2 f) := by
  funext q
  by_cases h : q = a + 3
  · subst h; simp [zup, zkb, va_up]
  · simp [zup, zkb, va_up, h]
theorem zkb_u4 {f : Nat → Int32} : zup (zkb σ a M) (a + 4) (.inl (0, 16, .inl f)) = zkb σ a (M.sA 3 f) := by
  funext q
  by_cases h : q = a + 4
  · subst h; simp [zup, zkb, va_up]
  · simp [zup, zkb, va_up, h]
theorem zkb_u5 {f : Nat → Int32} : zup (zkb σ a M) (a + 5) (.inl (0, 16, .inl f)) = zkb σ a (M.sA 4 f) := by
  funext q
  by_cases h : q = a + 5
  · subst h; simp [zup, zkb, va_up]
  · simp [zup, zkb, va_up, h]
theorem zkb_u6 {f : Nat → Int32} : zup (zkb σ a M) (a + 6) (.inl (0, 60, .inl f)) = zkb σ a (M.sA 5 f) := by
  funext q
  by_cases h : q = a + 6
  · subst h; simp [zup, zkb, va_up]
  · simp [zup, zkb, va_up, h]
theorem zkb_u7 {f : Nat → Int32} : zup (zkb σ a M) (a + 7) (.inl (0, 60, .inl f)) = zkb σ a (M.sA 6 f) := by
  funext q
  by_cases h : q = a + 7
  · subst h; simp [zup, zkb, va_up]
  · simp [zup, zkb, va_up, h]
theorem zkb_u8 {f : Nat → Int32} : zup (zkb σ a M) (a + 8) (.inl (0, 60, .inl f)) = zkb σ a (M.sA 7 f) := by
  funext q
  by_cases h : q = a + 8
  · subst h; simp [zup, zkb, va_up]
  · simp [zup, zkb, va_up, h]
theorem zkb_p_observerCount {x : Int32} : zup (zkb σ a M) a (.inr (0, (zkbfs a M).set 2 (.int x))) = zkb σ a (M.sI 0 x) := by
  funext q
  by_cases h : q = a
  · subst h; simp [zup, zkb, va_up]
  · simp [zup, zkb, h]
theorem zkb_p_sheetCount {x : Int32} : zup (zkb σ a M) a (.inr (0, (zkbfs a M).set 6 (.int x))) = zkb σ a (M.sI 1 x) := by
  funext q
  by_cases h : q = a
  · subst h; simp [zup, zkb, va_up]
  · simp [zup, zkb, h]
theorem zkb_p_showCount {x : Int32} : zup (zkb σ a M) a (.inr (0, (zkbfs a M).set 10 (.int x))) = zkb σ a (M.sI 2 x) := by
  funext q
  by_cases h : q = a
  · subst h; simp [zup, zkb, va_up]
  · simp [zup, zkb, h]
def zkbAt (σ : zH) (a : Nat) (M : zMo) : Prop := σ a = some (.inr (0, zkbfs a M)) ∧ σ (a + 1) = some (.inl (0, 8, .inl (M.1 0))) ∧ σ (a + 2) = some (.inl (0, 8, .inl (M.1 1))) ∧ σ (a + 3) = some (.inl (0, 16, .inl (M.1 2))) ∧ σ (a + 4) = some (.inl (0, 16, .inl (M.1 3))) ∧ σ (a + 5) = some (.inl (0, 16, .inl (M.1 4))) ∧ σ (a + 6) = some (.inl (0, 60, .inl (M.1 5))) ∧ σ (a + 7) = some (.inl (0, 60, .inl (M.1 6))) ∧ σ (a + 8) = some (.inl (0, 60, .inl (M.1 7)))
theorem zkb_at : zkbAt (zkb σ a M) a M := ⟨zkb_0, zkb_1, zkb_2, zkb_3, zkb_4, zkb_5, zkb_6, zkb_7, zkb_8⟩
theorem zkb_id (h : zkbAt σ a M) : zkb σ a M = σ := by
  obtain ⟨h0, h1, h2, h3, h4, h5, h6, h7, h8⟩ := h
  funext q
  unfold zkb
  split
  · next e => subst e; exact h0.symm
  split
  · next e => subst e; exact h1.symm
  split
  · next e => subst e; exact h2.symm
  split
  · next e => subst e; exact h3.symm
  split
  · next e => subst e; exact h4.symm
  split
  · next e => subst e; exact h5.symm
  split
  · next e => subst e; exact h6.symm
  split
  · next e => subst e; exact h7.symm
  split
  · next e => subst e; exact h8.symm
  · rfl
end
abbrev zkgfs (a : Nat) (M : zMo) : List Value := [.ref (a + 1), .ref (a + 2), .ref (a + 3), .int (M.2.2.1 0)]
def zkg (σ : zH) (a : Nat) (M : zMo) : zH := fun q =>
  if q = a then some (.inr (2, zkgfs a M))
  else if q = a + 1 then some (.inl (0, 12, .inl (M.1 0)))
  else if q = a + 2 then some (.inl (0, 12, .inl (M.1 1)))
  else if q = a + 3 then some (.inl (0, 12, .inl (M.1 2)))
  else σ q
section
variable {σ : zH} {a : Nat} {M : zMo}
theorem zkg_0 : zkg σ a M a = some (.inr (2, zkgfs a M)) := by simp [zkg]
theorem zkg_1 : zkg σ a M (a + 1) = some (.inl (0, 12, .inl (M.1 0))) := by simp [zkg]
theorem zkg_2 : zkg σ a M (a + 2) = some (.inl (0, 12, .inl (M.1 1))) := by simp [zkg]
theorem zkg_3 : zkg σ a M (a + 3) = some (.inl (0, 12, .inl (M.1 2))) := by simp [zkg]
theorem zkg_ne {q : Nat} (h : q ≠ a ∧ q ≠ a + 1 ∧ q ≠ a + 2 ∧ q ≠ a + 3) : zkg σ a M q = σ q := by
  unfold zkg
  rw [if_neg (by omega)]
  rw [if_neg (by omega)]
  rw [if_neg (by omega)]
  rw [if_neg (by omega)]
theorem zkg_u1 {f : Nat → Int32} : zup (zkg σ a M) (a + 1) (.inl (0, 12, .inl f)) = zkg σ a (M.sA 0 f) := by
  funext q
  by_cases h : q = a + 1
  · subst h; simp [zup, zkg, va_up]
  · simp [zup, zkg, va_up, h]
theorem zkg_u2 {f : Nat → Int32} : zup (zkg σ a M) (a + 2) (.inl (0, 12, .inl f)) = zkg σ a (M.sA 1 f) := by
  funext q
  by_cases h : q = a + 2
  · subst h; simp [zup, zkg, va_up]
  · simp [zup, zkg, va_up, h]
theorem zkg_u3 {f : Nat → Int32} : zup (zkg σ a M) (a + 3) (.inl (0, 12, .inl f)) = zkg σ a (M.sA 2 f) := by
  funext q
  by_cases h : q = a + 3
  · subst h; simp [zup, zkg, va_up]
  · simp [zup, zkg, va_up, h]
theorem zkg_p_size {x : Int32} : zup (zkg σ a M) a (.inr (2, (zkgfs a M).set 3 (.int x))) = zkg σ a (M.sI 0 x) := by
  funext q
  by_cases h : q = a
  · subst h; simp [zup, zkg, va_up]
  · simp [zup, zkg, h]
def zkgAt (σ : zH) (a : Nat) (M : zMo) : Prop := σ a = some (.inr (2, zkgfs a M)) ∧ σ (a + 1) = some (.inl (0, 12, .inl (M.1 0))) ∧ σ (a + 2) = some (.inl (0, 12, .inl (M.1 1))) ∧ σ (a + 3) = some (.inl (0, 12, .inl (M.1 2)))
theorem zkg_at : zkgAt (zkg σ a M) a M := ⟨zkg_0, zkg_1, zkg_2, zkg_3⟩
theorem zkg_id (h : zkgAt σ a M) : zkg σ a M = σ := by
  obtain ⟨h0, h1, h2, h3⟩ := h
  funext q
  unfold zkg
  split
  · next e => subst e; exact h0.symm
  split
  · next e => subst e; exact h1.symm
  split
  · next e => subst e; exact h2.symm
  split
  · next e => subst e; exact h3.symm
  · rfl
end
abbrev zktfs (a : Nat) (M : zMo) : List Value := [.ref (a + 1), .int (M.2.2.1 0), .int (M.2.2.1 1), .ref (a + 2), .int (M.2.2.1 2), .int (M.2.2.1 3), .int (M.2.2.1 4)]
def zkt (σ : zH) (a : Nat) (M : zMo) : zH := fun q =>
  if q = a then some (.inr (3, zktfs a M))
  else if q = a + 1 then some (.inl (0, 40, .inl (M.1 0)))
  else if q = a + 2 then some (.inl (0, 40, .inl (M.1 1)))
  else σ q
section
variable {σ : zH} {a : Nat} {M : zMo}
theorem zkt_0 : zkt σ a M a = some (.inr (3, zktfs a M)) := by simp [zkt]
theorem zkt_1 : zkt σ a M (a + 1) = some (.inl (0, 40, .inl (M.1 0))) := by simp [zkt]
theorem zkt_2 : zkt σ a M (a + 2) = some (.inl (0, 40, .inl (M.1 1))) := by simp [zkt]
theorem zkt_ne {q : Nat} (h : q ≠ a ∧ q ≠ a + 1 ∧ q ≠ a + 2) : zkt σ a M q = σ q := by
  unfold zkt
  rw [if_neg (by omega)]
  rw [if_neg (by omega)]
  rw [if_neg (by omega)]
theorem zkt_u1 {f : Nat → Int32} : zup (zkt σ a M) (a + 1) (.inl (0, 40, .inl f)) = zkt σ a (M.sA 0 f) := by
  funext q
  by_cases h : q = a + 1
  · subst h; simp [zup, zkt, va_up]
  · simp [zup, zkt, va_up, h]
theorem zkt_u2 {f : Nat → Int32} : zup (zkt σ a M) (a + 2) (.inl (0, 40, .inl f)) = zkt σ a (M.sA 1 f) := by
  funext q
  by_cases h : q = a + 2
  · subst h; simp [zup, zkt, va_up]
  · simp [zup, zkt, va_up, h]
theorem zkt_p_length {x : Int32} : zup (zkt σ a M) a (.inr (3, (zktfs a M).set 1 (.int x))) = zkt σ a (M.sI 0 x) := by
  funext q
  by_cases h : q = a
  · subst h; simp [zup, zkt, va_up]
  · simp [zup, zkt, h]
theorem zkt_p_fault {x : Int32} : zup (zkt σ a M) a (.inr (3, (zktfs a M).set 2 (.int x))) = zkt σ a (M.sI 1 x) := by
  funext q
  by_cases h : q = a
  · subst h; simp [zup, zkt, va_up]
  · simp [zup, zkt, h]
theorem zkt_p_stepCount {x : Int32} : zup (zkt σ a M) a (.inr (3, (zktfs a M).set 4 (.int x))) = zkt σ a (M.sI 2 x) := by
  funext q
  by_cases h : q = a
  · subst h; simp [zup, zkt, va_up]
  · simp [zup, zkt, h]
theorem zkt_p_asksShown {x : Int32} : zup (zkt σ a M) a (.inr (3, (zktfs a M).set 5 (.int x))) = zkt σ a (M.sI 3 x) := by
  funext q
  by_cases h : q = a
  · subst h; simp [zup, zkt, va_up]
  · simp [zup, zkt, h]
theorem zkt_p_place {x : Int32} : zup (zkt σ a M) a (.inr (3, (zktfs a M).set 6 (.int x))) = zkt σ a (M.sI 4 x) := by
  funext q
  by_cases h : q = a
  · subst h; simp [zup, zkt, va_up]
  · simp [zup, zkt, h]
def zktAt (σ : zH) (a : Nat) (M : zMo) : Prop := σ a = some (.inr (3, zktfs a M)) ∧ σ (a + 1) = some (.inl (0, 40, .inl (M.1 0))) ∧ σ (a + 2) = some (.inl (0, 40, .inl (M.1 1)))
theorem zkt_at : zktAt (zkt σ a M) a M := ⟨zkt_0, zkt_1, zkt_2⟩
theorem zkt_id (h : zktAt σ a M) : zkt σ a M = σ := by
  obtain ⟨h0, h1, h2⟩ := h
  funext q
  unfold zkt
  split
  · next e => subst e; exact h0.symm
  split
  · next e => subst e; exact h1.symm
  split
  · next e => subst e; exact h2.symm
  · rfl
end
abbrev zkwfs (a : Nat) (M : zMo) : List Value := [.ref (a + 1), .ref (a + 2)]
def zkw (σ : zH) (a : Nat) (M : zMo) : zH := fun q =>
  if q = a then some (.inr (6, zkwfs a M))
  else if q = a + 1 then some (.inl (0, 81, .inl (M.1 0)))
  else if q = a + 2 then some (.inl (0, 9, .inl (M.1 1)))
  else σ q
section
variable {σ : zH} {a : Nat} {M : zMo}
theorem zkw_0 : zkw σ a M a = some (.inr (6, zkwfs a M)) := by simp [zkw]
theorem zkw_1 : zkw σ a M (a + 1) = some (.inl (0, 81, .inl (M.1 0))) := by simp [zkw]
theorem zkw_2 : zkw σ a M (a + 2) = some (.inl (0, 9, .inl (M.1 1))) := by simp [zkw]
theorem zkw_ne {q : Nat} (h : q ≠ a ∧ q ≠ a + 1 ∧ q ≠ a + 2) : zkw σ a M q = σ q := by
  unfold zkw
  rw [if_neg (by omega)]
  rw [if_neg (by omega)]
  rw [if_neg (by omega)]
theorem zkw_u1 {f : Nat → Int32} : zup (zkw σ a M) (a + 1) (.inl (0, 81, .inl f)) = zkw σ a (M.sA 0 f) := by
  funext q
  by_cases h : q = a + 1
  · subst h; simp [zup, zkw, va_up]
  · simp [zup, zkw, va_up, h]
theorem zkw_u2 {f : Nat → Int32} : zup (zkw σ a M) (a + 2) (.inl (0, 9, .inl f)) = zkw σ a (M.sA 1 f) := by
  funext q
  by_cases h : q = a + 2
  · subst h; simp [zup, zkw, va_up]
  · simp [zup, zkw, va_up, h]
def zkwAt (σ : zH) (a : Nat) (M : zMo) : Prop := σ a = some (.inr (6, zkwfs a M)) ∧ σ (a + 1) = some (.inl (0, 81, .inl (M.1 0))) ∧ σ (a + 2) = some (.inl (0, 9, .inl (M.1 1)))
theorem zkw_at : zkwAt (zkw σ a M) a M := ⟨zkw_0, zkw_1, zkw_2⟩
theorem zkw_id (h : zkwAt σ a M) : zkw σ a M = σ := by
  obtain ⟨h0, h1, h2⟩ := h
  funext q
  unfold zkw
  split
  · next e => subst e; exact h0.symm
  split
  · next e => subst e; exact h1.symm
  split
  · next e => subst e; exact h2.symm
  · rfl
end
abbrev zkpfs (a : Nat) (M : zMo) : List Value := [.ref (a + 1), .ref (a + 2), .ref (a + 3), .int (M.2.2.1 0)]
def zkp (σ : zH) (a : Nat) (M : zMo) : zH := fun q =>
  if q = a then some (.inr (4, zkpfs a M))
  else if q = a + 1 then some (.inl (0, 81, .inl (M.1 0)))
  else if q = a + 2 then some (.inl (0, 100, .inl (M.1 1)))
  else if q = a + 3 then some (.inl (0, 81, .inl (M.1 2)))
  else σ q
section
variable {σ : zH} {a : Nat} {M : zMo}
theorem zkp_0 : zkp σ a M a = some (.inr (4, zkpfs a M)) := by simp [zkp]
theorem zkp_1 : zkp σ a M (a + 1) = some (.inl (0, 81, .inl (M.1 0))) := by simp [zkp]
theorem zkp_2 : zkp σ a M (a + 2) = some (.inl (0, 100, .inl (M.1 1))) := by simp [zkp]
theorem zkp_3 : zkp σ a M (a + 3) = some (.inl (0, 81, .inl (M.1 2))) := by simp [zkp]
theorem zkp_ne {q : Nat} (h : q ≠ a ∧ q ≠ a + 1 ∧ q ≠ a + 2 ∧ q ≠ a + 3) : zkp σ a M q = σ q := by
  unfold zkp
  rw [if_neg (by omega)]
  rw [if_neg (by omega)]
  rw [if_neg (by omega)]
  rw [if_neg (by omega)]
theorem zkp_u1 {f : Nat → Int32} : zup (zkp σ a M) (a + 1) (.inl (0, 81, .inl f)) = zkp σ a (M.sA 0 f) := by
  funext q
  by_cases h : q = a + 1
  · subst h; simp [zup, zkp, va_up]
  · simp [zup, zkp, va_up, h]
theorem zkp_u2 {f : Nat → Int32} : zup (zkp σ a M) (a + 2) (.inl (0, 100, .inl f)) = zkp σ a (M.sA 1 f) := by
  funext q
  by_cases h : q = a + 2
  · subst h; simp [zup, zkp, va_up]
  · simp [zup, zkp, va_up, h]
theorem zkp_u3 {f : Nat → Int32} : zup (zkp σ a M) (a + 3) (.inl (0, 81, .inl f)) = zkp σ a (M.sA 2 f) := by
  funext q
  by_cases h : q = a + 3
  · subst h; simp [zup, zkp, va_up]
  · simp [zup, zkp, va_up, h]
theorem zkp_p_glass {x : Int32} : zup (zkp σ a M) a (.inr (4, (zkpfs a M).set 3 (.int x))) = zkp σ a (M.sI 0 x) := by
  funext q
  by_cases h : q = a
  · subst h; simp [zup, zkp, va_up]
  · simp [zup, zkp, h]
def zkpAt (σ : zH) (a : Nat) (M : zMo) : Prop := σ a = some (.inr (4, zkpfs a M)) ∧ σ (a + 1) = some (.inl (0, 81, .inl (M.1 0))) ∧ σ (a + 2) = some (.inl (0, 100, .inl (M.1 1))) ∧ σ (a + 3) = some (.inl (0, 81, .inl (M.1 2)))
theorem zkp_at : zkpAt (zkp σ a M) a M := ⟨zkp_0, zkp_1, zkp_2, zkp_3⟩
theorem zkp_id (h : zkpAt σ a M) : zkp σ a M = σ := by
  obtain ⟨h0, h1, h2, h3⟩ := h
  funext q
  unfold zkp
  split
  · next e => subst e; exact h0.symm
  split
  · next e => subst e; exact h1.symm
  split
  · next e => subst e; exact h2.symm
  split
  · next e => subst e; exact h3.symm
  · rfl
end
abbrev zkefs (a : Nat) (M : zMo) : List Value := [.ref (a + 1), .ref (a + 5), .ref (a + 6), .int (M.2.2.1 0), .int (M.2.2.1 1)]
def zke (σ : zH) (a : Nat) (M : zMo) : zH := fun q =>
  if q = a then some (.inr (1, zkefs a M))
  else if q = a + 5 then some (.inl (1, 7, .inr (.inl (M.2.1 0))))
  else if q = a + 6 then some (.inl (1, 40, .inr (.inl (M.2.1 1))))
  else σ q
section
variable {σ : zH} {a : Nat} {M : zMo}
theorem zke_0 : zke σ a M a = some (.inr (1, zkefs a M)) := by simp [zke]
theorem zke_5 : zke σ a M (a + 5) = some (.inl (1, 7, .inr (.inl (M.2.1 0)))) := by simp [zke]
theorem zke_6 : zke σ a M (a + 6) = some (.inl (1, 40, .inr (.inl (M.2.1 1)))) := by simp [zke]
theorem zke_ne {q : Nat} (h : q ≠ a ∧ q ≠ a + 5 ∧ q ≠ a + 6) : zke σ a M q = σ q := by
  unfold zke
  rw [if_neg (by omega)]
  rw [if_neg (by omega)]
  rw [if_neg (by omega)]
theorem zke_u5 {f : Nat → Int64} : zup (zke σ a M) (a + 5) (.inl (1, 7, .inr (.inl f))) = zke σ a (M.sB 0 f) := by
  funext q
  by_cases h : q = a + 5
  · subst h; simp [zup, zke, va_up]
  · simp [zup, zke, va_up, h]
theorem zke_u6 {f : Nat → Int64} : zup (zke σ a M) (a + 6) (.inl (1, 40, .inr (.inl f))) = zke σ a (M.sB 1 f) := by
  funext q
  by_cases h : q = a + 6
  · subst h; simp [zup, zke, va_up]
  · simp [zup, zke, va_up, h]
theorem zke_p_linesOfUnshown {x : Int32} : zup (zke σ a M) a (.inr (1, (zkefs a M).set 3 (.int x))) = zke σ a (M.sI 0 x) := by
  funext q
  by_cases h : q = a
  · subst h; simp [zup, zke, va_up]
  · simp [zup, zke, h]
theorem zke_p_linesOfShown {x : Int32} : zup (zke σ a M) a (.inr (1, (zkefs a M).set 4 (.int x))) = zke σ a (M.sI 1 x) := by
  funext q
  by_cases h : q = a
  · subst h; simp [zup, zke, va_up]
  · simp [zup, zke, h]
def zkeAt (σ : zH) (a : Nat) (M : zMo) : Prop := σ a = some (.inr (1, zkefs a M)) ∧ σ (a + 5) = some (.inl (1, 7, .inr (.inl (M.2.1 0)))) ∧ σ (a + 6) = some (.inl (1, 40, .inr (.inl (M.2.1 1))))
theorem zke_at : zkeAt (zke σ a M) a M := ⟨zke_0, zke_5, zke_6⟩
theorem zke_id (h : zkeAt σ a M) : zke σ a M = σ := by
  obtain ⟨h0, h1, h2⟩ := h
  funext q
  unfold zke
  split
  · next e => subst e; exact h0.symm
  split
  · next e => subst e; exact h1.symm
  split
  · next e => subst e; exact h2.symm
  · rfl
end
theorem zmin_self (x : Int32) : (if x < x then x else x) = x := by split <;> rfl
section
variable {E : zE} {σ : zH} {a : Nat} {M : zMo}
theorem k_copyRow (a0 b N : Nat) (f g : Nat → Int32) (hs0 : σ a0 = some (.inl (0, N, .inl f))) (hs : σ b = some (.inl (0, N, .inl g))) (hN : N < 2 ^ 31) : zM E YD_copyRow 2 [.ref a0, .ref b] (σ) (none) (zup σ b (.inl (0, N, .inl (va_cpy f g 0 0 N)))) := by
  refine zM.of oD_copyRow (by decide +kernel) rfl rfl (fun n => ?_)
  refine zj_aload_n 0 rfl rfl rfl ?_
  refine zj_iconst 1 (0) rfl rfl (by decide) ?_
  refine zj_aload_n 2 rfl rfl rfl ?_
  refine zj_iconst 3 (0) rfl rfl (by decide) ?_
  refine zj_aload_n 4 rfl rfl rfl ?_
  refine zj_alen 5 rfl rfl hs0 (by decide) ?_
  refine zj_aload_n 6 rfl rfl rfl ?_
  refine zj_alen 7 rfl rfl hs (by decide) ?_
  refine zj_mmin 8 rfl rfl lk_7_85 rfl rfl rfl rfl ?_
  rw [zmin_self]
  refine zj_copy 9 rfl rfl (zt 764 (by decide +kernel) rfl) (zt 766 (by decide +kernel) rfl) (zt 765 (by decide +kernel) rfl) (zt 84 (by decide +kernel) rfl) hs0 hs (by omega) rfl rfl ?_
  refine zj_return 10 rfl rfl rfl ?_
  exact ⟨rfl, rfl, rfl⟩
theorem k_darkened (h : zkwAt σ a M) (c : Nat) (hc : c < 81) (dk : Int32) : zM E YWo_darkened 2 [.ref a, .int (nI c), .int dk] (σ) (some (.int (if zhas (M.1 1 (c / 9)) (nI (c % 9)) then (if M.1 0 c + dk < 15 then M.1 0 c + dk else 15) else M.1 0 c))) (σ) := by
  refine zM.of oWo_darkened (by decide +kernel) rfl rfl (fun n => ?_)
  refine zj_aload_n 0 rfl rfl rfl ?_
  refine zj_get 1 rfl rfl h.1 rfl ?_
  refine zj_iload_n 2 rfl rfl rfl ?_
  refine zj_bipush 3 (9) rfl rfl (by decide) ?_
  refine zn_idiv 4 (c) (9) rfl rfl rfl rfl (by omega) (by omega) (by omega) ?_
  refine zn_iald 5 (c / 9) rfl rfl h.2.2 rfl (by omega) (by decide) ?_
  refine zj_iload_n 6 rfl rfl rfl ?_
  refine zj_bipush 7 (9) rfl rfl (by decide) ?_
  refine zn_irem 8 (c) (9) rfl rfl rfl rfl (by omega) (by omega) (by omega) ?_
  refine zj_csx 9 rfl rfl lk_6_18 ckD_has (k_has _ _) rfl rfl rfl rfl ?_
  refine zj_istore_n 10 rfl rfl ?_
  refine zj_iload_n 11 rfl rfl rfl ?_
  refine zj_if_eq 12 rfl rfl (fun c18 => ?_) (fun c18 => ?_)
  · refine zj_aload_n 22 rfl rfl rfl ?_
    refine zj_get 23 rfl rfl h.1 rfl ?_
    refine zj_iload_n 24 rfl rfl rfl ?_
    refine zn_iald 25 (c) rfl rfl h.2.1 rfl (by omega) (by decide) ?_
    refine zj_ireturn 26 rfl rfl rfl ?_
    exact ⟨zrt ((if_neg (zo_0.mp c18)).symm), rfl, rfl⟩
  · refine zj_bipush 13 (15) rfl rfl (by decide) ?_
    refine zj_aload_n 14 rfl rfl rfl ?_
    refine zj_get 15 rfl rfl h.1 rfl ?_
    refine zj_iload_n 16 rfl rfl rfl ?_
    refine zn_iald 17 (c) rfl rfl h.2.1 rfl (by omega) (by decide) ?_
    refine zj_iload_n 18 rfl rfl rfl ?_
    refine zj_iadd 19 rfl rfl ?_
    refine zj_mmin 20 rfl rfl lk_6_22 rfl rfl rfl rfl ?_
    refine zj_goto 21 rfl rfl ?_
    refine zj_ireturn 26 rfl rfl rfl ?_
    exact ⟨zrt ((if_pos (zo_n0.mp c18)).symm), rfl, rfl⟩
theorem k_Wo_mixInto (h : zkwAt σ a M) (h0 : Int64) : zM E YWo_mixInto 3 [.ref a, .long h0] (σ) (some (.long (pTR (M.1 1) (pTR (M.1 0) h0 81) 9))) (σ) := by
  refine zM.of oWo_mixInto (by decide +kernel) rfl rfl (fun n => ?_)
  refine zj_lload_n 0 rfl rfl rfl ?_
  refine zj_aload_n 1 rfl rfl rfl ?_
  refine zj_get 2 rfl rfl h.1 rfl ?_
  refine zj_bipush 3 (81) rfl rfl (by decide) ?_
  refine zj_csx 4 rfl rfl lk_6_32 ckD_mixRow (k_mixRow _ 81 _ h.2.1 (by decide) _ 81 (by decide)) rfl rfl rfl rfl ?_
  refine zj_aload_n 5 rfl rfl rfl ?_
  refine zj_get 6 rfl rfl h.1 rfl ?_
  refine zj_bipush 7 (9) rfl rfl (by decide) ?_
  refine zj_csx 8 rfl rfl lk_6_32 ckD_mixRow (k_mixRow _ 9 _ h.2.2 (by decide) _ 9 (by decide)) rfl rfl rfl rfl ?_
  refine zj_lreturn 9 rfl rfl rfl ?_
  exact ⟨rfl, rfl, rfl⟩
end
