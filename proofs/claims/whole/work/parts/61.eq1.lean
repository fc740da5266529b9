/-! both sides: who took from whom -/
theorem pTk_lt (c : Nat → Int32) (src own L : Int32) : ∀ t, L < pMn c src own t → pTk c src own L t = 0
  | 0, h => by
    simp only [pMn] at h
    simp only [pTk]
    rw [if_neg (fun e => absurd h (by rw [e]; exact Int32.lt_irrefl))]
  | t + 1, h => by
    simp only [pMn] at h
    simp only [pTk]
    by_cases c1 : zhas src (nI t)
    · rw [if_pos c1] at h
      by_cases c2 : c t < pMn c src own t
      · rw [if_pos c2] at h
        rw [pTk_lt c src own L t (Int32.lt_trans h c2), if_neg (fun g => absurd h (by rw [g.2]; exact Int32.lt_irrefl))]
        rfl
      · rw [if_neg c2] at h
        rw [pTk_lt c src own L t h, if_neg (fun g => c2 (by rw [g.2]; exact h))]
        rfl
    · rw [if_neg c1] at h
      rw [pTk_lt c src own L t h, if_neg (fun g => c1 g.1)]
      rfl
theorem pMH_eq (sl : Nat → Int32) (s : Nat) (fr own : Int32) : ∀ t, (pMH sl s fr own t).2 = pMn (fun t => zb28 (sl s ^^^ sl t) 28) fr own t ∧ (pMH sl s fr own t).1 = pTk (fun t => zb28 (sl s ^^^ sl t) 28) fr own (pMn (fun t => zb28 (sl s ^^^ sl t) 28) fr own t) t := by
  intro t
  induction t with
  | zero => exact ⟨rfl, by simp [pMH, pTk, pMn]⟩
  | succ t ih =>
    obtain ⟨i1, i2⟩ := ih
    have e := pMH_s sl s fr own t
    by_cases c1 : zhas fr (nI t)
    · rw [if_pos c1, i1] at e
      by_cases c2 : zb28 (sl s ^^^ sl t) 28 < pMn (fun t => zb28 (sl s ^^^ sl t) 28) fr own t
      · have em : pMn (fun t => zb28 (sl s ^^^ sl t) 28) fr own (t + 1) = zb28 (sl s ^^^ sl t) 28 := by
          simp only [pMn]; rw [if_pos c1, if_pos c2]
        rw [if_pos c2, if_pos c2] at e
        rw [e, em]
        refine ⟨rfl, ?_⟩
        simp only [pTk]
        rw [pTk_lt _ fr own _ t c2, if_pos ⟨c1, trivial⟩]
        simp
      · have em : pMn (fun t => zb28 (sl s ^^^ sl t) 28) fr own (t + 1) = pMn (fun t => zb28 (sl s ^^^ sl t) 28) fr own t := by
          simp only [pMn]; rw [if_pos c1, if_neg c2]
        rw [if_neg c2, if_neg c2, i2] at e
        rw [e, em]
        refine ⟨rfl, ?_⟩
        by_cases c3 : zb28 (sl s ^^^ sl t) 28 = pMn (fun t => zb28 (sl s ^^^ sl t) 28) fr own t
        · rw [if_pos c3]
          show _ = pTk _ fr own _ t ||| _
          rw [if_pos ⟨c1, c3⟩]
        · rw [if_neg c3]
          show _ = pTk _ fr own _ t ||| _
          rw [if_neg (fun g => c3 g.2), zor0]
    · have em : pMn (fun t => zb28 (sl s ^^^ sl t) 28) fr own (t + 1) = pMn (fun t => zb28 (sl s ^^^ sl t) 28) fr own t := by
        simp only [pMn]; rw [if_neg c1]
      rw [if_neg c1] at e
      rw [e, em]
      refine ⟨i1, ?_⟩
      rw [i2]
      show _ = pTk _ fr own _ t ||| _
      rw [if_neg (fun g => c1 g.1), zor0]
