/-! both sides: the sixteenth bit -/
theorem zbit_shr_i (x : Int32) {k : Nat} (hk : k < 32) (i : Nat) (hi : i < 32) : zbit (x >>> (nI k &&& 31)) i = if k + i < 32 then zbit x (k + i) else zbit x 31 := by
  unfold zbit
  rw [Int32.toBitVec_shiftRight]
  show (x.toBitVec.sshiftRight ((nI k &&& 31).toBitVec.smod 32).toNat).getLsbD i = _
  rw [zsmod k hk, BitVec.getLsbD_sshiftRight]
  by_cases c : k + i < 32
  · rw [if_pos c, if_pos c]; simp; omega
  · rw [if_neg c, if_neg c]
    have : x.toBitVec.msb = x.toBitVec.getLsbD 31 := by rw [BitVec.msb_eq_getLsbD_last]
    rw [this]
    simp; omega
theorem zbit_64k : ∀ i, i < 32 → zbit 65536 i = decide (i = 16) := by decide +kernel
theorem z16 {x : Int32} (h : ∀ i, 16 < i → i < 32 → zbit x i = false) : x &&& 65536 = 0 ↔ x >>> ((16 : Int32) &&& 31) = 0 := by
  constructor
  · intro g
    have g16 : zbit x 16 = false := by
      have : zbit (x &&& 65536) 16 = false := by rw [g, zbit_0]
      rw [zbit_and, zbit_64k 16 (by decide)] at this
      simpa using this
    refine zbit_ext (fun i hi => ?_)
    rw [zbit_0]
    have := zbit_shr_i x (k := 16) (by decide) i hi
    rw [show ((16 : Int32) &&& 31) = (nI 16 &&& 31) from rfl, this]
    split
    · by_cases e : i = 0
      · subst e; exact g16
      · exact h _ (by omega) (by omega)
    · exact h 31 (by decide) (by decide)
  · intro g
    have g16 := zshr0 (x := x) (i := 16) (by decide) g
    refine zbit_ext (fun i hi => ?_)
    rw [zbit_0, zbit_and, zbit_64k i hi]
    by_cases e : i = 16
    · subst e; rw [g16]; rfl
    · simp [e]
theorem pMH_hi (sl : Nat → Int32) (s : Nat) (fr own : Int32) : ∀ t, t ≤ 16 → ∀ i, 16 < i → i < 32 → zbit (pMH sl s fr own t).1 i = false := by
  intro t
  induction t with
  | zero =>
    intro _ i h1 h2
    show zbit 65536 i = false
    rw [zbit_64k i h2]; simp; omega
  | succ t ih =>
    intro ht i h1 h2
    have ih := ih (by omega) i h1 h2
    have e := congrArg Prod.fst (pMH_s sl s fr own t)
    have hb : zbit (1 <<< (nI t &&& 31)) i = false := by rw [zbit_1shl t (by omega) i h2]; simp; omega
    generalize (pMH sl s fr own (t + 1)).1 = b at e ⊢
    by_cases c : zhas fr (nI t)
    · rw [if_pos c] at e
      dsimp only at e
      by_cases c2 : zb28 (sl s ^^^ sl t) 28 < (pMH sl s fr own t).2
      · rw [if_pos c2] at e; rw [e]; exact hb
      · rw [if_neg c2] at e
        by_cases c3 : zb28 (sl s ^^^ sl t) 28 = (pMH sl s fr own t).2
        · rw [if_pos c3] at e; rw [e, zbit_or, ih, hb]; rfl
        · rw [if_neg c3] at e; rw [e]; exact ih
    · rw [if_neg c] at e; rw [e]; exact ih
