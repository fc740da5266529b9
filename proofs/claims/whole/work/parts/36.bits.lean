/-! bits -/
abbrev zbit (x : Int32) (i : Nat) : Bool := x.toBitVec.getLsbD i
theorem zbit_ext {x y : Int32} (h : ∀ i, i < 32 → zbit x i = zbit y i) : x = y :=
  Int32.toBitVec_inj.mp (BitVec.eq_of_getLsbD_eq (fun i hi => h i hi))
theorem zbit_or (x y : Int32) (i : Nat) : zbit (x ||| y) i = (zbit x i || zbit y i) := by
  unfold zbit; rw [Int32.toBitVec_or, BitVec.getLsbD_or]
theorem zbit_and (x y : Int32) (i : Nat) : zbit (x &&& y) i = (zbit x i && zbit y i) := by
  unfold zbit; rw [Int32.toBitVec_and, BitVec.getLsbD_and]
theorem zbit_xor (x y : Int32) (i : Nat) : zbit (x ^^^ y) i = (zbit x i ^^ zbit y i) := by
  unfold zbit; rw [Int32.toBitVec_xor, BitVec.getLsbD_xor]
theorem zsmod : ∀ i, i < 32 → ((nI i &&& 31).toBitVec.smod 32).toNat = i := by decide +kernel
theorem zbit_shr (x : Int32) {i : Nat} (hi : i < 32) : zbit (x >>> (nI i &&& 31)) 0 = zbit x i := by
  unfold zbit
  rw [Int32.toBitVec_shiftRight]
  show (x.toBitVec.sshiftRight ((nI i &&& 31).toBitVec.smod 32).toNat).getLsbD 0 = _
  rw [zsmod i hi, BitVec.getLsbD_sshiftRight, Nat.add_zero, if_pos hi]
  simp
theorem zbit_1 : ∀ i, i < 32 → zbit 1 i = decide (i = 0) := by decide +kernel
theorem zbit_0 (i : Nat) : zbit 0 i = false := by
  show (0#32).getLsbD i = false
  simp
theorem zand1 (z : Int32) : z &&& 1 = 0 ↔ zbit z 0 = false := by
  constructor
  · intro h
    have : zbit (z &&& 1) 0 = false := by rw [h]; exact zbit_0 0
    rw [zbit_and, zbit_1 0 (by decide)] at this
    simpa using this
  · intro h
    refine zbit_ext (fun i hi => ?_)
    rw [zbit_and, zbit_0, zbit_1 i hi]
    by_cases e : i = 0
    · subst e; rw [h]; rfl
    · simp [e]
theorem zhas_bit (x : Int32) {i : Nat} (hi : i < 32) : zhas x (nI i) ↔ zbit x i = true := by
  unfold zhas
  rw [zand1, zbit_shr x hi]
  simp
theorem zbit_1shl : ∀ t, t < 32 → ∀ i, i < 32 → zbit (1 <<< (nI t &&& 31)) i = decide (i = t) := by decide +kernel
theorem zshr0 {x : Int32} {i : Nat} (hi : i < 32) (h : x >>> (nI i &&& 31) = 0) : zbit x i = false := by
  rw [← zbit_shr x hi, h, zbit_0]
/-- who may have: a bit below, or the sixteenth -/
theorem pMH_bit (sl : Nat → Int32) (s : Nat) (fr l0 : Int32) : ∀ t, t ≤ 32 → zbit (pMH sl s fr l0 t).1 16 = true ∨ ∃ i, i < t ∧ zbit (pMH sl s fr l0 t).1 i = true := by
  intro t
  induction t with
  | zero => exact fun _ => Or.inl (show zbit 65536 16 = true by decide +kernel)
  | succ t ih =>
    intro ht
    have ih := ih (by omega)
    have e := congrArg Prod.fst (pMH_s sl s fr l0 t)
    have old : zbit (pMH sl s fr l0 t).1 16 = true ∨ ∃ i, i < t + 1 ∧ zbit (pMH sl s fr l0 t).1 i = true := by
      rcases ih with h | ⟨i, hi, h⟩
      · exact Or.inl h
      · exact Or.inr ⟨i, by omega, h⟩
    generalize (pMH sl s fr l0 (t + 1)).1 = b at e ⊢
    by_cases c : zhas fr (nI t)
    · rw [if_pos c] at e
      dsimp only at e
      by_cases c2 : zb28 (sl s ^^^ sl t) 28 < (pMH sl s fr l0 t).2
      · rw [if_pos c2] at e
        rw [e]
        refine Or.inr ⟨t, by omega, ?_⟩
        rw [zbit_1shl t (by omega) t (by omega)]
        simp
      · rw [if_neg c2] at e
        by_cases c3 : zb28 (sl s ^^^ sl t) 28 = (pMH sl s fr l0 t).2
        · rw [if_pos c3] at e
          rw [e]
          refine Or.inr ⟨t, by omega, ?_⟩
          rw [zbit_or, zbit_1shl t (by omega) t (by omega)]
          simp
        · rw [if_neg c3] at e
          rw [e]; exact old
    · rw [if_neg c] at e
      rw [e]; exact old
theorem pLo_s (b : Int32) (n : Nat) : ∀ k, k ≤ n → (∀ i, i < k → ¬ zhas b (nI i)) → pLo b n n = pLo b n (n - k)
  | 0, _, _ => rfl
  | k + 1, hk, h => by
    rw [pLo_s b n k (by omega) (fun i hi => h i (by omega))]
    obtain ⟨f, hf⟩ : ∃ f, n - k = f + 1 := ⟨n - k - 1, by omega⟩
    rw [hf, show n - (k + 1) = f by omega]
    show (if zhas b (nI (n - (f + 1))) then _ else _) = _
    rw [if_neg (by rw [show n - (f + 1) = k by omega]; exact h k (by omega))]
theorem pLo_at (b : Int32) (n k : Nat) (hk : k < n) (h : ∀ i, i < k → ¬ zhas b (nI i)) (g : zhas b (nI k)) : pLo b n n = k := by
  rw [pLo_s b n k (by omega) h]
  obtain ⟨f, hf⟩ : ∃ f, n - k = f + 1 := ⟨n - k - 1, by omega⟩
  rw [hf]
  show (if zhas b (nI (n - (f + 1))) then _ else _) = _
  rw [if_pos (by rw [show n - (f + 1) = k by omega]; exact g)]
  omega
