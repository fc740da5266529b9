/-! bitCount is the count of the bits -/
theorem uN_nI {x : Int32} {k : Nat} (hk : k < 2 ^ 31) (h : uN x = k) : x = nI k := by
  have h1 : uN (nI k) = k := by
    have e := nI_toInt hk
    unfold uN
    rw [show (nI k).toUInt32.toNat = (nI k).toBitVec.toNat from rfl]
    have e2 : (nI k).toBitVec.toInt = (k : Int) := e
    rw [BitVec.toInt_eq_toNat_cond] at e2
    have e3 := (nI k).toBitVec.isLt
    split at e2 <;> omega
  have h2 : x.toBitVec = (nI k).toBitVec := BitVec.eq_of_toNat_eq (h.trans h1.symm)
  exact Int32.toBitVec_inj.mp h2
theorem zbit_tb (x : Int32) (i : Nat) : zbit x i = (uN x).testBit i := rfl
def bsum (n : Nat) : Nat → Nat
  | 0 => 0
  | k + 1 => bsum n k + b8 n k
theorem pB_tb (x : Int32) : ∀ k, k ≤ 32 → pB x k = bsum (uN x) k
  | 0, _ => rfl
  | k + 1, h => by
    simp only [pB, bsum]
    rw [pB_tb x k (by omega)]
    congr 1
    have hb := zhas_bit x (i := k) (by omega)
    rw [zbit_tb] at hb
    unfold b8
    by_cases hz : zhas x (nI k)
    · rw [if_pos hz, hb.mp hz]; rfl
    · rw [if_neg hz]
      cases ht : (uN x).testBit k
      · rfl
      · exact absurd (hb.mpr ht) hz
theorem jBits_eq (x : Int32) (h : zB28 x) : jBits x = zb28 x 28 := by
  rw [zb28_nat]
  refine uN_nI (by have := pB_le x 28; omega) ?_
  obtain ⟨n, hn⟩ : ∃ n, n = uN x := ⟨_, rfl⟩
  have hlt : n < 2 ^ 32 := by rw [hn]; exact x.toBitVec.isLt
  obtain ⟨b0, hb0⟩ : ∃ b, b = n % 2 ^ 8 := ⟨_, rfl⟩
  obtain ⟨b1, hb1⟩ : ∃ b, b = n / 2 ^ 8 % 2 ^ 8 := ⟨_, rfl⟩
  obtain ⟨b2, hb2⟩ : ∃ b, b = n / 2 ^ 16 % 2 ^ 8 := ⟨_, rfl⟩
  obtain ⟨b3, hb3⟩ : ∃ b, b = n / 2 ^ 24 % 2 ^ 8 := ⟨_, rfl⟩
  have hx : uN x = y4 b0 b1 b2 b3 := by rw [← hn]; unfold y4; omega
  have l0 : b0 < 256 := by omega
  have l1 : b1 < 256 := by omega
  have l2 : b2 < 256 := by omega
  have l3 : b3 < 256 := by omega
  have t0 : ∀ i, i < 8 → b8 n i = b8 b0 i := fun i hi => by
    unfold b8; rw [hb0, Nat.testBit_mod_two_pow]; simp [hi]
  have t1 : ∀ i, i < 8 → b8 n (8 + i) = b8 b1 i := fun i hi => by
    unfold b8; rw [hb1, Nat.testBit_mod_two_pow, Nat.testBit_div_two_pow]; simp [hi, Nat.add_comm]
  have t2 : ∀ i, i < 8 → b8 n (16 + i) = b8 b2 i := fun i hi => by
    unfold b8; rw [hb2, Nat.testBit_mod_two_pow, Nat.testBit_div_two_pow]; simp [hi, Nat.add_comm]
  have t3 : ∀ i, i < 8 → b8 n (24 + i) = b8 b3 i := fun i hi => by
    unfold b8; rw [hb3, Nat.testBit_mod_two_pow, Nat.testBit_div_two_pow]; simp [hi, Nat.add_comm]
  have z : ∀ i, 28 ≤ i → i < 32 → b8 n i = 0 := fun i h1 h2 => by
    have := h i h1 h2
    rw [zbit_tb, ← hn] at this
    unfold b8; rw [this]; rfl
  have m0 := q_ok b0 l0
  have m1 := q_ok b1 l1
  have m2 := q_ok b2 l2
  have m3 := q_ok b3 l3
  have e1 : uN (jB1 x) = _ := jB1_g l0 l1 l2 l3 hx (by rw [uN_shr]; exact Nat.shiftRight_eq_div_pow _ 1) (by decide +kernel)
  have e2 : uN (jB2 (jB1 x)) = _ := jB2_g (q1_ok b0 l0 0 (by decide)).2.2 (q1_ok b1 l1 0 (by decide)).2.2 (q1_ok b2 l2 0 (by decide)).2.2 (q1_ok b3 l3 0 (by decide)).2.2 e1 (by rw [uN_shr]; exact Nat.shiftRight_eq_div_pow _ 2) (by decide +kernel)
  have e3 : uN (jB3 (jB2 (jB1 x))) = _ := jB3_g ⟨m0.1, m0.2.1⟩ ⟨m1.1, m1.2.1, m1.2.2.1⟩ ⟨m2.1, m2.2.1, m2.2.2.1⟩ ⟨m3.1, m3.2.1, m3.2.2.1⟩ e2 (by rw [uN_shr]; exact Nat.shiftRight_eq_div_pow _ 4) (by decide +kernel)
  have e4 : uN (jB4 (jB3 (jB2 (jB1 x)))) = _ := jB4_g m0.2.2.2.1 m1.2.2.2.1 m2.2.2.2.1 m3.2.2.2.1 e3 (by rw [uN_shr]; exact Nat.shiftRight_eq_div_pow _ 8)
  have e5 : uN (jBits x) = _ := jB5_g (by omega) (by omega) (by omega) (by omega) e4 (by rw [uN_shr]; exact Nat.shiftRight_eq_div_pow _ 16) (by decide +kernel)
  rw [e5, pB_tb x 28 (by decide), ← hn, m0.2.2.2.2, m1.2.2.2.2, m2.2.2.2.2, m3.2.2.2.2]
  have u := fun i (hi : i < 8) => t0 i hi
  simp only [bsum]
  rw [← t0 0 (by decide), ← t0 1 (by decide), ← t0 2 (by decide), ← t0 3 (by decide), ← t0 4 (by decide), ← t0 5 (by decide), ← t0 6 (by decide), ← t0 7 (by decide), ← t1 0 (by decide), ← t1 1 (by decide), ← t1 2 (by decide), ← t1 3 (by decide), ← t1 4 (by decide), ← t1 5 (by decide), ← t1 6 (by decide), ← t1 7 (by decide), ← t2 0 (by decide), ← t2 1 (by decide), ← t2 2 (by decide), ← t2 3 (by decide), ← t2 4 (by decide), ← t2 5 (by decide), ← t2 6 (by decide), ← t2 7 (by decide), ← t3 0 (by decide), ← t3 1 (by decide), ← t3 2 (by decide), ← t3 3 (by decide), ← t3 4 (by decide), ← t3 5 (by decide), ← t3 6 (by decide), ← t3 7 (by decide), show b8 n (24 + 4) = 0 from z 28 (by decide) (by decide), show b8 n (24 + 5) = 0 from z 29 (by decide) (by decide), show b8 n (24 + 6) = 0 from z 30 (by decide) (by decide), show b8 n (24 + 7) = 0 from z 31 (by decide) (by decide)]
  simp only [Nat.reduceAdd]
  omega
