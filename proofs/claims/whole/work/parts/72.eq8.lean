/-! bits counted by halves: Java's bitCount is the count of the bits -/
def uN (x : Int32) : Nat := x.toUInt32.toNat
theorem land_split (a c m d : Nat) (ha : a < 256) (hc : c < 256) : (a + 256 * m) &&& (c + 256 * d) = (a &&& c) + 256 * (m &&& d) := by
  have h1 : ((a + 256 * m) &&& (c + 256 * d)) % 2 ^ 8 = a &&& c := by
    rw [Nat.and_mod_two_pow]
    congr 1 <;> omega
  have h2 : ((a + 256 * m) &&& (c + 256 * d)) / 2 ^ 8 = m &&& d := by
    rw [Nat.and_div_two_pow]
    congr 1 <;> omega
  omega
theorem land4 (a0 a1 a2 a3 k : Nat) (h0 : a0 < 256) (h1 : a1 < 256) (h2 : a2 < 256) (hk : k < 256) : (a0 + 256 * (a1 + 256 * (a2 + 256 * a3))) &&& (k + 256 * (k + 256 * (k + 256 * k))) = (a0 &&& k) + 256 * ((a1 &&& k) + 256 * ((a2 &&& k) + 256 * (a3 &&& k))) := by
  rw [land_split a0 k _ _ h0 hk, land_split a1 k _ _ h1 hk, land_split a2 k _ _ h2 hk]
abbrev q1 (b : Nat) : Nat := b - ((b / 2) &&& 85)
abbrev q2 (b : Nat) : Nat := (b &&& 51) + ((b / 4) &&& 51)
abbrev q3 (b : Nat) : Nat := (b + b / 16) &&& 15
theorem q1_ok : ∀ b, b < 256 → ∀ e, e < 2 → (b / 2 + 128 * e) &&& 85 = (b / 2) &&& 85 ∧ (b / 2) &&& 85 ≤ b ∧ q1 b < 256 := by decide +kernel
theorem q2_ok : ∀ b, b < 256 → ∀ e, e < 4 → (b / 4 + 64 * e) &&& 51 = (b / 4) &&& 51 ∧ q2 b < 256 := by decide +kernel
theorem q3_ok : ∀ b, b < 69 → ∀ e, e < 16 → (b + b / 16 + 16 * e) &&& 15 = q3 b ∧ b + b / 16 + 16 * e < 512 := by decide +kernel
abbrev b8 (b i : Nat) : Nat := (b.testBit i).toNat
theorem q_ok : ∀ b, b < 256 → q2 (q1 b) < 69 ∧ q2 (q1 b) + q2 (q1 b) / 16 + 16 * 4 < 256 ∧ q2 (q1 b) % 16 ≤ 4 ∧ q3 (q2 (q1 b)) ≤ 8 ∧ q3 (q2 (q1 b)) = b8 b 0 + b8 b 1 + b8 b 2 + b8 b 3 + b8 b 4 + b8 b 5 + b8 b 6 + b8 b 7 := by decide +kernel
theorem uN_shr (x : Int32) (k : Int32) : uN ((x.toUInt32 >>> (k.toUInt32 &&& Int32.toUInt32 31)).toInt32) = uN x >>> ((k.toUInt32 &&& Int32.toUInt32 31).toNat % 32) := by
  unfold uN
  rw [UInt32.toUInt32_toInt32, UInt32.toNat_shiftRight]
theorem uN_and (x y : Int32) : uN (x &&& y) = uN x &&& uN y := by
  unfold uN
  rw [Int32.toUInt32_and, UInt32.toNat_and]
theorem uN_add (x y : Int32) : uN (x + y) = (uN x + uN y) % 2 ^ 32 := by
  unfold uN
  rw [Int32.toUInt32_add, UInt32.toNat_add]
theorem uN_sub (x y : Int32) (h : uN y ≤ uN x) : uN (x - y) = uN x - uN y := by
  unfold uN at h ⊢
  rw [Int32.toUInt32_sub, UInt32.toNat_sub_of_le _ _ h]
