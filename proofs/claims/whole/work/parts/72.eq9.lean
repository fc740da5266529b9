/-! the same, by bytes -/
def y4 (a b c d : Nat) : Nat := a + 256 * (b + 256 * (c + 256 * d))
theorem ys1 (a m : Nat) : (a + 256 * m) / 2 = (a / 2 + 128 * (m % 2)) + 256 * (m / 2) := by omega
theorem ym1 (a m : Nat) : (a + 256 * m) % 2 = a % 2 := by omega
theorem ys2 (a m : Nat) : (a + 256 * m) / 4 = (a / 4 + 64 * (m % 4)) + 256 * (m / 4) := by omega
theorem ym2 (a m : Nat) : (a + 256 * m) % 4 = a % 4 := by omega
theorem ys4 (a m : Nat) : (a + 256 * m) / 16 = (a / 16 + 16 * (m % 16)) + 256 * (m / 16) := by omega
theorem ym4 (a m : Nat) : (a + 256 * m) % 16 = a % 16 := by omega
theorem ys8 (a m : Nat) (h : a < 256) : (a + 256 * m) / 256 = m := by omega
theorem y4_1 (b0 b1 b2 b3 : Nat) : y4 b0 b1 b2 b3 / 2 = y4 (b0 / 2 + 128 * (b1 % 2)) (b1 / 2 + 128 * (b2 % 2)) (b2 / 2 + 128 * (b3 % 2)) (b3 / 2) := by
  unfold y4
  rw [ys1 b0, ys1 b1, ys1 b2, ym1 b1, ym1 b2]
theorem y4_2 (b0 b1 b2 b3 : Nat) : y4 b0 b1 b2 b3 / 4 = y4 (b0 / 4 + 64 * (b1 % 4)) (b1 / 4 + 64 * (b2 % 4)) (b2 / 4 + 64 * (b3 % 4)) (b3 / 4) := by
  unfold y4
  rw [ys2 b0, ys2 b1, ys2 b2, ym2 b1, ym2 b2]
theorem y4_4 (b0 b1 b2 b3 : Nat) : y4 b0 b1 b2 b3 / 16 = y4 (b0 / 16 + 16 * (b1 % 16)) (b1 / 16 + 16 * (b2 % 16)) (b2 / 16 + 16 * (b3 % 16)) (b3 / 16) := by
  unfold y4
  rw [ys4 b0, ys4 b1, ys4 b2, ym4 b1, ym4 b2]
theorem y4_8 (b0 b1 b2 b3 : Nat) (h0 : b0 < 256) : y4 b0 b1 b2 b3 / 256 = y4 b1 b2 b3 0 := by
  unfold y4
  rw [ys8 b0 _ h0, Nat.mul_zero, Nat.add_zero]
theorem y4_16 (b0 b1 b2 b3 : Nat) (h0 : b0 < 256) (h1 : b1 < 256) : y4 b0 b1 b2 b3 / 65536 = y4 b2 b3 0 0 := by
  have e : y4 b0 b1 b2 b3 / 65536 = y4 b0 b1 b2 b3 / 256 / 256 := by rw [Nat.div_div_eq_div_mul]
  rw [e, y4_8 _ _ _ _ h0, y4_8 _ _ _ _ h1]
theorem y4_add (a0 a1 a2 a3 b0 b1 b2 b3 : Nat) : y4 a0 a1 a2 a3 + y4 b0 b1 b2 b3 = y4 (a0 + b0) (a1 + b1) (a2 + b2) (a3 + b3) := by unfold y4; omega
theorem y4_sub (a0 a1 a2 a3 b0 b1 b2 b3 : Nat) : y4 (a0 + b0) (a1 + b1) (a2 + b2) (a3 + b3) - y4 b0 b1 b2 b3 = y4 a0 a1 a2 a3 := by
  rw [← y4_add]; omega
theorem y4_lt {a0 a1 a2 a3 : Nat} (h0 : a0 < 256) (h1 : a1 < 256) (h2 : a2 < 256) (h3 : a3 < 256) : y4 a0 a1 a2 a3 < 4294967296 := by unfold y4; omega
theorem land_y4 (a0 a1 a2 a3 k : Nat) (h0 : a0 < 256) (h1 : a1 < 256) (h2 : a2 < 256) (hk : k < 256) : y4 a0 a1 a2 a3 &&& y4 k k k k = y4 (a0 &&& k) (a1 &&& k) (a2 &&& k) (a3 &&& k) := land4 a0 a1 a2 a3 k h0 h1 h2 hk
theorem jB1_g {x s m : Int32} {b0 b1 b2 b3 : Nat} (h0 : b0 < 256) (h1 : b1 < 256) (h2 : b2 < 256) (h3 : b3 < 256) (hx : uN x = y4 b0 b1 b2 b3) (hs : uN s = uN x / 2) (hm : uN m = y4 85 85 85 85) : uN (x - (s &&& m)) = y4 (q1 b0) (q1 b1) (q1 b2) (q1 b3) := by
  have e1 : uN (s &&& m) = y4 ((b0 / 2) &&& 85) ((b1 / 2) &&& 85) ((b2 / 2) &&& 85) ((b3 / 2) &&& 85) := by
    rw [uN_and, hs, hm, hx, y4_1, land_y4 _ _ _ _ 85 (by omega) (by omega) (by omega) (by decide), (q1_ok b0 h0 (b1 % 2) (by omega)).1, (q1_ok b1 h1 (b2 % 2) (by omega)).1, (q1_ok b2 h2 (b3 % 2) (by omega)).1]
  have g0 := (q1_ok b0 h0 0 (by decide)).2.1
  have g1 := (q1_ok b1 h1 0 (by decide)).2.1
  have g2 := (q1_ok b2 h2 0 (by decide)).2.1
  have g3 := (q1_ok b3 h3 0 (by decide)).2.1
  have e2 : uN x = y4 (q1 b0) (q1 b1) (q1 b2) (q1 b3) + uN (s &&& m) := by
    rw [e1, y4_add, Nat.sub_add_cancel g0, Nat.sub_add_cancel g1, Nat.sub_add_cancel g2, Nat.sub_add_cancel g3, hx]
  rw [uN_sub _ _ (by rw [e2]; exact Nat.le_add_left _ _), e2, Nat.add_sub_cancel]
theorem jB2_g {x s m : Int32} {b0 b1 b2 b3 : Nat} (h0 : b0 < 256) (h1 : b1 < 256) (h2 : b2 < 256) (h3 : b3 < 256) (hx : uN x = y4 b0 b1 b2 b3) (hs : uN s = uN x / 4) (hm : uN m = y4 51 51 51 51) : uN ((x &&& m) + (s &&& m)) = y4 (q2 b0) (q2 b1) (q2 b2) (q2 b3) := by
  have e1 : uN (s &&& m) = y4 ((b0 / 4) &&& 51) ((b1 / 4) &&& 51) ((b2 / 4) &&& 51) ((b3 / 4) &&& 51) := by
    rw [uN_and, hs, hm, hx, y4_2, land_y4 _ _ _ _ 51 (by omega) (by omega) (by omega) (by decide), (q2_ok b0 h0 (b1 % 4) (by omega)).1, (q2_ok b1 h1 (b2 % 4) (by omega)).1, (q2_ok b2 h2 (b3 % 4) (by omega)).1]
  have e3 : uN (x &&& m) = y4 (b0 &&& 51) (b1 &&& 51) (b2 &&& 51) (b3 &&& 51) := by
    rw [uN_and, hm, hx, land_y4 _ _ _ _ 51 h0 h1 h2 (by decide)]
  rw [uN_add, e1, e3, y4_add, Nat.mod_eq_of_lt]
  exact y4_lt (q2_ok b0 h0 0 (by decide)).2 (q2_ok b1 h1 0 (by decide)).2 (q2_ok b2 h2 0 (by decide)).2 (q2_ok b3 h3 0 (by decide)).2
theorem jB3_g {x s m : Int32} {b0 b1 b2 b3 : Nat} (h0 : b0 < 69 ∧ b0 + b0 / 16 + 64 < 256) (h1 : b1 < 69 ∧ b1 + b1 / 16 + 64 < 256 ∧ b1 % 16 ≤ 4) (h2 : b2 < 69 ∧ b2 + b2 / 16 + 64 < 256 ∧ b2 % 16 ≤ 4) (h3 : b3 < 69 ∧ b3 + b3 / 16 + 64 < 256 ∧ b3 % 16 ≤ 4) (hx : uN x = y4 b0 b1 b2 b3) (hs : uN s = uN x / 16) (hm : uN m = y4 15 15 15 15) : uN ((x + s) &&& m) = y4 (q3 b0) (q3 b1) (q3 b2) (q3 b3) := by
  have e1 : uN (x + s) = y4 (b0 + b0 / 16 + 16 * (b1 % 16)) (b1 + b1 / 16 + 16 * (b2 % 16)) (b2 + b2 / 16 + 16 * (b3 % 16)) (b3 + b3 / 16) := by
    rw [uN_add, hs, hx, y4_4, y4_add, ← Nat.add_assoc, ← Nat.add_assoc, ← Nat.add_assoc, Nat.mod_eq_of_lt]
    exact y4_lt (by omega) (by omega) (by omega) (by omega)
  rw [uN_and, e1, hm, land_y4 _ _ _ _ 15 (by omega) (by omega) (by omega) (by decide), (q3_ok b0 h0.1 (b1 % 16) (by omega)).1, (q3_ok b1 h1.1 (b2 % 16) (by omega)).1, (q3_ok b2 h2.1 (b3 % 16) (by omega)).1]
theorem jB4_g {x s : Int32} {b0 b1 b2 b3 : Nat} (h0 : b0 ≤ 8) (h1 : b1 ≤ 8) (h2 : b2 ≤ 8) (h3 : b3 ≤ 8) (hx : uN x = y4 b0 b1 b2 b3) (hs : uN s = uN x / 256) : uN (x + s) = y4 (b0 + b1) (b1 + b2) (b2 + b3) b3 := by
  rw [uN_add, hs, hx, y4_8 _ _ _ _ (by omega), y4_add, Nat.add_zero, Nat.mod_eq_of_lt]
  exact y4_lt (by omega) (by omega) (by omega) (by omega)
theorem jB5_g {x s m : Int32} {b0 b1 b2 b3 : Nat} (h0 : b0 ≤ 16) (h1 : b1 ≤ 16) (h2 : b2 ≤ 16) (h3 : b3 ≤ 16) (hx : uN x = y4 b0 b1 b2 b3) (hs : uN s = uN x / 65536) (hm : uN m = 2 ^ 6 - 1) : uN ((x + s) &&& m) = b0 + b2 := by
  have e : uN (x + s) = y4 (b0 + b2) (b1 + b3) b2 b3 := by
    rw [uN_add, hs, hx, y4_16 _ _ _ _ (by omega) (by omega), y4_add, Nat.add_zero, Nat.add_zero, Nat.mod_eq_of_lt]
    exact y4_lt (by omega) (by omega) (by omega) (by omega)
  rw [uN_and, e, hm, Nat.and_two_pow_sub_one_eq_mod]
  unfold y4
  omega
