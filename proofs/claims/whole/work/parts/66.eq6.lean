/-! both sides: a window of a picture, by sums -/
/-- the sum of a row's cells from c on -/
def wR (sh : Nat → Int32) (r c : Nat) : Nat → Int32
  | 0 => 0
  | k + 1 => wR sh r c k + sh (9 * r + (c + k))
theorem pRs_wR (sh : Nat → Int32) (r c : Nat) : ∀ k, pRs sh r (c + k) = pRs sh r c + wR sh r c k
  | 0 => by simp [wR]
  | k + 1 => by
    show pRs sh r (c + k) + sh (9 * r + (c + k)) = _
    rw [pRs_wR sh r c k]
    simp only [wR]
    rw [Int32.add_assoc]
/-- the sum of a window -/
def wS (sh : Nat → Int32) (r c w : Nat) : Nat → Int32
  | 0 => 0
  | h + 1 => wS sh r c w h + wR sh (r + h) c w
theorem pS_wS (sh : Nat → Int32) (r c w : Nat) : ∀ h, pS sh (r + h) (c + w) - pS sh r (c + w) - pS sh (r + h) c + pS sh r c = wS sh r c w h
  | 0 => by
    show pS sh r (c + w) - pS sh r (c + w) - pS sh r c + pS sh r c = 0
    rw [Int32.sub_self, Int32.zero_sub, Int32.add_comm, ← Int32.sub_eq_add_neg, Int32.sub_self]
  | h + 1 => by
    have e1 : pS sh (r + (h + 1)) (c + w) = pS sh (r + h) (c + w) + pRs sh (r + h) (c + w) := rfl
    have e2 : pS sh (r + (h + 1)) c = pS sh (r + h) c + pRs sh (r + h) c := rfl
    have ih := pS_wS sh r c w h
    simp only [wS]
    rw [e1, e2, ← ih, pRs_wR]
    generalize pS sh (r + h) (c + w) = A
    generalize pS sh r (c + w) = B
    generalize pS sh (r + h) c = C
    generalize pS sh r c = D
    generalize pRs sh (r + h) c = F
    generalize wR sh (r + h) c w = G
    apply Int32.toBitVec_inj.mp
    simp only [Int32.toBitVec_add, Int32.toBitVec_sub]
    generalize A.toBitVec = a
    generalize B.toBitVec = b
    generalize C.toBitVec = c
    generalize D.toBitVec = d
    generalize F.toBitVec = f
    generalize G.toBitVec = g
    apply BitVec.eq_of_toInt_eq
    simp only [BitVec.toInt_add, BitVec.toInt_sub]
    simp only [Int.bmod_add_bmod, Int.add_bmod_bmod, Int.bmod_sub_bmod, Int.sub_bmod_bmod]
    congr 1
    omega
