/-! the same rows over small numbers: an int that is known as nI of a Nat -/
section
variable {E : zE} {Y : zY} {R : Room} {fin : zF} {n cells slots : Nat} {σ σ' : zH} {pc q u v : Nat} {w : Int} {L : List (Option Value)} {rest : List Value}
theorem zn_iadd (k a b : Nat) {x y : Int32} (h : Y.rows[k]? = some (pc, .iadd, q, u, v, w)) (hq : pc + 1 = q) (hx : x = nI a) (hy : y = nI b) (kk : zJ E Y R fin n cells slots σ q L (.int (nI (a + b)) :: rest)) : zJ E Y R fin n cells slots σ pc L (.int y :: .int x :: rest) := by
  subst hx; subst hy
  exact zj_iadd k h hq (by rw [nI_add]; exact kk)
theorem zn_imul (k a b : Nat) {x y : Int32} (h : Y.rows[k]? = some (pc, .imul, q, u, v, w)) (hq : pc + 1 = q) (hx : x = nI a) (hy : y = nI b) (kk : zJ E Y R fin n cells slots σ q L (.int (nI (a * b)) :: rest)) : zJ E Y R fin n cells slots σ pc L (.int y :: .int x :: rest) := by
  subst hx; subst hy
  exact zj_imul k h hq (by rw [pk_mul]; exact kk)
theorem zn_isub (k a b : Nat) {x y : Int32} (h : Y.rows[k]? = some (pc, .isub, q, u, v, w)) (hq : pc + 1 = q) (hx : x = nI a) (hy : y = nI b) (hab : b ≤ a) (kk : zJ E Y R fin n cells slots σ q L (.int (nI (a - b)) :: rest)) : zJ E Y R fin n cells slots σ pc L (.int y :: .int x :: rest) := by
  subst hx; subst hy
  exact zj_isub k h hq (by rw [pk_sub hab]; exact kk)
theorem zn_idiv (k a b : Nat) {x y : Int32} (h : Y.rows[k]? = some (pc, .idiv, q, u, v, w)) (hq : pc + 1 = q) (hx : x = nI a) (hy : y = nI b) (ha : a < 2 ^ 31) (h0 : 0 < b) (hb : b < 2 ^ 31) (kk : zJ E Y R fin n cells slots σ q L (.int (nI (a / b)) :: rest)) : zJ E Y R fin n cells slots σ pc L (.int y :: .int x :: rest) := by
  subst hx; subst hy
  exact zj_idiv k h hq (nI_ne0 h0 hb) (by rw [pk_div ha h0 hb]; exact kk)
theorem zn_irem (k a b : Nat) {x y : Int32} (h : Y.rows[k]? = some (pc, .irem, q, u, v, w)) (hq : pc + 1 = q) (hx : x = nI a) (hy : y = nI b) (ha : a < 2 ^ 31) (h0 : 0 < b) (hb : b < 2 ^ 31) (kk : zJ E Y R fin n cells slots σ q L (.int (nI (a % b)) :: rest)) : zJ E Y R fin n cells slots σ pc L (.int y :: .int x :: rest) := by
  subst hx; subst hy
  exact zj_irem k h hq (nI_ne0 h0 hb) (by rw [pk_rem ha h0 hb]; exact kk)
theorem zn_iinc (k a : Nat) {i : Nat} {x : Int32} (h : Y.rows[k]? = some (pc, .iinc i 1, q, u, v, w)) (hq : pc + 3 = q) (hl : L[i]? = some (some (.int x))) (hx : x = nI a) (kk : zJ E Y R fin n cells slots σ q (zs1 L i (.int (nI (a + 1)))) rest) : zJ E Y R fin n cells slots σ pc L rest := by
  subst hx
  exact zj_iinc k 1 h hq hl (by decide) (by rw [nI_1]; exact kk)
theorem zn_iald (k j : Nat) {a N : Nat} {f : Nat → Int32} {x : Int32} (h : Y.rows[k]? = some (pc, .iaload, q, u, v, w)) (hq : pc + 1 = q) (hs : σ a = some (.inl (0, N, .inl f))) (hx : x = nI j) (hj : j < N) (hN : N < 2 ^ 31) (kk : zJ E Y R fin n cells slots σ q L (.int (f j) :: rest)) : zJ E Y R fin n cells slots σ pc L (.int x :: .ref a :: rest) := by
  subst hx
  refine zj_iald k h hq hs (vp_in_nI hj hN) ?_
  rw [nI_clamp (by omega)]; exact kk
theorem zn_lald (k j : Nat) {a N : Nat} {f : Nat → Int64} {x : Int32} (h : Y.rows[k]? = some (pc, .laload, q, u, v, w)) (hq : pc + 1 = q) (hs : σ a = some (.inl (1, N, .inr (.inl f)))) (hx : x = nI j) (hj : j < N) (hN : N < 2 ^ 31) (kk : zJ E Y R fin n cells slots σ q L (.long (f j) :: rest)) : zJ E Y R fin n cells slots σ pc L (.int x :: .ref a :: rest) := by
  subst hx
  refine zj_lald k h hq hs (vp_in_nI hj hN) ?_
  rw [nI_clamp (by omega)]; exact kk
theorem zn_zald (k j : Nat) {a N : Nat} {f : Nat → Int32} {x : Int32} (h : Y.rows[k]? = some (pc, .baload, q, u, v, w)) (hq : pc + 1 = q) (hs : σ a = some (.inl (2, N, .inl f))) (hx : x = nI j) (hj : j < N) (hN : N < 2 ^ 31) (kk : zJ E Y R fin n cells slots σ q L (.int (f j) :: rest)) : zJ E Y R fin n cells slots σ pc L (.int x :: .ref a :: rest) := by
  subst hx
  refine zj_zald k h hq hs (vp_in_nI hj hN) ?_
  rw [nI_clamp (by omega)]; exact kk
theorem zn_aald (k j : Nat) {a N t b : Nat} {f : Nat → Option Nat} {x : Int32} (h : Y.rows[k]? = some (pc, .aaload, q, u, v, w)) (hq : pc + 1 = q) (hs : σ a = some (.inl (t, N, .inr (.inr (.inr (.inr f)))))) (ht : 3 ≤ t ∧ t < 6) (hx : x = nI j) (hj : j < N) (hN : N < 2 ^ 31) (hb : f j = some b) (kk : zJ E Y R fin n cells slots σ q L (.ref b :: rest)) : zJ E Y R fin n cells slots σ pc L (.int x :: .ref a :: rest) := by
  subst hx
  exact zj_aald k h hq hs ht (vp_in_nI hj hN) (by rw [nI_clamp (by omega)]; exact hb) kk
theorem zn_iast (k j : Nat) {a N : Nat} {f : Nat → Int32} {x y : Int32} (h : Y.rows[k]? = some (pc, .iastore, q, u, v, w)) (hq : pc + 1 = q) (hs : σ a = some (.inl (0, N, .inl f))) (hx : x = nI j) (hj : j < N) (hN : N < 2 ^ 31) (hw : zup σ a (.inl (0, N, .inl (va_up f j y))) = σ') (kk : zJ E Y R fin n cells slots σ' q L rest) : zJ E Y R fin n cells slots σ pc L (.int y :: .int x :: .ref a :: rest) := by
  subst hx; subst hw
  refine zj_iast k h hq hs (vp_in_nI hj hN) ?_
  rw [nI_clamp (by omega)]; exact kk
theorem zn_last (k j : Nat) {a N : Nat} {f : Nat → Int64} {x : Int32} {y : Int64} (h : Y.rows[k]? = some (pc, .lastore, q, u, v, w)) (hq : pc + 1 = q) (hs : σ a = some (.inl (1, N, .inr (.inl f)))) (hx : x = nI j) (hj : j < N) (hN : N < 2 ^ 31) (hw : zup σ a (.inl (1, N, .inr (.inl (va_up f j y)))) = σ') (kk : zJ E Y R fin n cells slots σ' q L rest) : zJ E Y R fin n cells slots σ pc L (.long y :: .int x :: .ref a :: rest) := by
  subst hx; subst hw
  refine zj_last k h hq hs (vp_in_nI hj hN) ?_
  rw [nI_clamp (by omega)]; exact kk
theorem zn_zast (k j : Nat) {a N : Nat} {f : Nat → Int32} {x y : Int32} (h : Y.rows[k]? = some (pc, .bastore, q, u, v, w)) (hq : pc + 1 = q) (hs : σ a = some (.inl (2, N, .inl f))) (hx : x = nI j) (hj : j < N) (hN : N < 2 ^ 31) (hn : narrow .boolean (.int y) = .int y) (hw : zup σ a (.inl (2, N, .inl (va_up f j y))) = σ') (kk : zJ E Y R fin n cells slots σ' q L rest) : zJ E Y R fin n cells slots σ pc L (.int y :: .int x :: .ref a :: rest) := by
  subst hx; subst hw
  refine zj_zast k h hq hs (vp_in_nI hj hN) hn ?_
  rw [nI_clamp (by omega)]; exact kk
theorem zn_put (k : Nat) {idx a : Nat} {fs : List Value} {x : Value} (h : Y.rows[k]? = some (pc, .putfield idx, q, u, v, w)) (hq : pc + 3 = q) (hs : σ a = some (.inr (u, fs))) (hfin : (zTT u v).2.2.2 = false) (hn : narrow (zYY u v) x = x) (hfit : fits (zYY u v) x = true) (hl0 : v.blt fs.length = true) (hw : zup σ a (.inr (u, fs.set v x)) = σ') (kk : zJ E Y R fin n cells slots σ' q L rest) : zJ E Y R fin n cells slots σ pc L (x :: .ref a :: rest) := by
  subst hw
  exact zj_put k h hq hs hfin hn hfit (Nat.lt_of_lt_of_le (Nat.lt_succ_self v) (Nat.le_of_ble_eq_true hl0)) kk
/-! compares of small numbers -/
theorem zn_icmp_lt (k a b : Nat) {x y : Int32} {off : Int} (h : Y.rows[k]? = some (pc, .if_icmp .lt off, q, u, v, w)) (hq : pc + 3 = q) (hx : x = nI a) (hy : y = nI b) (ha : a < 2 ^ 31) (hb : b < 2 ^ 31) (kt : a < b → zJ E Y R fin n cells slots σ u L rest) (kf : b ≤ a → zJ E Y R fin n cells slots σ q L rest) : zJ E Y R fin n cells slots σ pc L (.int y :: .int x :: rest) := by
  subst hx; subst hy
  exact zj_icmp_lt k h hq (fun g => kt ((nI_ltI ha hb).mp g)) (fun g => kf (by have := mt (nI_ltI ha hb).mpr g; omega))
theorem zn_icmp_ge (k a b : Nat) {x y : Int32} {off : Int} (h : Y.rows[k]? = some (pc, .if_icmp .ge off, q, u, v, w)) (hq : pc + 3 = q) (hx : x = nI a) (hy : y = nI b) (ha : a < 2 ^ 31) (hb : b < 2 ^ 31) (kt : b ≤ a → zJ E Y R fin n cells slots σ u L rest) (kf : a < b → zJ E Y R fin n cells slots σ q L rest) : zJ E Y R fin n cells slots σ pc L (.int y :: .int x :: rest) := by
  subst hx; subst hy
  exact zj_icmp_ge k h hq (fun g => kt ((nI_leI hb ha).mp g)) (fun g => kf (by have := mt (nI_leI hb ha).mpr g; omega))
theorem zn_icmp_gt (k a b : Nat) {x y : Int32} {off : Int} (h : Y.rows[k]? = some (pc, .if_icmp .gt off, q, u, v, w)) (hq : pc + 3 = q) (hx : x = nI a) (hy : y = nI b) (ha : a < 2 ^ 31) (hb : b < 2 ^ 31) (kt : b < a → zJ E Y R fin n cells slots σ u L rest) (kf : a ≤ b → zJ E Y R fin n cells slots σ q L rest) : zJ E Y R fin n cells slots σ pc L (.int y :: .int x :: rest) := by
  subst hx; subst hy
  exact zj_icmp_gt k h hq (fun g => kt ((nI_ltI hb ha).mp g)) (fun g => kf (by have := mt (nI_ltI hb ha).mpr g; omega))
theorem zn_icmp_le (k a b : Nat) {x y : Int32} {off : Int} (h : Y.rows[k]? = some (pc, .if_icmp .le off, q, u, v, w)) (hq : pc + 3 = q) (hx : x = nI a) (hy : y = nI b) (ha : a < 2 ^ 31) (hb : b < 2 ^ 31) (kt : a ≤ b → zJ E Y R fin n cells slots σ u L rest) (kf : b < a → zJ E Y R fin n cells slots σ q L rest) : zJ E Y R fin n cells slots σ pc L (.int y :: .int x :: rest) := by
  subst hx; subst hy
  exact zj_icmp_le k h hq (fun g => kt ((nI_leI ha hb).mp g)) (fun g => kf (by have := mt (nI_leI ha hb).mpr g; omega))
theorem zn_icmp_eq (k a b : Nat) {x y : Int32} {off : Int} (h : Y.rows[k]? = some (pc, .if_icmp .eq off, q, u, v, w)) (hq : pc + 3 = q) (hx : x = nI a) (hy : y = nI b) (ha : a < 2 ^ 31) (hb : b < 2 ^ 31) (kt : a = b → zJ E Y R fin n cells slots σ u L rest) (kf : a ≠ b → zJ E Y R fin n cells slots σ q L rest) : zJ E Y R fin n cells slots σ pc L (.int y :: .int x :: rest) := by
  subst hx; subst hy
  exact zj_icmp_eq k h hq (fun g => kt ((nI_eq ha hb).mp g)) (fun g => kf (fun e => g ((nI_eq ha hb).mpr e)))
theorem zn_icmp_ne (k a b : Nat) {x y : Int32} {off : Int} (h : Y.rows[k]? = some (pc, .if_icmp .ne off, q, u, v, w)) (hq : pc + 3 = q) (hx : x = nI a) (hy : y = nI b) (ha : a < 2 ^ 31) (hb : b < 2 ^ 31) (kt : a ≠ b → zJ E Y R fin n cells slots σ u L rest) (kf : a = b → zJ E Y R fin n cells slots σ q L rest) : zJ E Y R fin n cells slots σ pc L (.int y :: .int x :: rest) := by
  subst hx; subst hy
  refine zj_icmp_ne k h hq (fun g => kt (fun e => ?_)) (fun g => kf ?_)
  · exact absurd ((nI_eq ha hb).mpr e) (by simpa using g)
  · exact (nI_eq ha hb).mp (Decidable.of_not_not (by simpa using g))
/-! switches -/
def ztsw (pc : Nat) (d lo hi : Int) (offs : Array Int) (x : Int) : Option Nat := if x < lo ∨ hi < x then some (((pc : Int) + d).toNat) else (offs[(x - lo).toNat]?).map fun o => ((pc : Int) + o).toNat
theorem zj_tsw (k : Nat) {x : Int32} {d lo hi : Int} {offs : Array Int} {t : Nat} (h : Y.rows[k]? = some (pc, .tableswitch d lo hi offs, q, u, v, w)) (hlt : pc.blt q = true) (ht : ztsw pc d lo hi offs x.toInt = some t) (hnn : (decide (0 ≤ (pc : Int) + d) && offs.all (fun o => decide (0 ≤ (pc : Int) + o))) = true) (kk : zJ E Y R fin n cells slots σ t L rest) : zJ E Y R fin n cells slots σ pc L (.int x :: rest) := by
  intro p e s m args below meth c H locs ls C hR hf hl
  have hlt' : pc < q := Nat.lt_of_lt_of_le (Nat.lt_succ_self pc) (Nat.le_of_ble_eq_true hlt)
  have h1 := (zdec (len := q - pc) C.2.2.2.2.2.2.2.2.2 h (by omega)).1
  simp only [Bool.and_eq_true, decide_eq_true_eq] at hnn
  unfold ztsw at ht
  split at ht
  · rename_i hc
    simp only [Option.some.injEq] at ht
    exact lv_tableOut C.1 C.2.1 h1 hc (by omega) (kk p e s m args below meth c H locs ls C hR hf hl)
  · rename_i hc
    simp only [Option.map_eq_some_iff] at ht
    obtain ⟨o, ho, ht⟩ := ht
    have h0 : 0 ≤ (pc : Int) + o := by
      have := Array.all_eq_true_iff_forall_mem.mp hnn.2 o (Array.mem_of_getElem? ho)
      simpa using this
    exact lv_tableIn C.1 C.2.1 h1 (fun g => hc (Or.inl g)) (fun g => hc (Or.inr g)) ho (by omega) (kk p e s m args below meth c H locs ls C hR hf hl)
end
