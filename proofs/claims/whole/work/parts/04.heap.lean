/-! heap: fields, arrays; returns; contracts and calls -/
section
variable {E : zE} {Y : zY} {R : Room} {fin : zF} {n cells slots : Nat} {σ : zH} {pc q u v : Nat} {w : Int} {L : List (Option Value)} {rest : List Value}
theorem zR.at {H : Heap} (h : zR E n σ H) {a : Nat} {e : va_E} (he : σ a = some e) : va_at E.D zcl (a, zve E e) H := (h.2.2 a e he).2
theorem zR.put {H H' : Heap} (h : zR E n σ H) {a : Nat} {e e' : va_E} (he : σ a = some e) (hz : H'.size = H.size) (ho : ∀ q, q ≠ a → H'[q]? = H[q]?) (ha : va_at E.D zcl (a, zve E e') H') : zR E n (zup σ a e') H' := by
  have hlo := (h.2.2 a e he).1
  refine ⟨hz.trans h.1, fun q hq => (ho q (by omega)).trans (h.2.1 q hq), fun q f hf => ?_⟩
  by_cases hqa : q = a
  · subst hqa
    rw [zup_eq] at hf
    cases hf
    exact ⟨hlo, ha⟩
  · rw [zup_ne hqa] at hf
    exact ⟨(h.2.2 q f hf).1, (h.2.2 q f hf).2.kept (ho q hqa)⟩
theorem zcl_at {ci : Nat} (h : ci < 9) : zcl[ci]? = some (zcn ci, zTT ci, zNN ci) := by
  match ci, h with
  | 0, _ => rfl
  | 1, _ => rfl
  | 2, _ => rfl
  | 3, _ => rfl
  | 4, _ => rfl
  | 5, _ => rfl
  | 6, _ => rfl
  | 7, _ => rfl
  | 8, _ => rfl
  | c + 9, h => omega
theorem zws_at {ci : Nat} (h : ci < 9) : ∀ w ∈ u_ws (zcn ci) (zTT ci) (zNN ci), w ∈ zTbl := by
  match ci, h with
  | 0, _ => exact zw0
  | 1, _ => exact zw1
  | 2, _ => exact zw2
  | 3, _ => exact zw3
  | 4, _ => exact zw4
  | 5, _ => exact zw5
  | 6, _ => exact zw6
  | 7, _ => exact zw7
  | 8, _ => exact zw8
  | c + 9, h => omega
theorem zqq_at {ci : Nat} (h : ci < 9) : ∀ k, k < zNN ci → parseFieldDescriptor (zTT ci k).2.2.1 = some (zYY ci k) := by
  match ci, h with
  | 0, _ => exact zq0
  | 1, _ => exact zq1
  | 2, _ => exact zq2
  | 3, _ => exact zq3
  | 4, _ => exact zq4
  | 5, _ => exact zq5
  | 6, _ => exact zq6
  | 7, _ => exact zq7
  | 8, _ => exact zq8
  | c + 9, h => omega
theorem znn_at {ci : Nat} (h : ci < 9) : ∀ a, a < zNN ci → ∀ b, b < zNN ci → a ≠ b → (zTT ci a).2.1 ≠ (zTT ci b).2.1 := by
  match ci, h with
  | 0, _ => exact zn0
  | 1, _ => exact zn1
  | 2, _ => exact zn2
  | 3, _ => exact zn3
  | 4, _ => exact zn4
  | 5, _ => exact zn5
  | 6, _ => exact zn6
  | 7, _ => exact zn7
  | 8, _ => exact zn8
  | c + 9, h => omega
theorem zaux_f {oc idx u v : Nat} (h : (zFLs.contains (oc, idx, u, v) && decide (u < 9) && decide (v < zNN u)) = true) : (Cond.fieldLink (zcn oc) idx (zTT u v).1 (zTT u v).2.1 (zTT u v).2.2.1) ∈ zTbl ∧ u < 9 ∧ v < zNN u := by
  simp only [Bool.and_eq_true, decide_eq_true_eq] at h
  exact ⟨zFL_ok _ (List.contains_iff_mem.mp h.1.1), h.1.2, h.2⟩
theorem zj_get (k : Nat) {idx a : Nat} {fs : List Value} {x : Value} (h : Y.rows[k]? = some (pc, .getfield idx, q, u, v, w)) (hq : pc + 3 = q) (hs : σ a = some (.inr (u, fs))) (hx : fs[v]? = some x) (kk : zJ E Y R fin n cells slots σ q L (x :: rest)) : zJ E Y R fin n cells slots σ pc L (.ref a :: rest) := by
  intro p e s m args below meth c H locs ls C hR hf hl
  subst hq
  have h1 := zdec C.2.2.2.2.2.2.2.2.2 h rfl
  obtain ⟨g1, g2, g3⟩ := zaux_f h1.2
  have hP : va_P E.D zcl [(a, .inr (u, fs))] H := fun j qq hj => by
    match j, hj with
    | 0, hj => cases hj; exact hR.at hs
    | j + 1, hj => simp at hj
  exact va_get (ref := (zTT u v).1) C.1 C.2.1 C.2.2.2.2.2.2.1 (zws_at g2) C.2.2.2.2.2.1 C.2.2.2.2.2.2.2.1.1 hP 0 rfl (zcl_at g2) v g3 (C.2.2.2.2.2.2.1 _ g1) (fun _ h => h) hx h1.1 (kk p e s m args below meth c H locs ls C hR hf hl)
theorem zj_put (k : Nat) {idx a : Nat} {fs : List Value} {x : Value} (h : Y.rows[k]? = some (pc, .putfield idx, q, u, v, w)) (hq : pc + 3 = q) (hs : σ a = some (.inr (u, fs))) (hfin : (zTT u v).2.2.2 = false) (hn : narrow (zYY u v) x = x) (hfit : fits (zYY u v) x = true) (hl0 : v < fs.length) (kk : zJ E Y R fin n cells slots (zup σ a (.inr (u, fs.set v x))) q L rest) : zJ E Y R fin n cells slots σ pc L (x :: .ref a :: rest) := by
  intro p e s m args below meth c H locs ls C hR hf hl
  subst hq
  have h1 := zdec C.2.2.2.2.2.2.2.2.2 h rfl
  obtain ⟨g1, g2, g3⟩ := zaux_f h1.2
  have hK := C.2.2.2.2.2.2.2.1.1
  have hts := C.2.2.2.2.2.2.1
  have hap := va_apart (own := zcn Y.oc) hts (zws_at g2) (zYY u) (zqq_at g2) (znn_at g2) hK (zcl_at g2)
  obtain ⟨r, hr1, cell, q1, q2, q3, q4⟩ := hR.at hs
  have hr : r = (zcn u, zTT u, zNN u) := Option.some.inj (hr1.symm.trans (zcl_at g2))
  subst hr
  obtain ⟨hS, hfc, kC, hkC, hkind⟩ := hK.1 u _ (zcl_at g2)
  obtain ⟨cf, kf, fi, f, hi, hsl⟩ := hS v g3
  have hlay := hts _ (zws_at g2 _ (u_in_lay g3))
  unfold u_lay at hlay
  rw [if_neg (by rw [hfin]; decide)] at hlay
  have hst := (u_facts hfc hkC (u_lays hts (zws_at g2) g3) hi).1
  have h6 := u_store hfc hkC hkind hlay hi (zqq_at g2 v g3) hn hfit
  refine W.putK C.1 C.2.1 (f := f) ⟨C.2.2.2.2.2.1, hts _ g1, ⟨_, _, _, hi⟩, hst⟩ (by rw [q2]; exact h6) q1 q3 (by rw [hsl]; exact k2_hasslot (q4 v g3)) rfl rfl h1.1 fun H' e1 e2 e3 => ?_
  rw [hsl] at e1 ⊢
  refine kk p e s m args below meth c H' _ ls C (hR.put hs e2 e3 ⟨_, zcl_at g2, t_OB.to (V := updV (vp_V fs) v x) ⟨_, e1, q2, q3, t_set q4 hap g3 x⟩ (fun j _ => vp_updV_set hl0 x j)⟩) (fun l hl' => ?_) hl
  rcases List.mem_append.mp hl' with h' | h'
  · exact hf l h'
  · rw [List.mem_singleton.mp h']; exact (hR.2.2 a _ hs).1
theorem zarr {s : State} (hK : zK E s) {t : Nat} (ht : t < 6) : ArrOfT s (E.cA t) (zty t) := (hK.1.2 t _ (ztys_at E ht)).1
theorem zj_iald (k : Nat) {a N : Nat} {f : Nat → Int32} {i : Int32} (h : Y.rows[k]? = some (pc, .iaload, q, u, v, w)) (hq : pc + 1 = q) (hs : σ a = some (.inl (0, N, .inl f))) (hin : vp_in i N) (kk : zJ E Y R fin n cells slots σ q L (.int (f i.toNatClampNeg) :: rest)) : zJ E Y R fin n cells slots σ pc L (.int i :: .ref a :: rest) := by
  intro p e s m args below meth c H locs ls C hR hf hl
  subst hq
  have hlt : i.toNatClampNeg < N := Nat.not_le.mp fun q => hin (Or.inr q)
  exact W.iald (v := .int (f i.toNatClampNeg)) C.1 C.2.1 (hR.at hs) (zarr C.2.2.2.2.2.2.2.1 (t := 0) (by decide) N (fun j => .int (f j))) (fun q => by cases q) (by show ¬ (i < 0 ∨ (arrV _ _ _).slots.size ≤ _); rw [arrV_size]; exact hin) (by show (arrV _ _ _).slots[_]? = _; rw [arrV_read _ _ hlt]) rfl rfl (zdec C.2.2.2.2.2.2.2.2.2 h rfl).1 (kk p e s m args below meth c H locs ls C hR hf hl)
theorem zj_lald (k : Nat) {a N : Nat} {f : Nat → Int64} {i : Int32} (h : Y.rows[k]? = some (pc, .laload, q, u, v, w)) (hq : pc + 1 = q) (hs : σ a = some (.inl (1, N, .inr (.inl f)))) (hin : vp_in i N) (kk : zJ E Y R fin n cells slots σ q L (.long (f i.toNatClampNeg) :: rest)) : zJ E Y R fin n cells slots σ pc L (.int i :: .ref a :: rest) := by
  intro p e s m args below meth c H locs ls C hR hf hl
  subst hq
  have hlt : i.toNatClampNeg < N := Nat.not_le.mp fun q => hin (Or.inr q)
  exact W.lald (v := .long (f i.toNatClampNeg)) C.1 C.2.1 (hR.at hs) (zarr C.2.2.2.2.2.2.2.1 (t := 1) (by decide) N (fun j => .long (f j))) (fun q => by cases q) (by show ¬ (i < 0 ∨ (arrV _ _ _).slots.size ≤ _); rw [arrV_size]; exact hin) (by show (arrV _ _ _).slots[_]? = _; rw [arrV_read _ _ hlt]) rfl rfl (zdec C.2.2.2.2.2.2.2.2.2 h rfl).1 (kk p e s m args below meth c H locs ls C hR hf hl)
theorem zj_zald (k : Nat) {a N : Nat} {f : Nat → Int32} {i : Int32} (h : Y.rows[k]? = some (pc, .baload, q, u, v, w)) (hq : pc + 1 = q) (hs : σ a = some (.inl (2, N, .inl f))) (hin : vp_in i N) (kk : zJ E Y R fin n cells slots σ q L (.int (f i.toNatClampNeg) :: rest)) : zJ E Y R fin n cells slots σ pc L (.int i :: .ref a :: rest) := by
  intro p e s m args below meth c H locs ls C hR hf hl
  subst hq
  have hlt : i.toNatClampNeg < N := Nat.not_le.mp fun q => hin (Or.inr q)
  exact W.zald (v := .int (f i.toNatClampNeg)) C.1 C.2.1 (hR.at hs) (zarr C.2.2.2.2.2.2.2.1 (t := 2) (by decide) N (fun j => .int (f j))) (fun q => by cases q) (by show ¬ (i < 0 ∨ (arrV _ _ _).slots.size ≤ _); rw [arrV_size]; exact hin) (by show (arrV _ _ _).slots[_]? = _; rw [arrV_read _ _ hlt]) rfl rfl (zdec C.2.2.2.2.2.2.2.2.2 h rfl).1 (kk p e s m args below meth c H locs ls C hR hf hl)
theorem zj_aald (k : Nat) {a N t : Nat} {f : Nat → Option Nat} {i : Int32} {b : Nat} (h : Y.rows[k]? = some (pc, .aaload, q, u, v, w)) (hq : pc + 1 = q) (hs : σ a = some (.inl (t, N, .inr (.inr (.inr (.inr f)))))) (ht : 3 ≤ t ∧ t < 6) (hin : vp_in i N) (hb : f i.toNatClampNeg = some b) (kk : zJ E Y R fin n cells slots σ q L (.ref b :: rest)) : zJ E Y R fin n cells slots σ pc L (.int i :: .ref a :: rest) := by
  intro p e s m args below meth c H locs ls C hR hf hl
  subst hq
  have hlt : i.toNatClampNeg < N := Nat.not_le.mp fun q => hin (Or.inr q)
  have href : (zty t).isReference = true := by
    obtain ⟨t1, t2⟩ := ht
    match t, t1, t2 with
    | 3, _, _ => rfl
    | 4, _, _ => rfl
    | 5, _, _ => rfl
  exact W.aald (v := .ref b) (ty := zty t) C.1 C.2.1 (hR.at hs) (zarr C.2.2.2.2.2.2.2.1 (t := t) ht.2 N (fun j => va_rf (f j))) href (fun q => by cases q) (by show ¬ (i < 0 ∨ (arrV _ _ _).slots.size ≤ _); rw [arrV_size]; exact hin) (by show (arrV _ _ _).slots[_]? = _; rw [arrV_read _ _ hlt, hb]; rfl) rfl rfl (zdec C.2.2.2.2.2.2.2.2.2 h rfl).1 (kk p e s m args below meth c H locs ls C hR hf hl)
theorem zj_alen (k : Nat) {a t N : Nat} {f : (Nat → Int32) ⊕ (Nat → Int64) ⊕ (Nat → UInt32) ⊕ (Nat → UInt64) ⊕ (Nat → Option Nat)} (h : Y.rows[k]? = some (pc, .arraylength, q, u, v, w)) (hq : pc + 1 = q) (hs : σ a = some (.inl (t, N, f))) (ht : t < 6) (kk : zJ E Y R fin n cells slots σ q L (.int (Int32.ofNat N) :: rest)) : zJ E Y R fin n cells slots σ pc L (.ref a :: rest) := by
  intro p e s m args below meth c H locs ls C hR hf hl
  subst hq
  have hc : ∃ g : Nat → Value, vp_cell (E.cA t) (N, f) = arrV (E.cA t) N g := by
    rcases f with f | f | f | f | f
    · exact ⟨_, vp_cell_i _ _ _⟩
    · exact ⟨_, vp_cell_l _ _ _⟩
    · exact ⟨_, vp_cell_f _ _ _⟩
    · exact ⟨_, vp_cell_d _ _ _⟩
    · exact ⟨_, vp_cell_q _ _ _⟩
  obtain ⟨g, hg⟩ := hc
  have hcell : H[a]? = some (arrV (E.cA t) N g) := by rw [← hg]; exact hR.at hs
  exact W.alen (n := Int32.ofNat N) C.1 C.2.1 hcell (zarr C.2.2.2.2.2.2.2.1 ht N g) (by rw [arrV_size] <;> rfl) rfl rfl (zdec C.2.2.2.2.2.2.2.2.2 h rfl).1 (kk p e s m args below meth c H locs ls C hR hf hl)
theorem zj_iast (k : Nat) {a N : Nat} {f : Nat → Int32} {i x : Int32} (h : Y.rows[k]? = some (pc, .iastore, q, u, v, w)) (hq : pc + 1 = q) (hs : σ a = some (.inl (0, N, .inl f))) (hin : vp_in i N) (kk : zJ E Y R fin n cells slots (zup σ a (.inl (0, N, .inl (va_up f i.toNatClampNeg x)))) q L rest) : zJ E Y R fin n cells slots σ pc L (.int x :: .int i :: .ref a :: rest) := by
  intro p e s m args below meth c H locs ls C hR hf hl
  subst hq
  refine W.iast C.1 C.2.1 (hR.at hs) (zarr C.2.2.2.2.2.2.2.1 (t := 0) (by decide) N (fun j => .int (f j))) (fun q => by cases q) (by show ¬ (i < 0 ∨ (arrV _ _ _).slots.size ≤ _); rw [arrV_size]; exact hin) rfl rfl (zdec C.2.2.2.2.2.2.2.2.2 h rfl).1 (fun H' e1 e2 e3 => ?_)
  refine kk p e s m args below meth c H' _ ls C (hR.put hs e2 e3 ?_) (fun l hl' => ?_) hl
  · show H'[a]? = some (vp_cell _ _)
    rw [e1]
    show some ((arrV (E.cA 0) N (fun j => .int (f j))).setSlot i.toNatClampNeg (.int x)) = some (arrV (E.cA 0) N (fun j => .int (va_up f i.toNatClampNeg x j)))
    rw [arrV_store]
    congr 2
    funext j
    by_cases hj : j = i.toNatClampNeg <;> simp [updV, va_up, hj]
  · rcases List.mem_append.mp hl' with h' | h'
    · exact hf l h'
    · rw [List.mem_singleton.mp h']; exact (hR.2.2 a _ hs).1
theorem zj_last (k : Nat) {a N : Nat} {f : Nat → Int64} {i : Int32} {x : Int64} (h : Y.rows[k]? = some (pc, .lastore, q, u, v, w)) (hq : pc + 1 = q) (hs : σ a = some (.inl (1, N, .inr (.inl f)))) (hin : vp_in i N) (kk : zJ E Y R fin n cells slots (zup σ a (.inl (1, N, .inr (.inl (va_up f i.toNatClampNeg x))))) q L rest) : zJ E Y R fin n cells slots σ pc L (.long x :: .int i :: .ref a :: rest) := by
  intro p e s m args below meth c H locs ls C hR hf hl
  subst hq
  refine W.last C.1 C.2.1 (hR.at hs) (zarr C.2.2.2.2.2.2.2.1 (t := 1) (by decide) N (fun j => .long (f j))) (fun q => by cases q) (by show ¬ (i < 0 ∨ (arrV _ _ _).slots.size ≤ _); rw [arrV_size]; exact hin) rfl rfl (zdec C.2.2.2.2.2.2.2.2.2 h rfl).1 (fun H' e1 e2 e3 => ?_)
  refine kk p e s m args below meth c H' _ ls C (hR.put hs e2 e3 ?_) (fun l hl' => ?_) hl
  · show H'[a]? = some (vp_cell _ _)
    rw [e1]
    show some ((arrV (E.cA 1) N (fun j => .long (f j))).setSlot i.toNatClampNeg (.long x)) = some (arrV (E.cA 1) N (fun j => .long (va_up f i.toNatClampNeg x j)))
    rw [arrV_store]
    congr 2
    funext j
    by_cases hj : j = i.toNatClampNeg <;> simp [updV, va_up, hj]
  · rcases List.mem_append.mp hl' with h' | h'
    · exact hf l h'
    · rw [List.mem_singleton.mp h']; exact (hR.2.2 a _ hs).1
theorem zj_zast (k : Nat) {a N : Nat} {f : Nat → Int32} {i x : Int32} (h : Y.rows[k]? = some (pc, .bastore, q, u, v, w)) (hq : pc + 1 = q) (hs : σ a = some (.inl (2, N, .inl f))) (hin : vp_in i N) (hx : narrow .boolean (.int x) = .int x) (kk : zJ E Y R fin n cells slots (zup σ a (.inl (2, N, .inl (va_up f i.toNatClampNeg x)))) q L rest) : zJ E Y R fin n cells slots σ pc L (.int x :: .int i :: .ref a :: rest) := by
  intro p e s m args below meth c H locs ls C hR hf hl
  subst hq
  refine W.zast C.1 C.2.1 (hR.at hs) (zarr C.2.2.2.2.2.2.2.1 (t := 2) (by decide) N (fun j => .int (f j))) (fun q => by cases q) (by show ¬ (i < 0 ∨ (arrV _ _ _).slots.size ≤ _); rw [arrV_size]; exact hin) rfl rfl (zdec C.2.2.2.2.2.2.2.2.2 h rfl).1 (fun H' e1 e2 e3 => ?_)
  refine kk p e s m args below meth c H' _ ls C (hR.put hs e2 e3 ?_) (fun l hl' => ?_) hl
  · show H'[a]? = some (vp_cell _ _)
    rw [e1, hx]
    show some ((arrV (E.cA 2) N (fun j => .int (f j))).setSlot i.toNatClampNeg (.int x)) = some (arrV (E.cA 2) N (fun j => .int (va_up f i.toNatClampNeg x j)))
    rw [arrV_store]
    congr 2
    funext j
    by_cases hj : j = i.toNatClampNeg <;> simp [updV, va_up, hj]
  · rcases List.mem_append.mp hl' with h' | h'
    · exact hf l h'
    · rw [List.mem_singleton.mp h']; exact (hR.2.2 a _ hs).1
/-! the script and the two tables of steps -/
theorem zj_sald (k : Nat) {i : Int32} (h : Y.rows[k]? = some (pc, .iaload, q, u, v, w)) (hq : pc + 1 = q) (hin : vp_in i E.L) (kk : zJ E Y R fin n cells slots σ q L (.int (E.xs i.toNatClampNeg) :: rest)) : zJ E Y R fin n cells slots σ pc L (.int i :: .ref E.b :: rest) := by
  intro p e s m args below meth c H locs ls C hR hf hl
  subst hq
  have hlt : i.toNatClampNeg < E.L := Nat.not_le.mp fun q => hin (Or.inr q)
  obtain ⟨⟨scr, h1, h2, h3, h4, h5⟩, hb, -⟩ := C.2.2.2.2.2.2.2.1.2.2.2
  exact W.iald (v := .int (E.xs i.toNatClampNeg)) C.1 C.2.1 ((hR.2.1 _ hb).trans h1) h2 h3 (by rw [h4]; exact hin) (h5 _ hlt) rfl rfl (zdec C.2.2.2.2.2.2.2.2.2 h rfl).1 (kk p e s m args below meth c H locs ls C hR hf hl)
theorem zj_slen (k : Nat) (h : Y.rows[k]? = some (pc, .arraylength, q, u, v, w)) (hq : pc + 1 = q) (kk : zJ E Y R fin n cells slots σ q L (.int (Int32.ofNat E.L) :: rest)) : zJ E Y R fin n cells slots σ pc L (.ref E.b :: rest) := by
  intro p e s m args below meth c H locs ls C hR hf hl
  subst hq
  obtain ⟨⟨scr, h1, h2, h3, h4, h5⟩, hb, -⟩ := C.2.2.2.2.2.2.2.1.2.2.2
  exact W.alen (n := Int32.ofNat E.L) C.1 C.2.1 ((hR.2.1 _ hb).trans h1) h2 (by rw [h4] <;> rfl) rfl rfl (zdec C.2.2.2.2.2.2.2.2.2 h rfl).1 (kk p e s m args below meth c H locs ls C hR hf hl)
theorem zj_tald1 (k : Nat) {i : Int32} (h : Y.rows[k]? = some (pc, .iaload, q, u, v, w)) (hq : pc + 1 = q) (hin : vp_in i 5) (kk : zJ E Y R fin n cells slots σ q L (.int (zrs i.toNatClampNeg) :: rest)) : zJ E Y R fin n cells slots σ pc L (.int i :: .ref E.t1 :: rest) := by
  intro p e s m args below meth c H locs ls C hR hf hl
  subst hq
  have hlt : i.toNatClampNeg < 5 := Nat.not_le.mp fun q => hin (Or.inr q)
  obtain ⟨-, -, ⟨-, cell, h1, h2, h3, h4, h5, h6, h7⟩, -⟩ := C.2.2.2.2.2.2.2.1.2.2.2
  exact W.iald (v := .int (zrs i.toNatClampNeg)) C.1 C.2.1 ((hR.2.1 _ (Nat.not_le.mp h7)).trans h1) h2 h3 (fun hh => hin (hh.imp id fun g => by omega)) (h6 _ hlt) rfl rfl (zdec C.2.2.2.2.2.2.2.2.2 h rfl).1 (kk p e s m args below meth c H locs ls C hR hf hl)
theorem zj_tald2 (k : Nat) {i : Int32} (h : Y.rows[k]? = some (pc, .iaload, q, u, v, w)) (hq : pc + 1 = q) (hin : vp_in i 5) (kk : zJ E Y R fin n cells slots σ q L (.int (zcs i.toNatClampNeg) :: rest)) : zJ E Y R fin n cells slots σ pc L (.int i :: .ref E.t2 :: rest) := by
  intro p e s m args below meth c H locs ls C hR hf hl
  subst hq
  have hlt : i.toNatClampNeg < 5 := Nat.not_le.mp fun q => hin (Or.inr q)
  obtain ⟨-, -, -, -, cell, h1, h2, h3, h4, h5, h6, h7⟩ := C.2.2.2.2.2.2.2.1.2.2.2
  exact W.iald (v := .int (zcs i.toNatClampNeg)) C.1 C.2.1 ((hR.2.1 _ (Nat.not_le.mp h7)).trans h1) h2 h3 (fun hh => hin (hh.imp id fun g => by omega)) (h6 _ hlt) rfl rfl (zdec C.2.2.2.2.2.2.2.2.2 h rfl).1 (kk p e s m args below meth c H locs ls C hR hf hl)
theorem zj_gets1 (k : Nat) (h : Y.rows[k]? = some (pc, .getstatic 38, q, u, v, w)) (hq : pc + 3 = q) (ho : Y.oc = 4) (kk : zJ E Y R fin n cells slots σ q L (.ref E.t1 :: rest)) : zJ E Y R fin n cells slots σ pc L rest := by
  intro p e s m args below meth c H locs ls C hR hf hl
  subst hq
  obtain ⟨-, -, ⟨⟨cf, kf, fi, f, a, cell, h1, h2, h3, h4, h5, h6, h7, h8⟩, -⟩, -⟩ := C.2.2.2.2.2.2.2.1.2.2.2
  have hlink := C.2.2.2.2.2.2.1 (.fieldLink "DiscLines$Picture" 38 "DiscLines$Picture" "ROW_STEPS" "[I") (zt 372 (by decide +kernel) rfl)
  have hown := C.2.2.2.2.2.1
  rw [ho] at hown
  exact W.gets C.1 C.2.1 hown hlink h1 h2 h3 h4 ((hR.2.1 _ (Nat.not_le.mp h8)).trans h5) (fun e => by rw [e] at h6; cases h6) h7 rfl (zdec C.2.2.2.2.2.2.2.2.2 h rfl).1 (kk p e s m args below meth c H locs ls C hR hf hl)
theorem zj_gets2 (k : Nat) (h : Y.rows[k]? = some (pc, .getstatic 41, q, u, v, w)) (hq : pc + 3 = q) (ho : Y.oc = 4) (kk : zJ E Y R fin n cells slots σ q L (.ref E.t2 :: rest)) : zJ E Y R fin n cells slots σ pc L rest := by
  intro p e s m args below meth c H locs ls C hR hf hl
  subst hq
  obtain ⟨-, -, -, ⟨cf, kf, fi, f, a, cell, h1, h2, h3, h4, h5, h6, h7, h8⟩, -⟩ := C.2.2.2.2.2.2.2.1.2.2.2
  have hlink := C.2.2.2.2.2.2.1 (.fieldLink "DiscLines$Picture" 41 "DiscLines$Picture" "COLUMN_STEPS" "[I") (zt 374 (by decide +kernel) rfl)
  have hown := C.2.2.2.2.2.1
  rw [ho] at hown
  exact W.gets C.1 C.2.1 hown hlink h1 h2 h3 h4 ((hR.2.1 _ (Nat.not_le.mp h8)).trans h5) (fun e => by rw [e] at h6; cases h6) h7 rfl (zdec C.2.2.2.2.2.2.2.2.2 h rfl).1 (kk p e s m args below meth c H locs ls C hR hf hl)
end
