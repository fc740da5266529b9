/-! rows that make: objects, arrays; final fields; Object's constructor; the script -/
section
variable {E : zE} {Y Yc : zY} {R : Room} {fin : zF} {n cells slots : Nat} {σ : zH} {pc q u v : Nat} {w : Int} {L : List (Option Value)} {rest : List Value}
theorem zR.push {H H' : Heap} (h : zR E n σ H) (hz : E.z ≤ n) {e : va_E} (z1 : H'.size = n + 1) (o1 : ∀ q, q < n → H'[q]? = H[q]?) (ha : va_at E.D zcl (n, zve E e) H') : zR E (n + 1) (zup σ n e) H' := by
  refine ⟨z1, fun q hq => (o1 q (by omega)).trans (h.2.1 q hq), fun a f hf => ?_⟩
  by_cases hqa : a = n
  · subst hqa
    rw [zup_eq] at hf
    cases hf
    exact ⟨hz, ha⟩
  · rw [zup_ne hqa] at hf
    have hlt : a < H.size := (h.2.2 a f hf).2.lt
    exact ⟨(h.2.2 a f hf).1, (h.2.2 a f hf).2.kept (o1 a (by rw [← h.1]; exact hlt))⟩
theorem zj_new (k : Nat) {idx ci N : Nat} (fs : List Value) (h : Y.rows[k]? = some (pc, .new idx, q, u, v, w)) (hq : pc + 3 = q) (hci : ci < 9) (hN : zNN ci = N) (hcl : Cond.classLink (zcn Y.oc) idx (zcn ci) ∈ zTbl) (hinst : Cond.instantiable (zcn ci) (zNN ci) ∈ zTbl) (hini : Cond.initialized (zcn ci) ∈ zTbl) (hfs : ∀ j, j < zNN ci → defaultValue (zYY ci j) = vp_V fs j) (hz : E.z ≤ n) (hcells : (cells + 1).ble R.cells = true) (hslots : (slots + N).ble R.slots = true)
    (kk : zJ E Y R fin (n + 1) (cells + 1) (slots + N) (zup σ n (.inr (ci, fs))) q L (.ref n :: rest)) : zJ E Y R fin n cells slots σ pc L rest := by
  intro p e s m args below meth c H locs ls C hR hf hl
  subst hq
  subst hN
  have hts := C.2.2.2.2.2.2.1
  have hK := C.2.2.2.2.2.2.2.1.1
  have hKn := hK.1 ci _ (zcl_at hci)
  refine W.newcK C.1 C.2.1 C.2.2.2.2.2.1 (hts _ hcl) (hts _ hinst) (hts _ hini) rfl (zdec C.2.2.2.2.2.2.2.2.2 h rfl).1 (Nat.le_of_ble_eq_true hcells) (Nat.le_of_ble_eq_true hslots) hKn.2.1 (h := n) hR.1 fun H1 kC hkC e1 z1 o1 => ?_
  exact kk p e s m args below meth c H1 locs ls C (hR.push hz z1 o1 ⟨_, zcl_at hci, (u_born (zYY ci) hts (zws_at hci) hKn hkC e1 (zqq_at hci)).to hfs⟩) hf hl
theorem zj_newa (k : Nat) {at0 : ArrayType} (t N : Nat) {a0 : (Nat → Int32) ⊕ (Nat → Int64) ⊕ (Nat → UInt32) ⊕ (Nat → UInt64) ⊕ (Nat → Option Nat)} {x : Int32} (h : Y.rows[k]? = some (pc, .newarray at0, q, u, v, w)) (hq : pc + 2 = q) (hty : newarray.typeOf at0 = zty t) (ht : t < 3) (harr : Cond.arrayClass (zty t) ∈ zTbl) (ha : ∀ cA : ClassId, vp_cell cA (N, a0) = arrV cA N (fun _ => defaultValue (zty t))) (hx : x = nI N) (hN : N < 100000) (hb : componentBytes (zty t) ≤ 8) (hz : E.z ≤ n) (hcells : (cells + 1).ble R.cells = true) (hslots : (slots + N).ble R.slots = true)
    (kk : zJ E Y R fin (n + 1) (cells + 1) (slots + N) (zup σ n (.inl (t, N, a0))) q L (.ref n :: rest)) : zJ E Y R fin n cells slots σ pc L (.int x :: rest) := by
  intro p e s m args below meth c H locs ls C hR hf hl
  subst hq
  subst hx
  have hts := C.2.2.2.2.2.2.1
  have hK := C.2.2.2.2.2.2.2.1.1
  have hcl : (nI N).toNatClampNeg = N := nI_clamp (by omega)
  refine va_newaK C.1 C.2.1 (atype := at0) (hts _ (by rw [hty]; exact harr)) rfl (zdec C.2.2.2.2.2.2.2.2.2 h rfl).1 rfl (nI_pos (by omega)) hcl (by rw [hty]; exact Nat.le_trans (Nat.mul_le_mul (Nat.le_of_lt hN) hb) (by decide)) (Nat.le_of_ble_eq_true hcells) (Nat.le_of_ble_eq_true hslots) (h := n) hR.1 fun H1 cA e1 z1 o1 hAr hNm => ?_
  rw [hty] at e1 hNm
  have hRA := (hK.2 t _ (ztys_at E (by omega))).2
  have hc : cA = E.cA t := by
    have : s.vm.findClass ("[" ++ (zty t).toString) = some (E.cA t) := by
      match t, ht with
      | 0, _ => exact hRA
      | 1, _ => exact hRA
      | 2, _ => exact hRA
    exact Option.some.inj (hNm.symm.trans this)
  subst hc
  refine kk p e s m args below meth c H1 locs ls C (hR.push hz z1 o1 ?_) hf hl
  show H1[n]? = some (vp_cell (E.cA t) (N, a0))
  rw [ha]; exact e1
theorem zj_anewa (k : Nat) {idx : Nat} (t N : Nat) {Cn : String} {x : Int32} (h : Y.rows[k]? = some (pc, .anewarray idx, q, u, v, w)) (hq : pc + 3 = q) (hty : zty t = .object Cn) (ht : 3 ≤ t ∧ t < 6) (hcl : Cond.classLink (zcn Y.oc) idx Cn ∈ zTbl) (hx : x = nI N) (hN : N < 100000) (hz : E.z ≤ n) (hcells : (cells + 1).ble R.cells = true) (hslots : (slots + N).ble R.slots = true)
    (kk : zJ E Y R fin (n + 1) (cells + 1) (slots + N) (zup σ n (.inl (t, N, .inr (.inr (.inr (.inr (fun _ => none))))))) q L (.ref n :: rest)) : zJ E Y R fin n cells slots σ pc L (.int x :: rest) := by
  intro p e s m args below meth c H locs ls C hR hf hl
  subst hq
  subst hx
  have hts := C.2.2.2.2.2.2.1
  have hKK := C.2.2.2.2.2.2.2.1
  have hK := hKK.1
  have hclp : (nI N).toNatClampNeg = N := nI_clamp (by omega)
  refine W.anew C.1 C.2.1 C.2.2.2.2.2.1 (hts _ hcl) (va_AO.use (hKK.2.2.1 t ht.1 ht.2 Cn hty)) rfl (zdec C.2.2.2.2.2.2.2.2.2 h rfl).1 rfl (nI_pos (by omega)) (by rw [hclp]; omega) (Nat.le_of_ble_eq_true hcells) (by rw [hclp]; exact Nat.le_of_ble_eq_true hslots) fun cA kA comp f1 f2 f3 f4 => ?_
  have hRA := (hK.2 t _ (ztys_at E ht.2)).2
  rw [hty] at hRA
  obtain ⟨kA', comp', g1, g2, g3, g4⟩ := hRA
  have hc : cA = E.cA t := Option.some.inj (f1.symm.trans g4)
  subst hc
  rw [hclp, hR.1]
  refine kk p e s m args below meth c _ locs ls C (hR.push hz ?_ ?_ ?_) hf hl
  · rw [Array.size_push, hR.1]
  · intro q hq
    rw [Array.getElem?_push, if_neg (by rw [hR.1]; omega)]
  · show (H.push _)[n]? = some (vp_cell (E.cA t) (N, .inr (.inr (.inr (.inr (fun _ => none))))))
    rw [← hR.1, Array.getElem?_push_size, vp_cell_q, arrV_new]
    rfl
theorem zj_aast (k : Nat) {a N t ci b : Nat} {f : Nat → Option Nat} {fs : List Value} (j : Nat) {i : Int32} (h : Y.rows[k]? = some (pc, .aastore, q, u, v, w)) (hq : pc + 1 = q) (hs : σ a = some (.inl (t, N, .inr (.inr (.inr (.inr f)))))) (hb : σ b = some (.inr (ci, fs))) (ht : 3 ≤ t ∧ t < 6) (hci : ci < 9) (hty : zty t = .object (zcn ci)) (hi : i = nI j) (hj : j < N) (hN : N < 2 ^ 31)
    (kk : zJ E Y R fin n cells slots (zup σ a (.inl (t, N, .inr (.inr (.inr (.inr (va_up f j (some b)))))))) q L rest) : zJ E Y R fin n cells slots σ pc L (.ref b :: .int i :: .ref a :: rest) := by
  intro p e s m args below meth c H locs ls C hR hf hl
  subst hq
  subst hi
  have hin : vp_in (nI j) N := vp_in_nI hj hN
  have hcj : (nI j).toNatClampNeg = j := nI_clamp (by omega)
  have hK := C.2.2.2.2.2.2.2.1.1
  obtain ⟨r', hr', cellV, g1, g2, g3, -⟩ := hR.at hb
  have hcls := (hK.1 ci _ (zcl_at hci)).2
  have hRA := (hK.2 t _ (ztys_at E ht.2)).2
  rw [hty] at hRA
  obtain ⟨kA, comp, k1, k2, k3, -⟩ := hRA
  have hcomp : comp = E.D.1 ci := Option.some.inj (k3.symm.trans hcls.1)
  subst hcomp
  obtain ⟨kC, hkC, -⟩ := hcls.2
  refine W.aast C.1 C.2.1 (hR.at hs) (fun q h => by cases h) (fun h => by cases h) k1 k2 rfl hkC ⟨fun q => hin (Or.inl q), by show _ < (arrV _ _ _).slots.size; rw [arrV_size, hcj]; exact hj⟩ g1 (fun q h => by rw [g3] at h; cases h) (by rw [g2]; exact hkC) (by rw [g2]; exact va_assign hcls) rfl rfl (zdec C.2.2.2.2.2.2.2.2.2 h rfl).1 fun H1 e1 z1 oq => ?_
  refine kk p e s m args below meth c H1 _ ls C (hR.put hs z1 oq ?_) (fun l hl' => ?_) hl
  · show H1[a]? = some (vp_cell _ _)
    rw [e1, hcj]
    show some ((vp_cell (E.cA t) (N, .inr (.inr (.inr (.inr f))))).setSlot j (.ref b)) = _
    rw [vp_cell_q, vp_cell_q, arrV_store]
    congr 2
    funext q
    by_cases hq : q = j
    · subst hq
      simp [updV, va_up, va_rf]
    · simp [updV, va_up, hq]
  · rcases List.mem_append.mp hl' with h' | h'
    · exact hf l h'
    · rw [List.mem_singleton.mp h']; exact (hR.2.2 a _ hs).1
theorem zj_putF (k : Nat) {idx a : Nat} {fs : List Value} {x : Value} (h : Y.rows[k]? = some (pc, .putfield idx, q, u, v, w)) (hq : pc + 3 = q) (hs : σ a = some (.inr (u, fs))) (hfin : (zTT u v).2.2.2 = true) (hnm : Y.nm.name = "<init>") (hdecl : (zTT u v).1 = zcn Y.oc) (hn : narrow (zYY u v) x = x) (hfit : fits (zYY u v) x = true) (hl0 : v.blt fs.length = true) {σ' : zH} (hw : zup σ a (.inr (u, fs.set v x)) = σ') (kk : zJ E Y R fin n cells slots σ' q L rest) : zJ E Y R fin n cells slots σ pc L (x :: .ref a :: rest) := by
  subst hw
  intro p e s m args below meth c H locs ls C hR hf hl
  subst hq
  have h1 := zdec C.2.2.2.2.2.2.2.2.2 h rfl
  obtain ⟨g1, g2, g3⟩ := zaux_f h1.2
  have hK := C.2.2.2.2.2.2.2.1.1
  have hts := C.2.2.2.2.2.2.1
  have hown := C.2.2.2.2.2.1
  have hap := va_apart (own := zcn Y.oc) hts (zws_at g2) (zYY u) (zqq_at g2) (znn_at g2) hK (zcl_at g2)
  obtain ⟨r, hr1, cell, q1, q2, q3, q4⟩ := hR.at hs
  have hr : r = (zcn u, zTT u, zNN u) := Option.some.inj (hr1.symm.trans (zcl_at g2))
  subst hr
  obtain ⟨hS, hfc, kC, hkC, hkind⟩ := hK.1 u _ (zcl_at g2)
  obtain ⟨cf, kf, fi, f, hi, hsl⟩ := hS v g3
  have hlay := hts _ (zws_at g2 _ (u_in_lay g3))
  unfold u_lay at hlay
  rw [if_pos hfin] at hlay
  have hst := (u_facts hfc hkC (u_lays hts (zws_at g2) g3) hi).1
  have hcf : m.cls = cf := by
    obtain ⟨_, _, c', _, _, _, -, -, hf', -, -, -, hown2, -⟩ := Cond.laysFinal_spec hlay
    have e1 : c' = cf := by have := hi.symm.trans hf'; simp at this; exact this.1.symm
    rw [hdecl] at hown2
    rw [← e1]; exact Option.some.inj (hown.symm.trans hown2)
  have h6 := u_fits hfc hkC hkind (Or.inr hlay) hi (zqq_at g2 v g3) hn hfit
  have hl1 : v < fs.length := Nat.le_of_ble_eq_true hl0
  refine W.putFinK C.1 C.2.1 hown (hts _ g1) hi hst hcf (C.2.2.2.2.2.2.2.2.1.trans hnm) (by rw [q2]; exact h6) q1 q3 (by rw [hsl]; exact k2_hasslot (q4 v g3)) rfl rfl h1.1 fun H' e1 e2 e3 => ?_
  rw [hsl] at e1 ⊢
  refine kk p e s m args below meth c H' _ ls C (hR.put hs e2 e3 ⟨_, zcl_at g2, t_OB.to (V := updV (vp_V fs) v x) ⟨_, e1, q2, q3, t_set q4 hap g3 x⟩ (fun j _ => vp_updV_set hl1 x j)⟩) (fun l hl' => ?_) hl
  rcases List.mem_append.mp hl' with h' | h'
  · exact hf l h'
  · rw [List.mem_singleton.mp h']; exact (hR.2.2 a _ hs).1
theorem zj_oinit (k : Nat) {idx a : Nat} (h : Y.rows[k]? = some (pc, .invokespecial idx, q, u, v, w)) (hq : pc + 3 = q) (hlk : Cond.methodLink (zcn Y.oc) idx Lib.objectInit ∈ zTbl) (hin : Cond.instanceMethod Lib.objectInit ∈ zTbl) (hco : Cond.code Lib.objectInit ⟨#[0xb1]⟩ 1 none ∈ zTbl) (hfr : (1).ble R.frames = true) (hlo : ((rest.map fun v => v.category).sum + 12).ble R.locals = true) (kk : zJ E Y R fin n cells slots σ q L rest) : zJ E Y R fin n cells slots σ pc L (.ref a :: rest) := by
  intro p e s m args below meth c H locs ls C hR hf hl
  subst hq
  have hts := C.2.2.2.2.2.2.1
  refine W.objInit C.1 C.2.1 C.2.2.2.2.2.1 (hts _ hlk) (hts _ hin) (hts _ hco) rfl (by rw [C.2.2.1]; exact hl.1) rfl (zdec C.2.2.2.2.2.2.2.2.2 h rfl).1 (Nat.le_of_ble_eq_true hfr) ?_ (kk p e s m args below meth c H locs ls C hR hf hl)
  have := Nat.le_of_ble_eq_true hlo
  show 2 * 0 + _ + 12 ≤ _
  omega
theorem zj_sld (k : Nat) (j : Nat) {i : Int32} (h : Y.rows[k]? = some (pc, .iaload, q, u, v, w)) (hq : pc + 1 = q) (hi : i = nI j) (hj : j < E.L) (hL : E.L < 2 ^ 31) (kk : zJ E Y R fin n cells slots σ q L (.int (E.xs j) :: rest)) : zJ E Y R fin n cells slots σ pc L (.int i :: .ref E.b :: rest) := by
  intro p e s m args below meth c H locs ls C hR hf hl
  subst hq
  subst hi
  obtain ⟨⟨scr, h1, h2, h3, h4, h5⟩, hb, -⟩ := C.2.2.2.2.2.2.2.1.2.2.2
  have hin : vp_in (nI j) E.L := vp_in_nI hj hL
  have hcj : (nI j).toNatClampNeg = j := nI_clamp (by omega)
  exact W.iald (v := .int (E.xs j)) C.1 C.2.1 (by rw [hR.2.1 _ hb]; exact h1) h2 h3 (by rw [h4]; exact hin) (by rw [hcj]; exact h5 _ hj) rfl rfl (zdec C.2.2.2.2.2.2.2.2.2 h rfl).1 (kk p e s m args below meth c H locs ls C hR hf hl)
end
