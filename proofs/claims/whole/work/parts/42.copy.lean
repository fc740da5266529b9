/-! the component: rows copied -/
section
variable {E : zE} {Y : zY} {R : Room} {fin : zF} {n cells slots : Nat} {σ : zH} {pc q u v idx : Nat} {w : Int} {L : List (Option Value)} {rest : List Value}
theorem zj_copy (k : Nat) {a0 a N : Nat} {f g : Nat → Int32} (h : Y.rows[k]? = some (pc, .invokestatic idx, q, u, v, w)) (hq : pc + 3 = q) (lk : Cond.methodLink (zcn Y.oc) idx arraycopyName ∈ zTbl) (l1 : Cond.native arraycopyName ∈ zTbl) (l2 : Cond.static arraycopyName ∈ zTbl) (l3 : Cond.initialized "java/lang/System" ∈ zTbl)
    (hs0 : σ a0 = some (.inl (0, N, .inl f))) (hs : σ a = some (.inl (0, N, .inl g))) (hN : N < 2 ^ 31) (hfr : (1).ble R.frames = true) (hrest : ((rest.map Value.category).sum + (nativeFrameWords "java/lang/System" "arraycopy" 5 + 11)).ble R.locals = true)
    (kk : zJ E Y R fin n cells slots (zup σ a (.inl (0, N, .inl (va_cpy f g 0 0 N)))) q L rest) : zJ E Y R fin n cells slots σ pc L (.int (nI N) :: .int 0 :: .ref a :: .int 0 :: .ref a0 :: rest) := by
  intro p e s m args below meth c H locs ls C hR hf hl
  subst hq
  have hts := C.2.2.2.2.2.2.1
  have hK := C.2.2.2.2.2.2.2.1
  have hd := (zdec C.2.2.2.2.2.2.2.2.2 h rfl).1
  have hc0 : H[a0]? = some (vp_cell (E.cA 0) (N, .inl f)) := hR.at hs0
  have hc1 : H[a]? = some (vp_cell (E.cA 0) (N, .inl g)) := hR.at hs
  have hcl : (nI N).toNatClampNeg = N := nI_clamp (by omega)
  have hti : (nI N).toInt = (N : Int) := nI_toInt (by omega)
  intro T hT X
  obtain ⟨-, k0, hk0, cm0, hkk0⟩ := (hK.1.2 0 _ (ztys_at E (by decide))).1 N (fun j => .int (f j))
  obtain ⟨-, k1, hk1, cm1, hkk1⟩ := (hK.1.2 0 _ (ztys_at E (by decide))).1 N (fun j => .int (g j))
  obtain ⟨vm', X', step⟩ := X.arraycopy C.1 C.2.2.2.2.2.1 (hts _ lk) (hts _ l1) (hts _ l2) (hts _ l3) (src := a0) (dst := a) (cs := vp_cell (E.cA 0) (N, .inl f)) (cd := vp_cell (E.cA 0) (N, .inl g)) (srcPos := 0) (destPos := 0) (n := nI N) (by rw [hT]; exact hc0) (by rw [hT]; exact hc1)
    (fun _ h => by cases h) (fun _ h => by cases h) (fun h => by cases h) (fun h => by cases h) hk0 hk1 hkk0 hkk1 (by simp [zty, refKind]) (by decide) (by decide) (nI_pos (by omega))
    (by rw [hti]; show ¬ _ > ((arrV (E.cA 0) N (fun j => .int (f j))).slots.size : Int); rw [arrV_size]; simp)
    (by rw [hti]; show ¬ _ > ((arrV (E.cA 0) N (fun j => .int (g j))).slots.size : Int); rw [arrV_size]; simp)
    (fun vm₁ _ i hi => by
      rw [hcl] at hi
      have e : (vp_cell (E.cA 0) (N, .inl f)).slots.getD ((0 : Int32).toNatClampNeg + i) .null = .int (f ((0 : Int32).toNatClampNeg + i)) := by
        show (arrV (E.cA 0) N (fun j => .int (f j))).slots.getD _ _ = _
        rw [Array.getD_eq_getD_getElem?, arrV_read _ _ (by show 0 + i < N; omega)]
        rfl
      rw [e]
      exact ⟨rfl, trivial⟩)
    (g := F0 m pc ls (.int (nI N) :: .int 0 :: .ref a :: .int 0 :: .ref a0 :: rest)) rfl (by rw [C.2.2.1]; exact hl.1) (rest := rest) rfl (by rw [C.2.1]; exact hd) (Nat.le_of_ble_eq_true hfr) (by have := Nat.le_of_ble_eq_true hrest; show 2 * 0 + _ + _ ≤ _; simpa using this)
  have e1 : copied (vp_cell (E.cA 0) (N, .inl f)) (vp_cell (E.cA 0) (N, .inl g)) 0 0 (nI N) = vp_cell (E.cA 0) (N, .inl (va_cpy f g 0 0 N)) := by
    have := va_copied (fun z => Value.int z) (E.cA 0) (E.cA 0) (n0 := N) (n1 := N) (sp := 0) (dp := 0) (n := N) f g (by omega)
    unfold copied
    rw [hcl]
    exact this
  rw [e1] at X' step
  have hlt : a < H.size := (Array.getElem?_eq_some_iff.mp hc1).1
  have hheap : ((T.setVm vm').setCell a (vp_cell (E.cA 0) (N, .inl (va_cpy f g 0 0 N)))).heap = H.setIfInBounds a (vp_cell (E.cA 0) (N, .inl (va_cpy f g 0 0 N))) := by rw [← hT]; rfl
  obtain ⟨t, a1, b1⟩ := kk p e s m args below meth c _ _ ls C (hR.put hs (by simp) (fun q hq => by simp [Array.getElem?_setIfInBounds, Ne.symm hq]) (show (H.setIfInBounds a _)[a]? = some _ by simp [Array.getElem?_setIfInBounds, hlt])) (fun l hl' => by
      rcases List.mem_append.mp hl' with h' | h'
      · exact hf l h'
      · obtain ⟨z, -, hz⟩ := List.mem_map.mp h'
        rw [← hz]
        exact (hR.2.2 a _ hs).1) hl _ hheap X'
  exact ⟨t, step t a1, b1⟩
end
