/-! the law, from its entry -/
theorem zarr_i {s : State} {args : Array Value} {ty : FieldType} (h : (Cond.arrayClass ty).before args s = true) : ∃ cA, ArrOfT s cA ty ∧ s.vm.findClass ("[" ++ ty.toString) = some cA := by
  obtain ⟨c, k, comp, h1, h2, h3⟩ := Cond.arrayClass_spec h
  exact ⟨c, fun n z => ⟨fun k h => (by cases h), k, h2, comp, h3⟩, h1⟩
theorem zarr_o {s : State} {args : Array Value} {C : String} (h : (Cond.arrayOver (.object C)).before args s = true) : ∃ cA, ArrOfT s cA (.object C) ∧ va_RA s cA (.object C) := by
  obtain ⟨comp, c, k, h1, h2, h3, h4, h5⟩ := Cond.arrayOver_spec h
  exact ⟨c, fun N z => ⟨(fun k h => by cases h), k, h3, comp, h4⟩, k, comp, h3, h4, h1, h5⟩
theorem law_start {nm : String} {E : zE} (hL : E.L ≤ 3584) : zJ E (YLw nm) room_1 (finL E) E.z 0 0 (fun _ => none) 0 (zen 4 [.ref E.b]) [] := by
  refine zj_newG (ci := 7) (m := E.z) (m' := E.z + 1) 0 [.null, .null, .null, .null, .null, .long 0, .long 0] rfl rfl (by decide) rfl (show Cond.classLink "DiscLinesLaw" 7 "DiscLines" ∈ zTbl from (zt 85 (by decide +kernel) rfl)) (zt 86 (by decide +kernel) rfl) (zt 71 (by decide +kernel) rfl) zdf7 rfl rfl (by omega) rfl rfl (fun τ z h1 => ?_)
  refine zj_dup 1 rfl rfl rfl ?_
  refine zj_cC (n' := E.z + 134) 2 rfl rfl lk_10_9 ckD_init (c_D (b := E.z) h1 (Nat.le_refl _)) rfl rfl (fun τ hP => ?_)
  obtain ⟨z2, hD⟩ := hP
  refine zj_astore_n 3 rfl rfl ?_
  refine zj_newG (ci := 8) (m := E.z + 134) (m' := E.z + 135) 4 [.null, .null, .null, .long 0, .long 0, .null, .null, .null, .int 0, .null, .int 0, .int 0, .null, .int 0, .int 0, .int 0, .null, .null, .int 0, .null, .long 0] rfl rfl (by decide) rfl (show Cond.classLink "DiscLinesLaw" 10 "DiscLinesModel" ∈ zTbl from (zt 829 (by decide +kernel) rfl)) (zt 830 (by decide +kernel) rfl) (zt 79 (by decide +kernel) rfl) zdf8 rfl rfl (by omega) rfl rfl (fun τ z h3 => ?_)
  have hD := hD.sm z (Or.inl (Nat.le_refl _))
  refine zj_dup 5 rfl rfl rfl ?_
  refine zj_cC (n' := E.z + 146) 6 rfl rfl lk_10_12 ckM_init (c_M (b := E.z + 134) h3 (by omega)) rfl rfl (fun τ hP => ?_)
  obtain ⟨τ0, z0, rfl⟩ := hP
  have hD := (hD.sm z0 (Or.inl (Nat.le_refl _))).sm (mw_smm (a := E.z + 134) (M := M0)) (Or.inl (Nat.le_refl _))
  refine zj_astore_n 7 rfl rfl ?_
  refine zj_iconst 8 (0) rfl rfl (by decide) ?_
  refine zj_istore_n 9 rfl rfl ?_
  exact law_loop (c := E.z) (a := E.z + 134) (Nat.le_refl _) hL E.L 0 τ0 M0 K0 (by omega) (Nat.zero_le _) hD inv0
set_option maxHeartbeats 4000000 in
theorem whole_start {p : Program} {e : Env} {s : State} {m : MethodId} {below : List Frame} {meth : Method} {c : Code} (l : Launch) {b L : Nat} {xs : Nat → Int32} (hL : L ≤ 3584) (C0 : lw_At p s m meth c b L xs) : W p l e room_1 s m #[Value.ref b] below meth c s.heap [] 0 0 (lw_Z below #[Value.ref b] s) (entryFrame m ([Value.ref b] : List Value).toArray 4) := by
  obtain ⟨hx, hb, hr, hml, hown, hts, hX, hbl, hlocks, hgv⟩ := id C0
  have ht2 : ∀ w ∈ zTbl, w.before #[Value.ref b] s = true := fun w hw => hts w (by rw [zTbl_eq] at hw; exact (List.mem_filter.mp hw).1)
  have hA : ∀ q : Nat, q < s.heap.size → ¬ (fun q : Nat => s.heap.size ≤ q) q := fun q hq => Nat.not_le.mpr hq
  have hg := flat_of_before _ hgv
  obtain ⟨c0, i0, k0⟩ := u_known (C := zcn 0) (T := zTT 0) (N := zNN 0) (n := zNN 0) ht2 (zws_at (by decide)) (ht2 _ (zt 152 (by decide +kernel) rfl))
  obtain ⟨c1, i1, k1⟩ := u_known (C := zcn 1) (T := zTT 1) (N := zNN 1) (n := zNN 1) ht2 (zws_at (by decide)) (ht2 _ (zt 256 (by decide +kernel) rfl))
  obtain ⟨c2, i2, k2⟩ := u_known (C := zcn 2) (T := zTT 2) (N := zNN 2) (n := zNN 2) ht2 (zws_at (by decide)) (ht2 _ (zt 202 (by decide +kernel) rfl))
  obtain ⟨c3, i3, k3⟩ := u_known (C := zcn 3) (T := zTT 3) (N := zNN 3) (n := zNN 3) ht2 (zws_at (by decide)) (ht2 _ (zt 119 (by decide +kernel) rfl))
  obtain ⟨c4, i4, k4⟩ := u_known (C := zcn 4) (T := zTT 4) (N := zNN 4) (n := zNN 4) ht2 (zws_at (by decide)) (ht2 _ (zt 262 (by decide +kernel) rfl))
  obtain ⟨c5, i5, k5⟩ := u_known (C := zcn 5) (T := zTT 5) (N := zNN 5) (n := zNN 5) ht2 (zws_at (by decide)) (ht2 _ (zt 94 (by decide +kernel) rfl))
  obtain ⟨c6, i6, k6⟩ := u_known (C := zcn 6) (T := zTT 6) (N := zNN 6) (n := zNN 6) ht2 (zws_at (by decide)) (ht2 _ (zt 101 (by decide +kernel) rfl))
  obtain ⟨c7, i7, k7⟩ := u_known (C := zcn 7) (T := zTT 7) (N := zNN 7) (n := zNN 7) ht2 (zws_at (by decide)) (ht2 _ (zt 86 (by decide +kernel) rfl))
  obtain ⟨c8, i8, k8⟩ := u_known (C := zcn 8) (T := zTT 8) (N := zNN 8) (n := zNN 8) ht2 (zws_at (by decide)) (ht2 _ (zt 830 (by decide +kernel) rfl))
  obtain ⟨dC, dI, hKc⟩ : ∃ (dC : Nat → ClassId) (dI : Nat → Nat → Nat), ∀ (k : Nat) (q : vw_C), zcl[k]? = some q → u_Kn s q.1 q.2.1 q.2.2 (dC k) (dI k) := by
    refine ⟨fun k => if k = 0 then c0 else if k = 1 then c1 else if k = 2 then c2 else if k = 3 then c3 else if k = 4 then c4 else if k = 5 then c5 else if k = 6 then c6 else if k = 7 then c7 else c8, fun k => if k = 0 then i0 else if k = 1 then i1 else if k = 2 then i2 else if k = 3 then i3 else if k = 4 then i4 else if k = 5 then i5 else if k = 6 then i6 else if k = 7 then i7 else i8, ?_⟩
    intro k q hq
    match k, hq with
    | 0, hq => cases hq; exact k0
    | 1, hq => cases hq; exact k1
    | 2, hq => cases hq; exact k2
    | 3, hq => cases hq; exact k3
    | 4, hq => cases hq; exact k4
    | 5, hq => cases hq; exact k5
    | 6, hq => cases hq; exact k6
    | 7, hq => cases hq; exact k7
    | 8, hq => cases hq; exact k8
    | k + 9, hq => simp [zcl] at hq
  obtain ⟨a0, x0, y0⟩ := zarr_i (ht2 (.arrayClass .int) (zt 116 (by decide +kernel) rfl))
  obtain ⟨a1, x1, y1⟩ := zarr_i (ht2 (.arrayClass .long) (zt 301 (by decide +kernel) rfl))
  obtain ⟨a2, x2, y2⟩ := zarr_i (ht2 (.arrayClass .boolean) (zt 283 (by decide +kernel) rfl))
  obtain ⟨a3, x3, y3⟩ := zarr_o (hts (.arrayOver (.object "DiscLines$World")) (List.mem_of_getElem? (i := 100) (by decide +kernel)))
  obtain ⟨a4, x4, y4⟩ := zarr_o (hts (.arrayOver (.object "DiscLines$Law")) (List.mem_of_getElem? (i := 118) (by decide +kernel)))
  obtain ⟨a5, x5, y5⟩ := zarr_o (hts (.arrayOver (.object "DiscLines$State")) (List.mem_of_getElem? (i := 254) (by decide +kernel)))
  obtain ⟨cA, hcA⟩ : ∃ cA : Nat → ClassId, ∀ t, t < 6 → ArrOfT s (cA t) (zty t) ∧ va_RA s (cA t) (zty t) := by
    refine ⟨fun k => if k = 0 then a0 else if k = 1 then a1 else if k = 2 then a2 else if k = 3 then a3 else if k = 4 then a4 else a5, fun t ht => ?_⟩
    match t, ht with
    | 0, _ => exact ⟨x0, y0⟩
    | 1, _ => exact ⟨x1, y1⟩
    | 2, _ => exact ⟨x2, y2⟩
    | 3, _ => exact ⟨x3, y3⟩
    | 4, _ => exact ⟨x4, y4⟩
    | 5, _ => exact ⟨x5, y5⟩
    | t + 6, h => exact absurd h (by omega)
  obtain ⟨t1, et1, vt1⟩ := va_Tof (tm := (.static "DiscLines$Picture" "ROW_STEPS" "[I")) (ty := .int) (N := 5) (f := fun j => .int (zrs j)) (A := fun q : Nat => s.heap.size ≤ q) (by decide) (hg (.arrayOf (.static "DiscLines$Picture" "ROW_STEPS" "[I") .int) (by decide +kernel)) (va_eqt (hg (.eq (.length (.static "DiscLines$Picture" "ROW_STEPS" "[I")) (.int 5)) (by decide +kernel))) (fun j hj => by
    match j, hj with
    | 0, _ => exact va_eqt (hg (.eq (.elem (.static "DiscLines$Picture" "ROW_STEPS" "[I") (.int 0)) (.int 0)) (by decide +kernel))
    | 1, _ => exact va_eqt (hg (.eq (.elem (.static "DiscLines$Picture" "ROW_STEPS" "[I") (.int 1)) (.int (-1))) (by decide +kernel))
    | 2, _ => exact va_eqt (hg (.eq (.elem (.static "DiscLines$Picture" "ROW_STEPS" "[I") (.int 2)) (.int 1)) (by decide +kernel))
    | 3, _ => exact va_eqt (hg (.eq (.elem (.static "DiscLines$Picture" "ROW_STEPS" "[I") (.int 3)) (.int 0)) (by decide +kernel))
    | 4, _ => exact va_eqt (hg (.eq (.elem (.static "DiscLines$Picture" "ROW_STEPS" "[I") (.int 4)) (.int 0)) (by decide +kernel))
    | j + 5, h => exact absurd h (by omega)) hA
  have wt1 := va_Zof (A := fun q : Nat => s.heap.size ≤ q) (hts (.laysStatic "DiscLines$Picture" "ROW_STEPS" "[I") (List.mem_of_getElem? (i := 373) (by decide +kernel))) (ht2 (.initialized "DiscLines$Picture") (zt 78 (by decide +kernel) rfl)) et1 hA
  obtain ⟨t2, et2, vt2⟩ := va_Tof (tm := (.static "DiscLines$Picture" "COLUMN_STEPS" "[I")) (ty := .int) (N := 5) (f := fun j => .int (zcs j)) (A := fun q : Nat => s.heap.size ≤ q) (by decide) (hg (.arrayOf (.static "DiscLines$Picture" "COLUMN_STEPS" "[I") .int) (by decide +kernel)) (va_eqt (hg (.eq (.length (.static "DiscLines$Picture" "COLUMN_STEPS" "[I")) (.int 5)) (by decide +kernel))) (fun j hj => by
    match j, hj with
    | 0, _ => exact va_eqt (hg (.eq (.elem (.static "DiscLines$Picture" "COLUMN_STEPS" "[I") (.int 0)) (.int 0)) (by decide +kernel))
    | 1, _ => exact va_eqt (hg (.eq (.elem (.static "DiscLines$Picture" "COLUMN_STEPS" "[I") (.int 1)) (.int 0)) (by decide +kernel))
    | 2, _ => exact va_eqt (hg (.eq (.elem (.static "DiscLines$Picture" "COLUMN_STEPS" "[I") (.int 2)) (.int 0)) (by decide +kernel))
    | 3, _ => exact va_eqt (hg (.eq (.elem (.static "DiscLines$Picture" "COLUMN_STEPS" "[I") (.int 3)) (.int (-1))) (by decide +kernel))
    | 4, _ => exact va_eqt (hg (.eq (.elem (.static "DiscLines$Picture" "COLUMN_STEPS" "[I") (.int 4)) (.int 1)) (by decide +kernel))
    | j + 5, h => exact absurd h (by omega)) hA
  have wt2 := va_Zof (A := fun q : Nat => s.heap.size ≤ q) (hts (.laysStatic "DiscLines$Picture" "COLUMN_STEPS" "[I") (List.mem_of_getElem? (i := 375) (by decide +kernel))) (ht2 (.initialized "DiscLines$Picture") (zt 78 (by decide +kernel) rfl)) et2 hA
  obtain ⟨E, hE⟩ : ∃ E : zE, E = (l, (dC, dI), cA, s.heap.size, s.heap, b, L, xs, t1, t2) := ⟨_, rfl⟩
  have hK : zK E s := by
    subst hE
    refine ⟨⟨hKc, fun k q hq => ?_⟩, fun q hq => va_Nw.of rfl (hts _ (zNest_ok q hq)), fun t h3 h6 C hC => ?_, hX, hbl, ⟨wt1, vt1⟩, wt2, vt2⟩
    · by_cases hk : k < 6
      · have := Option.some.inj ((ztys_at _ hk).symm.trans hq)
        subst this
        exact hcA k hk
      · have := (List.getElem?_eq_some_iff.mp hq).1
        simp [ztys] at this
        omega
    · match t, h3, h6 with
      | 3, _, _ => cases hC; exact va_AO.of (hts (.arrayOver (.object "DiscLines$World")) (List.mem_of_getElem? (i := 100) (by decide +kernel)))
      | 4, _, _ => cases hC; exact va_AO.of (hts (.arrayOver (.object "DiscLines$Law")) (List.mem_of_getElem? (i := 118) (by decide +kernel)))
      | 5, _, _ => cases hC; exact va_AO.of (hts (.arrayOver (.object "DiscLines$State")) (List.mem_of_getElem? (i := 254) (by decide +kernel)))
      | t + 6, _, h => exact absurd h (by omega)
  have hR : zR E s.heap.size (fun _ => none) s.heap := by
    subst hE
    exact ⟨rfl, fun q _ => rfl, fun a e h => by cases h⟩
  have hl := lv_entry ([.ref b]) (n := 4) (Nat.le_of_ble_eq_true rfl)
  rw [lg_entry_eq]
  generalize (lg_sl ([.ref b]) ++ List.replicate (4 - (lg_sl ([.ref b])).length) Slot.unset).toArray = ls at hl ⊢
  have hl : lv_has ls 4 [(0, .ref b)] := hl
  have hC : zCx E (YLw meth.name) p s m #[Value.ref b] meth c := ⟨hx, hb, hml, hr, hlocks, hown, ht2, hK, rfl, oLw _⟩
  have hEz : E.z = s.heap.size := by rw [hE]
  have hEb : E.b = b := by rw [hE]
  have hEl : E.l = l := by rw [hE]
  have hJ := law_start (nm := meth.name) (E := E) (by rw [hE]; exact hL) p e s m #[Value.ref b] below meth c s.heap [] ls hC (by rw [hEz]; exact hR) (fun q hq => by cases hq) (by rw [hEb]; exact hl)
  rw [hEl] at hJ
  intro T hT X
  obtain ⟨t, q1, q2⟩ := hJ T hT X
  have q3 := q2 ⟨hEz.symm, by rw [hEb]⟩
  rw [hEb] at q3
  exact ⟨t, q1, q3⟩
