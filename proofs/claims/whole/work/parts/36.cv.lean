/-! calls over a deeper stack -/
def zRf16 (R R' : Room) (nL cells slots mc ms : Nat) : Prop := (R'.cells = mc ∧ R'.slots = ms) ∧ (R'.frames + 1 ≤ R.frames ∧ 16 + (nL + 11) + R'.locals ≤ R.locals) ∧ (cells + mc ≤ R.cells ∧ slots + ms ≤ R.slots)
def zRg16 (R : Room) (nL d cells slots : Nat) : Bool := (d + 1).ble R.frames && (nL + 27 + 64 * d).ble R.locals && cells.ble R.cells && slots.ble R.slots
section
variable {E : zE} {Y Yc : zY} {R R' : Room} {fin : zF} {n cells slots mc ms : Nat} {σ : zH} {pc q u v idx : Nat} {w : Int} {L : List (Option Value)} {rest st as : List Value} {Q : Option Value → Nat → zH → Prop}
theorem zj_cv16 (k : Nat) {b ci : Nat} {fs : List Value} (h : Y.rows[k]? = some (pc, .invokevirtual idx, q, u, v, w)) (hq : pc + 3 = q) (lk : zLk Y.oc idx Yc.nm) {nn : Nat} (ck : zCkV Yc nn ci) (hs : σ b = some (.inr (ci, fs))) (hM : zMet E Yc R' mc ms (.ref b :: as) n σ Q) (hst : st = as.reverse ++ .ref b :: rest) (hn : as.length = nn) (hrest : (rest.map fun v => v.category).sum ≤ 16) (hRm : zRf16 R R' Yc.nL cells slots mc ms)
    (kk : ∀ r n' σ', Q r n' σ' → zJ E Y R fin n' (cells + mc) (slots + ms) σ' q L (r.toList ++ rest)) : zJ E Y R fin n cells slots σ pc L st := by
  intro p e s m args below meth c H locs ls C hR hf hl
  have hts := C.2.2.2.2.2.2.1
  have hd := (zdec C.2.2.2.2.2.2.2.2.2 h hq).1
  have hK := C.2.2.2.2.2.2.2.1
  obtain ⟨hk0, hin, hsel, hci⟩ := ck
  have hrecv : ∃ cellB : Cell, H[b]? = some cellB ∧ cellB.vm.isStatics = false ∧ s.vm.findClass (zcn ci) = some cellB.cls := by
    obtain ⟨r, hr1, cell, q1, q2, q3, -⟩ := hR.at hs
    exact ⟨cell, q1, by rw [q3]; rfl, by rw [q2]; exact (hK.1.1 ci _ (zcl_at hci)).2.1⟩
  have hpre : PreV s H (zcn ci) b (fun (v : Array Value) (U : State) => v = (Value.ref b :: as).toArray ∧ zR E n σ U.heap ∧ zK E U) as := ⟨zblind n σ (.ref b :: as), hrecv, fun U hU hW => ⟨rfl, by rw [hU]; exact hR, hK.warm hW⟩⟩
  have hsq : ∀ sig, parseMethodDescriptor Yc.nm.desc = some sig → as.length = sig.parameters.length := fun sig hg => by
    have h2 := hk0.2.2.2.2
    rw [hg] at h2
    exact hn.trans (Option.some.inj h2).symm
  have hcd : (Cond.code Yc.nm Yc.code Yc.nL Yc.ret).before args s = true := hts _ (zgood Yc hk0.1 _ List.mem_cons_self).1
  have hB : Back E.l R p e below s args Yc.nm 3 16 _ _ := back_of hM hpre.1 hRm.1.1 hRm.1.2 hRm.2.1.1 hRm.2.1.2 (pay_in hts (zgood Yc hk0.1)) List.mem_cons_self
    (fun a' U hW => word_at hW (Or.inl (by first | rfl | simp [Cond.onTables, Cond.keeps, Cond.steady])) (hts _ hk0.2.1))
  refine zafter (a := (Value.ref b :: as).toArray) ?_ C hf hl hq kk
  obtain ⟨cellB, hc1, hc2, hc3⟩ := hrecv
  intro T hT X
  have hwide : 2 * (F0 m pc ls st).monitorRoom + (rest.map fun v => v.category).sum ≤ 16 := by
    rw [show 2 * (F0 m pc ls st).monitorRoom = 0 from rfl, Nat.zero_add]; exact hrest
  have hdc : decode c.code (F0 m pc ls st).pc = .ok (.invokevirtual idx, 3) := by rw [C.2.1]; exact hd
  have hsz : (F0 m pc ls st).locals.size = c.maxLocals := hl.1.trans C.2.2.1.symm
  rcases lk with lk | lk
  · obtain ⟨v, vm₁, ⟨U', l2, c2, s2⟩, -, X', ⟨g', mk, t, Lc, e1, e2, hQ, g1, hL, g2, g3⟩, st'⟩ := callV X C.1 (bytes := Yc.code) (maxL := Yc.nL) (ret := Yc.ret) C.2.2.2.2.2.1 (hts _ lk) (hts _ hin) (hts _ hsel) hcd ⟨hk0.2.2.1, hk0.2.2.2.1⟩ hB (by rw [hT]; exact hc1) hc2 hc3 rfl hsz hsq hst hwide hdc (fun vm₁ w => ⟨hRm.2.2.1, hRm.2.2.2, hpre.2.2 (T.setVm vm₁) hT w⟩)
    dsimp only [Pt.U, Pt.locs, Pt.cells, Pt.slots] at X' e1 e2 g1 g2 g3 st'
    subst g1; subst g2; subst g3
    exact ⟨v, _, t, U', Lc, hT, X', hL, e1, e2, hQ, st'⟩
  · obtain ⟨v, vm₁, ⟨U', l2, c2, s2⟩, -, X', ⟨g', mk, t, Lc, e1, e2, hQ, g1, hL, g2, g3⟩, st'⟩ := va_callVN X C.1 (bytes := Yc.code) (maxL := Yc.nL) (ret := Yc.ret) C.2.2.2.2.2.1 (va_Nw.use rfl (hK.2.1 _ lk)) (hts _ hin) (hts _ hsel) hcd ⟨hk0.2.2.1, hk0.2.2.2.1⟩ hB (by rw [hT]; exact hc1) hc2 hc3 rfl hsz hsq hst hwide hdc (fun vm₁ w => ⟨hRm.2.2.1, hRm.2.2.2, hpre.2.2 (T.setVm vm₁) hT w⟩)
    dsimp only [Pt.U, Pt.locs, Pt.cells, Pt.slots] at X' e1 e2 g1 g2 g3 st'
    subst g1; subst g2; subst g3
    exact ⟨v, _, t, U', Lc, hT, X', hL, e1, e2, hQ, st'⟩
end
section
variable {E : zE} {Y Yc : zY} {R : Room} {fin : zF} {n cells slots : Nat} {σ σ' : zH} {pc q u v idx : Nat} {w : Int} {L : List (Option Value)} {rest st as : List Value}
theorem zRg16_f {nL d : Nat} (h : zRg16 R nL d cells slots = true) : zRf16 R (zrm d) nL cells slots 0 0 := by
  unfold zRg16 at h
  simp only [Bool.and_eq_true] at h
  have h1 := Nat.le_of_ble_eq_true h.1.1.1
  have h2 := Nat.le_of_ble_eq_true h.1.1.2
  have h3 := Nat.le_of_ble_eq_true h.1.2
  have h4 := Nat.le_of_ble_eq_true h.2
  exact ⟨⟨rfl, rfl⟩, ⟨h1, by show 16 + (nL + 11) + 64 * d ≤ _; omega⟩, by omega, by omega⟩
theorem zj_cvx16 (k : Nat) {d nn ci b : Nat} {fs : List Value} {x : Value} (h : Y.rows[k]? = some (pc, .invokevirtual idx, q, u, v, w)) (hq : pc + 3 = q) (lk : zLk Y.oc idx Yc.nm) (ck : zCkV Yc nn ci) (hM : zM E Yc d (.ref b :: as) σ (some x) σ') (hst : st = as.reverse ++ .ref b :: rest) (hs : σ b = some (.inr (ci, fs))) (hn : as.length = nn) (hrest : ((rest.map Value.category).sum).ble 16 = true) (hRm : zRg16 R Yc.nL d cells slots = true) (kk : zJ E Y R fin n cells slots σ' q L (x :: rest)) : zJ E Y R fin n cells slots σ pc L st :=
  zj_cv16 k h hq lk ck hs (hM n) hst hn (Nat.le_of_ble_eq_true hrest) (zRg16_f hRm) (fun r n' s' hQ => by obtain ⟨rfl, rfl, rfl⟩ := hQ; exact kk)
end
