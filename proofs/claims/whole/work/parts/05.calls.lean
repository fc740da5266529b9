/-! returns, contracts, calls -/
def zQc (E : zE) (Q : Option Value → Nat → zH → Prop) : Array Value → State → Outcome → State → Prop := fun _ _ o t => ∃ (r : Option Value) (n' : Nat) (σ' : zH), o = .returned r ∧ Q r n' σ' ∧ zR E n' σ' t.heap
def zfin (E : zE) (Q : Option Value → Nat → zH → Prop) (mc ms : Nat) : zF := fun below args s => MQ below (zQc E Q) args s mc ms (fun q => E.z ≤ q)
def zMet (E : zE) (Y : zY) (R : Room) (mc ms : Nat) (av : List Value) (n : Nat) (σ : zH) (Q : Option Value → Nat → zH → Prop) : Prop :=
  Met E.l Y.nm (.code Y.nm Y.code Y.nL Y.ret :: zTbl) R (fun v U => v = av.toArray ∧ zR E n σ U.heap ∧ zK E U) (zQc E Q) mc ms (fun q => E.z ≤ q)
def zen : Nat → List Value → List (Option Value)
  | n, [] => List.replicate n none
  | n, .long x :: vs => some (.long x) :: none :: zen (n - 2) vs
  | n, .double x :: vs => some (.double x) :: none :: zen (n - 2) vs
  | n, v :: vs => some v :: zen (n - 1) vs
theorem zlv_none (n k : Nat) : zlv k (List.replicate n none) = [] := by
  induction n generalizing k with
  | zero => rfl
  | succ n ih => simp only [List.replicate_succ, zlv]; exact ih (k + 1)
theorem zen_sub (vs : List Value) : ∀ (n k : Nat) (q : Nat × Value), q ∈ zlv k (zen n vs) → q ∈ lv_args k vs := by
  induction vs with
  | nil => intro n k q h; simp [zen, zlv_none] at h
  | cons v vs ih =>
    intro n k q h
    cases v with
    | long x =>
      simp only [zen, zlv, List.mem_cons] at h
      rcases h with h | h
      · exact List.mem_cons.mpr (Or.inl h)
      · exact List.mem_cons.mpr (Or.inr (ih _ _ _ h))
    | double x =>
      simp only [zen, zlv, List.mem_cons] at h
      rcases h with h | h
      · exact List.mem_cons.mpr (Or.inl h)
      · exact List.mem_cons.mpr (Or.inr (ih _ _ _ h))
    | _ =>
      simp only [zen, zlv, List.mem_cons] at h
      rcases h with h | h
      · exact List.mem_cons.mpr (Or.inl h)
      · exact List.mem_cons.mpr (Or.inr (ih _ _ _ h))
section
variable {E : zE} {Y : zY} {R : Room} {fin : zF} {n cells slots : Nat} {σ : zH} {pc q u v : Nat} {w : Int} {L : List (Option Value)} {rest : List Value} {Q : Option Value → Nat → zH → Prop}
theorem zj_ireturn (k : Nat) {x : Int32} (h : Y.rows[k]? = some (pc, .ireturn, q, u, v, w)) (hq : pc + 1 = q) (hr : Y.ret = some .int) (hQ : Q (some (.int x)) n σ) : zJ E Y R (zfin E Q cells slots) n cells slots σ pc L [.int x] := by
  intro p e s m args below meth c H locs ls C hR hf hl
  subst hq
  have hlocks := C.2.2.2.2.1
  exact W.iret C.1 C.2.1 (C.2.2.2.1.trans hr) (fun t ht _ => ⟨_, n, σ, rfl, hQ, by rw [ht]; exact hR⟩) hf (zdec C.2.2.2.2.2.2.2.2.2 h rfl).1
theorem zj_zreturn (k : Nat) {x : Int32} (h : Y.rows[k]? = some (pc, .ireturn, q, u, v, w)) (hq : pc + 1 = q) (hr : Y.ret = some .boolean) (hn : narrow .boolean (.int x) = .int x) (hQ : Q (some (.int x)) n σ) : zJ E Y R (zfin E Q cells slots) n cells slots σ pc L [.int x] := by
  intro p e s m args below meth c H locs ls C hR hf hl
  subst hq
  have hlocks := C.2.2.2.2.1
  exact W.zret C.1 C.2.1 (C.2.2.2.1.trans hr) hn (fun t ht _ => ⟨_, n, σ, rfl, hQ, by rw [ht]; exact hR⟩) hf (zdec C.2.2.2.2.2.2.2.2.2 h rfl).1
theorem zj_lreturn (k : Nat) {x : Int64} (h : Y.rows[k]? = some (pc, .lreturn, q, u, v, w)) (hq : pc + 1 = q) (hr : Y.ret = some .long) (hQ : Q (some (.long x)) n σ) : zJ E Y R (zfin E Q cells slots) n cells slots σ pc L [.long x] := by
  intro p e s m args below meth c H locs ls C hR hf hl
  subst hq
  have hlocks := C.2.2.2.2.1
  exact W.lret C.1 C.2.1 (C.2.2.2.1.trans hr) (fun t ht _ => ⟨_, n, σ, rfl, hQ, by rw [ht]; exact hR⟩) hf (zdec C.2.2.2.2.2.2.2.2.2 h rfl).1
theorem zj_return (k : Nat) (h : Y.rows[k]? = some (pc, .return_, q, u, v, w)) (hq : pc + 1 = q) (hr : Y.ret = none) (hQ : Q none n σ) : zJ E Y R (zfin E Q cells slots) n cells slots σ pc L [] := by
  intro p e s m args below meth c H locs ls C hR hf hl
  subst hq
  have hlocks := C.2.2.2.2.1
  exact W.vret C.1 C.2.1 (C.2.2.2.1.trans hr) (fun t ht _ => ⟨_, n, σ, rfl, hQ, by rw [ht]; exact hR⟩) hf (zdec C.2.2.2.2.2.2.2.2.2 h rfl).1
theorem zMet.of {mc ms : Nat} {av : List Value} (ok : zok Y) (hp : plainName Y.nm.cls = true) (hc : Y.nm.cls = zcn Y.oc) (hn : (lg_sl av).length ≤ Y.nL) (body : zJ E Y R (zfin E Q mc ms) n 0 0 σ 0 (zen Y.nL av) []) : zMet E Y R mc ms av n σ Q := by
  refine Met.ofW (cc := Y.code) (maxL := Y.nL) (ret := Y.ret) hp rfl ?_
  intro p e s m args below meth c s₁ B hml hv
  obtain ⟨rfl, hR, hK⟩ := hv
  have hts := atoms_spec (ws := Cond.code Y.nm Y.code Y.nL Y.ret :: zTbl) B.pre
  have hown : s.vm.findClass Y.nm.cls = some m.cls := findClass_of_methodNamed B.named
  rw [hc] at hown
  have hl := lv_entry av (n := Y.nL) hn
  rw [lg_entry_eq]
  exact body p e s m _ below meth c s.heap [] _ ⟨B.exec, B.bytes, hml, B.returns, B.notSynchronized, hown, fun w hw => hts w (List.mem_cons_of_mem _ hw), hK, (name_of_methodNamed B.named B.method).1, ok⟩ hR (fun _ h => by cases h) (zhas_mono hl (fun q hq => zen_sub av _ _ q hq))
end
/-! calls -/
def zLk (oc idx : Nat) (y : MethodName) : Prop := Cond.methodLink (zcn oc) idx y ∈ zTbl ∨ (oc, idx, y) ∈ zNest
def zCk (Y : zY) (n : Nat) : Prop := (Cond.code Y.nm Y.code Y.nL Y.ret) ∈ zTbl ∧ Cond.initialized Y.nm.cls ∈ zTbl ∧ (Y.nm.cls ≠ "java/lang/invoke/MethodHandle" ∧ Y.nm.cls ≠ "java/lang/invoke/VarHandle" ∧ (parseMethodDescriptor Y.nm.desc).map (fun d => d.parameters.length) = some n)
def zCkS (Y : zY) (n : Nat) : Prop := zCk Y n ∧ Cond.static Y.nm ∈ zTbl
def zCkV (Y : zY) (n ci : Nat) : Prop := zCk Y n ∧ Cond.instanceMethod Y.nm ∈ zTbl ∧ Cond.selects (zcn ci) Y.nm Y.nm ∈ zTbl ∧ ci < 9
def zCkI (Y : zY) (n : Nat) : Prop := zCk Y n ∧ Cond.instanceMethod Y.nm ∈ zTbl ∧ Y.nm.name = "<init>" ∧ Y.ret = none
theorem zgood (Y : zY) (h : (Cond.code Y.nm Y.code Y.nL Y.ret) ∈ zTbl) : GoodIn zTbl (Cond.code Y.nm Y.code Y.nL Y.ret :: zTbl) := by
  intro w hw
  have hm : w ∈ zTbl := by
    rcases List.mem_cons.mp hw with rfl | hw
    · exact h
    · exact hw
  exact ⟨hm, good_of_word (zgw hm)⟩
def zRf (R R' : Room) (nL cells slots mc ms : Nat) : Prop := (R'.cells = mc ∧ R'.slots = ms) ∧ (R'.frames + 1 ≤ R.frames ∧ 8 + (nL + 11) + R'.locals ≤ R.locals) ∧ (cells + mc ≤ R.cells ∧ slots + ms ≤ R.slots)
section
variable {E : zE} {Y Yc : zY} {R R' : Room} {fin : zF} {n cells slots mc ms : Nat} {σ : zH} {pc q u v idx : Nat} {w : Int} {L : List (Option Value)} {rest st as : List Value} {Q : Option Value → Nat → zH → Prop}
theorem zblind (n : Nat) (σ : zH) (av : List Value) : FrameBlind (fun (v : Array Value) (U : State) => v = av.toArray ∧ zR E n σ U.heap ∧ zK E U) := fun a U g mk h => ⟨h.1, h.2.1, h.2.2.calling g mk a⟩
theorem zafter {p : Program} {e : Env} {s : State} {m : MethodId} {args : Array Value} {below : List Frame} {meth : Method} {c : Code} {H : Heap} {locs : List Loc} {ls : Array Slot} {a : Array Value}
    (run : va_Run p E.l e R s m args below meth c H locs cells slots mc ms (F0 m pc ls st) rest (zQc E Q a) (fun q => E.z ≤ q)) (C : zCx E Y p s m args meth c) (hf : ∀ q ∈ locs, E.z ≤ q.base) (hl : lv_has ls Y.nL (zlv 0 L)) (hq : pc + 3 = q)
    (kk : ∀ r n' σ', Q r n' σ' → zJ E Y R fin n' (cells + mc) (slots + ms) σ' q L (r.toList ++ rest)) : W p E.l e R s m args below meth c H locs cells slots (fin below args s) (F0 m pc ls st) := by
  subst hq
  intro T hT X
  obtain ⟨v, st₀, t, T', Lc, h0, X', hL, e1, e2, ⟨r, n', σ', hv, hQ, hR'⟩, go⟩ := run T hT X
  cases hv
  obtain ⟨t2, a1, b1⟩ := kk v n' σ' hQ p e s m args below meth c T'.heap (locs ++ Lc) ls C (by rw [e1]; exact hR') (fun q hq => (List.mem_append.mp hq).elim (hf q) (hL q)) hl T' rfl X'
  exact ⟨t2, go t2 a1, b1⟩
theorem zj_cs (k : Nat) (h : Y.rows[k]? = some (pc, .invokestatic idx, q, u, v, w)) (hq : pc + 3 = q) (lk : zLk Y.oc idx Yc.nm) {nn : Nat} (ck : zCkS Yc nn) (hM : zMet E Yc R' mc ms as n σ Q) (hst : st = as.reverse ++ rest) (hn : as.length = nn) (hrest : (rest.map fun v => v.category).sum ≤ 8) (hRm : zRf R R' Yc.nL cells slots mc ms)
    (kk : ∀ r n' σ', Q r n' σ' → zJ E Y R fin n' (cells + mc) (slots + ms) σ' q L (r.toList ++ rest)) : zJ E Y R fin n cells slots σ pc L st := by
  intro p e s m args below meth c H locs ls C hR hf hl
  have hts := C.2.2.2.2.2.2.1
  have hd := (zdec C.2.2.2.2.2.2.2.2.2 h hq).1
  have hK := C.2.2.2.2.2.2.2.1
  have hpre : PreS s H (fun (v : Array Value) (U : State) => v = as.toArray ∧ zR E n σ U.heap ∧ zK E U) as := ⟨zblind n σ as, fun U hU hW => ⟨rfl, by rw [hU]; exact hR, hK.warm hW⟩⟩
  refine zafter (a := as.toArray) ?_ C hf hl hq kk
  rcases lk with lk | lk
  · exact va_runS ⟨C.1, C.2.1, C.2.2.1, C.2.2.2.2.2.1, hts⟩ hM ⟨callB_of nn hts (zgood Yc ck.1.1) rfl hRm.1.1 hRm.1.2 (hts _ ck.1.2.1) (hts _ lk) ck.1.2.2 hRm.2.1, hts _ ck.2⟩ hpre rfl hn hl.1 hst (lv_room hrest) hd hRm.2.2
  · exact va_runSN ⟨C.1, C.2.1, C.2.2.1, C.2.2.2.2.2.1, hts⟩ hM ⟨va_cnB nn hts (zgood Yc ck.1.1) rfl hRm.1.1 hRm.1.2 (hK.2.1 _ lk) (hts _ ck.1.2.1) ck.1.2.2 hRm.2.1, hts _ ck.2, trivial⟩ hpre rfl hn hl.1 hst (lv_room hrest) hd hRm.2.2
theorem zj_cv (k : Nat) {b ci : Nat} {fs : List Value} (h : Y.rows[k]? = some (pc, .invokevirtual idx, q, u, v, w)) (hq : pc + 3 = q) (lk : zLk Y.oc idx Yc.nm) {nn : Nat} (ck : zCkV Yc nn ci) (hs : σ b = some (.inr (ci, fs))) (hM : zMet E Yc R' mc ms (.ref b :: as) n σ Q) (hst : st = as.reverse ++ .ref b :: rest) (hn : as.length = nn) (hrest : (rest.map fun v => v.category).sum ≤ 8) (hRm : zRf R R' Yc.nL cells slots mc ms)
    (kk : ∀ r n' σ', Q r n' σ' → zJ E Y R fin n' (cells + mc) (slots + ms) σ' q L (r.toList ++ rest)) : zJ E Y R fin n cells slots σ pc L st := by
  intro p e s m args below meth c H locs ls C hR hf hl
  have hts := C.2.2.2.2.2.2.1
  have hd := (zdec C.2.2.2.2.2.2.2.2.2 h hq).1
  have hK := C.2.2.2.2.2.2.2.1
  obtain ⟨hk0, hin, hsel, hci⟩ := ck
  have hrecv : ∃ cellB : Cell, H[b]? = some cellB ∧ cellB.vm.isStatics = false ∧ s.vm.findClass (zcn ci) = some cellB.cls := by
    obtain ⟨r, hr1, cell, q1, q2, q3, -⟩ := hR.at hs
    exact ⟨cell, q1, by rw [q3]; rfl, by rw [q2]; exact (hK.1.1 ci _ (zcl_at hci)).2.1⟩
  have hpre : PreV s H (zcn ci) b (fun (v : Array Value) (U : State) => v = (Value.ref b :: as).toArray ∧ zR E n σ U.heap ∧ zK E U) as := ⟨zblind n σ (.ref b :: as), hrecv, fun U hU hW => ⟨rfl, by rw [hU]; exact hR, hK.warm hW⟩⟩
  refine zafter (a := (Value.ref b :: as).toArray) ?_ C hf hl hq kk
  rcases lk with lk | lk
  · exact va_runV ⟨C.1, C.2.1, C.2.2.1, C.2.2.2.2.2.1, hts⟩ hM ⟨callB_of nn hts (zgood Yc hk0.1) rfl hRm.1.1 hRm.1.2 (hts _ hk0.2.1) (hts _ lk) hk0.2.2 hRm.2.1, hts _ hin, hts _ hsel⟩ hpre rfl hn hl.1 hst (lv_room hrest) hd hRm.2.2
  · exact va_runVN ⟨C.1, C.2.1, C.2.2.1, C.2.2.2.2.2.1, hts⟩ hM ⟨va_cnB nn hts (zgood Yc hk0.1) rfl hRm.1.1 hRm.1.2 (hK.2.1 _ lk) (hts _ hk0.2.1) hk0.2.2 hRm.2.1, hts _ hin, hts _ hsel⟩ hpre rfl hn hl.1 hst (lv_room hrest) hd hRm.2.2
theorem zj_ci (k : Nat) {b : Nat} (h : Y.rows[k]? = some (pc, .invokespecial idx, q, u, v, w)) (hq : pc + 3 = q) (lk : zLk Y.oc idx Yc.nm) {nn : Nat} (ck : zCkI Yc nn) (hM : zMet E Yc R' mc ms (.ref b :: as) n σ Q) (hst : st = as.reverse ++ .ref b :: rest) (hn : as.length = nn) (hrest : (rest.map fun v => v.category).sum ≤ 8) (hRm : zRf R R' Yc.nL cells slots mc ms)
    (kk : ∀ r n' σ', Q r n' σ' → zJ E Y R fin n' (cells + mc) (slots + ms) σ' q L (r.toList ++ rest)) : zJ E Y R fin n cells slots σ pc L st := by
  intro p e s m args below meth c H locs ls C hR hf hl
  have hts := C.2.2.2.2.2.2.1
  have hd := (zdec C.2.2.2.2.2.2.2.2.2 h hq).1
  have hK := C.2.2.2.2.2.2.2.1
  obtain ⟨hk0, hin, hinit, hret⟩ := ck
  have hpre : PreS s H (fun (v : Array Value) (U : State) => v = (Value.ref b :: as).toArray ∧ zR E n σ U.heap ∧ zK E U) (.ref b :: as) := ⟨zblind n σ (.ref b :: as), fun U hU hW => ⟨rfl, by rw [hU]; exact hR, hK.warm hW⟩⟩
  have hg := zgood Yc hk0.1
  have hM' : Met E.l Yc.nm (.code Yc.nm Yc.code Yc.nL none :: zTbl) R' (fun v U => v = (Value.ref b :: as).toArray ∧ zR E n σ U.heap ∧ zK E U) (zQc E Q) mc ms (fun q => E.z ≤ q) := by rw [← hret]; exact hM
  rw [hret] at hg
  refine zafter (a := (Value.ref b :: as).toArray) ?_ C hf hl hq kk
  rcases lk with lk | lk
  · exact va_runI ⟨C.1, C.2.1, C.2.2.1, C.2.2.2.2.2.1, hts⟩ hM' ⟨callB_of nn hts hg rfl hRm.1.1 hRm.1.2 (hts _ hk0.2.1) (hts _ lk) hk0.2.2 hRm.2.1, hinit, hts _ hin⟩ hpre rfl hn hl.1 hst (lv_room hrest) hd hRm.2.2
  · exact va_runIN ⟨C.1, C.2.1, C.2.2.1, C.2.2.2.2.2.1, hts⟩ hM' ⟨va_cnB nn hts hg rfl hRm.1.1 hRm.1.2 (hK.2.1 _ lk) (hts _ hk0.2.1) hk0.2.2 hRm.2.1, hinit, hts _ hin⟩ hpre rfl hn hl.1 hst (lv_room hrest) hd hRm.2.2
end
/-! contracts that make nothing and answer one thing -/
def zrm (d : Nat) : Room := { frames := d, cells := 0, slots := 0, locals := 64 * d }
def zM (E : zE) (Y : zY) (d : Nat) (av : List Value) (σ : zH) (r : Option Value) (σ' : zH) : Prop := ∀ n, zMet E Y (zrm d) 0 0 av n σ (fun r' n' s' => r' = r ∧ n' = n ∧ s' = σ')
abbrev zB (E : zE) (Y : zY) (d n : Nat) (r : Option Value) (σ' : zH) (σ : zH) (pc : Nat) (L : List (Option Value)) (st : List Value) : Prop := zJ E Y (zrm d) (zfin E (fun r' n' s' => r' = r ∧ n' = n ∧ s' = σ') 0 0) n 0 0 σ pc L st
section
variable {E : zE} {Y Yc : zY} {R : Room} {fin : zF} {n cells slots : Nat} {σ σ' : zH} {pc q u v idx : Nat} {w : Int} {L : List (Option Value)} {rest st as : List Value}
theorem zM.of {d : Nat} {av : List Value} {r : Option Value} (ok : zok Y) (hp : plainName Y.nm.cls = true) (hc : Y.nm.cls = zcn Y.oc) (hn : (lg_sl av).length.ble Y.nL = true) (body : ∀ n, zB E Y d n r σ' σ 0 (zen Y.nL av) []) : zM E Y d av σ r σ' := fun n => zMet.of ok hp hc (Nat.le_of_ble_eq_true hn) (body n)
def zRg (R : Room) (nL d cells slots : Nat) : Bool := (d + 1).ble R.frames && (nL + 19 + 64 * d).ble R.locals && cells.ble R.cells && slots.ble R.slots
theorem zRg_f {nL d : Nat} (h : zRg R nL d cells slots = true) : zRf R (zrm d) nL cells slots 0 0 := by
  unfold zRg at h
  simp only [Bool.and_eq_true] at h
  have h1 := Nat.le_of_ble_eq_true h.1.1.1
  have h2 := Nat.le_of_ble_eq_true h.1.1.2
  have h3 := Nat.le_of_ble_eq_true h.1.2
  have h4 := Nat.le_of_ble_eq_true h.2
  exact ⟨⟨rfl, rfl⟩, ⟨h1, by show 8 + (nL + 11) + 64 * d ≤ _; omega⟩, by omega, by omega⟩
theorem zj_csx (k : Nat) {d nn : Nat} {x : Value} (h : Y.rows[k]? = some (pc, .invokestatic idx, q, u, v, w)) (hq : pc + 3 = q) (lk : zLk Y.oc idx Yc.nm) (ck : zCkS Yc nn) (hM : zM E Yc d as σ (some x) σ') (hst : st = as.reverse ++ rest) (hn : as.length = nn) (hrest : ((rest.map Value.category).sum).ble 8 = true) (hRm : zRg R Yc.nL d cells slots = true) (kk : zJ E Y R fin n cells slots σ' q L (x :: rest)) : zJ E Y R fin n cells slots σ pc L st :=
  zj_cs k h hq lk ck (hM n) hst hn (Nat.le_of_ble_eq_true hrest) (zRg_f hRm) (fun r n' s' hQ => by obtain ⟨rfl, rfl, rfl⟩ := hQ; exact kk)
theorem zj_csv (k : Nat) {d nn : Nat} (h : Y.rows[k]? = some (pc, .invokestatic idx, q, u, v, w)) (hq : pc + 3 = q) (lk : zLk Y.oc idx Yc.nm) (ck : zCkS Yc nn) (hM : zM E Yc d as σ none σ') (hst : st = as.reverse ++ rest) (hn : as.length = nn) (hrest : ((rest.map Value.category).sum).ble 8 = true) (hRm : zRg R Yc.nL d cells slots = true) (kk : zJ E Y R fin n cells slots σ' q L rest) : zJ E Y R fin n cells slots σ pc L st :=
  zj_cs k h hq lk ck (hM n) hst hn (Nat.le_of_ble_eq_true hrest) (zRg_f hRm) (fun r n' s' hQ => by obtain ⟨rfl, rfl, rfl⟩ := hQ; exact kk)
theorem zj_cvx (k : Nat) {d nn ci b : Nat} {fs : List Value} {x : Value} (h : Y.rows[k]? = some (pc, .invokevirtual idx, q, u, v, w)) (hq : pc + 3 = q) (lk : zLk Y.oc idx Yc.nm) (ck : zCkV Yc nn ci) (hM : zM E Yc d (.ref b :: as) σ (some x) σ') (hst : st = as.reverse ++ .ref b :: rest) (hs : σ b = some (.inr (ci, fs))) (hn : as.length = nn) (hrest : ((rest.map Value.category).sum).ble 8 = true) (hRm : zRg R Yc.nL d cells slots = true) (kk : zJ E Y R fin n cells slots σ' q L (x :: rest)) : zJ E Y R fin n cells slots σ pc L st :=
  zj_cv k h hq lk ck hs (hM n) hst hn (Nat.le_of_ble_eq_true hrest) (zRg_f hRm) (fun r n' s' hQ => by obtain ⟨rfl, rfl, rfl⟩ := hQ; exact kk)
theorem zj_cvv (k : Nat) {d nn ci b : Nat} {fs : List Value} (h : Y.rows[k]? = some (pc, .invokevirtual idx, q, u, v, w)) (hq : pc + 3 = q) (lk : zLk Y.oc idx Yc.nm) (ck : zCkV Yc nn ci) (hM : zM E Yc d (.ref b :: as) σ none σ') (hst : st = as.reverse ++ .ref b :: rest) (hs : σ b = some (.inr (ci, fs))) (hn : as.length = nn) (hrest : ((rest.map Value.category).sum).ble 8 = true) (hRm : zRg R Yc.nL d cells slots = true) (kk : zJ E Y R fin n cells slots σ' q L rest) : zJ E Y R fin n cells slots σ pc L st :=
  zj_cv k h hq lk ck hs (hM n) hst hn (Nat.le_of_ble_eq_true hrest) (zRg_f hRm) (fun r n' s' hQ => by obtain ⟨rfl, rfl, rfl⟩ := hQ; exact kk)
end
