/-! THE LAYER: a frame as (pc, locals, stack) over a heap of known cells; every fact of the machine is kept inside zJ -/
abbrev zRow : Type := Nat × Instr × Nat × Nat × Nat × Int
abbrev zY : Type := MethodName × Nat × ByteArray × Nat × Option FieldType × List zRow
abbrev zE : Type := Launch × va_G × (Nat → ClassId) × Nat × Heap × Nat × Nat × (Nat → Int32) × Nat × Nat
abbrev zE.l (E : zE) : Launch := E.1
abbrev zE.D (E : zE) : va_G := E.2.1
abbrev zE.cA (E : zE) : Nat → ClassId := E.2.2.1
abbrev zE.z (E : zE) : Nat := E.2.2.2.1
abbrev zE.H0 (E : zE) : Heap := E.2.2.2.2.1
abbrev zE.b (E : zE) : Nat := E.2.2.2.2.2.1
abbrev zE.L (E : zE) : Nat := E.2.2.2.2.2.2.1
abbrev zE.xs (E : zE) : Nat → Int32 := E.2.2.2.2.2.2.2.1
abbrev zE.t1 (E : zE) : Nat := E.2.2.2.2.2.2.2.2.1
abbrev zE.t2 (E : zE) : Nat := E.2.2.2.2.2.2.2.2.2
abbrev zH : Type := Nat → Option va_E
abbrev zY.nm (Y : zY) : MethodName := Y.1
abbrev zY.oc (Y : zY) : Nat := Y.2.1
abbrev zY.code (Y : zY) : ByteArray := Y.2.2.1
abbrev zY.nL (Y : zY) : Nat := Y.2.2.2.1
abbrev zY.ret (Y : zY) : Option FieldType := Y.2.2.2.2.1
abbrev zY.rows (Y : zY) : List zRow := Y.2.2.2.2.2
def zup (σ : zH) (a : Nat) (e : va_E) : zH := fun q => if q = a then some e else σ q
theorem zup_eq (σ : zH) (a : Nat) (e : va_E) : zup σ a e a = some e := by simp [zup]
theorem zup_ne {σ : zH} {a q : Nat} {e : va_E} (h : q ≠ a) : zup σ a e q = σ q := by simp [zup, h]
theorem zup_zup (σ : zH) (a : Nat) (e e' : va_E) : zup (zup σ a e) a e' = zup σ a e' := by
  funext q
  by_cases h : q = a <;> simp [zup, h]
theorem zup_same {σ : zH} {a : Nat} {e : va_E} (h : σ a = some e) : zup σ a e = σ := by
  funext q
  by_cases hq : q = a
  · subst hq; simp [zup, h]
  · simp [zup, hq]
theorem zup_comm (σ : zH) {a b : Nat} (h : a ≠ b) (e f : va_E) : zup (zup σ a e) b f = zup (zup σ b f) a e := by
  funext q
  by_cases h1 : q = a
  · subst h1; simp [zup, h]
  · by_cases h2 : q = b
    · subst h2; simp [zup, h1]
    · simp [zup, h1, h2]
def zve (E : zE) (e : va_E) : va_E := match e with
  | .inl a => .inl (E.cA a.1, a.2)
  | .inr o => .inr o
def zty : Nat → FieldType := fun k => match k with
  | 0 => .int
  | 1 => .long
  | 2 => .boolean
  | 3 => .object "DiscLines$World"
  | 4 => .object "DiscLines$Law"
  | _ => .object "DiscLines$State"
def ztys (E : zE) : List (ClassId × FieldType) := (List.range 6).map (fun t => (E.cA t, zty t))
theorem ztys_at (E : zE) {t : Nat} (h : t < 6) : (ztys E)[t]? = some (E.cA t, zty t) := by
  simp [ztys, h]
def zR (E : zE) (n : Nat) (σ : zH) (H : Heap) : Prop := H.size = n ∧ (∀ q, q < E.z → H[q]? = E.H0[q]?) ∧ ∀ a e, σ a = some e → E.z ≤ a ∧ va_at E.D zcl (a, zve E e) H
def zrs : Nat → Int32 := fun j => match j with
  | 1 => -1
  | 2 => 1
  | _ => 0
def zcs : Nat → Int32 := fun j => match j with
  | 3 => -1
  | 4 => 1
  | _ => 0
def zSt (E : zE) (U : State) : Prop := va_X E.b E.L E.xs U E.H0 ∧ E.b < E.z ∧
  (va_Z "DiscLines$Picture" "ROW_STEPS" "[I" (.ref E.t1) (fun q => E.z ≤ q) U E.H0 ∧ va_T .int E.t1 5 (fun j => .int (zrs j)) (fun q => E.z ≤ q) U E.H0) ∧
  (va_Z "DiscLines$Picture" "COLUMN_STEPS" "[I" (.ref E.t2) (fun q => E.z ≤ q) U E.H0 ∧ va_T .int E.t2 5 (fun j => .int (zcs j)) (fun q => E.z ≤ q) U E.H0)
def zK (E : zE) (U : State) : Prop := va_K E.D zcl (ztys E) U ∧ (∀ q ∈ zNest, va_Nw (zNw q) U) ∧ (∀ t, 3 ≤ t → t < 6 → ∀ C, zty t = .object C → va_AO C U) ∧ zSt E U
theorem va_X.zmoved {b L : Nat} {xs : Nat → Int32} {u U : State} {H : Heap} (hvm : u.vm.Alike U.vm) (h : va_X b L xs u H) : va_X b L xs U H := by
  obtain ⟨scr, h1, h2, h3⟩ := h
  exact ⟨scr, h1, State.isArrayOf_alike hvm h2, h3⟩
theorem zK.warm {E : zE} {s U : State} (hW : s.WarmedH U.vm) (h : zK E s) : zK E U := by
  obtain ⟨h1, h2, h3, h4, h5, ⟨h6, h7⟩, h8, h9⟩ := h
  have ha := hW.alike
  exact ⟨va_K.moved ha h1, fun q hq => va_Nw.warmM hW (h2 q hq), fun t a b C hC => va_AO.moved ha (h3 t a b C hC), va_X.zmoved ha h4, h5, ⟨va_Z.moved ha h6, va_T.moved ha h7⟩, va_Z.moved ha h8, va_T.moved ha h9⟩
theorem zK.calling {E : zE} {U : State} (g : JFrame) (mk : MethodId) (a : Array Value) (h : zK E U) : zK E (U.calling g mk a) := by
  obtain ⟨h1, h2, h3, h4, h5, ⟨h6, h7⟩, h8, h9⟩ := h
  have ha : U.vm.Alike (U.calling g mk a).vm := Vm.Alike.refl U.vm
  exact ⟨va_K.moved ha h1, fun q hq => va_Nw.same rfl rfl (h2 q hq), fun t a b C hC => va_AO.moved ha (h3 t a b C hC), va_X.zmoved ha h4, h5, ⟨va_Z.moved ha h6, va_T.moved ha h7⟩, va_Z.moved ha h8, va_T.moved ha h9⟩
/-! rows -/
def zaux (Y : zY) (r : zRow) : Bool := match r with
  | (pc, .if_icmp _ off, _, u, _, _) => decide ((pc : Int) + off = (u : Int))
  | (pc, .ifCond _ off, _, u, _, _) => decide ((pc : Int) + off = (u : Int))
  | (pc, .goto off, _, u, _, _) => decide ((pc : Int) + off = (u : Int))
  | (_, .getfield idx, _, u, v, _) => zFLs.contains (Y.oc, idx, u, v) && decide (u < 9) && decide (v < zNN u)
  | (_, .putfield idx, _, u, v, _) => zFLs.contains (Y.oc, idx, u, v) && decide (u < 9) && decide (v < zNN u)
  | (_, .ldc idx, _, _, _, w) => zCs.contains (Y.oc, idx, w)
  | (_, .ldc_w idx, _, _, _, w) => zCs.contains (Y.oc, idx, w)
  | (_, .ldc2_w idx, _, _, _, w) => zLs.contains (Y.oc, idx, w)
  | (_, .istore i, _, _, _, _) => decide (i < Y.nL)
  | (_, .istore_n i, _, _, _, _) => decide (i.val < Y.nL)
  | (_, .astore i, _, _, _, _) => decide (i < Y.nL)
  | (_, .astore_n i, _, _, _, _) => decide (i.val < Y.nL)
  | (_, .lstore i, _, _, _, _) => decide (i + 1 < Y.nL)
  | (_, .lstore_n i, _, _, _, _) => decide (i.val + 1 < Y.nL)
  | (_, .iinc i _, _, _, _, _) => decide (i < Y.nL)
  | _ => true
def zchk (Y : zY) (r : zRow) : Bool := decide (decode Y.code r.1 = .ok (r.2.1, r.2.2.1 - r.1)) && decide (r.1 < r.2.2.1) && zaux Y r
def zok (Y : zY) : Prop := Y.rows.all (zchk Y) = true
theorem zdec {Y : zY} (ok : zok Y) {k : Nat} {pc q u v len : Nat} {w : Int} {ins : Instr} (h : Y.rows[k]? = some (pc, ins, q, u, v, w)) (hq : pc + len = q) : decode Y.code pc = .ok (ins, len) ∧ zaux Y (pc, ins, q, u, v, w) = true := by
  have h1 := List.all_eq_true.mp ok _ (List.mem_of_getElem? h)
  unfold zchk at h1
  simp only [Bool.and_eq_true, decide_eq_true_eq] at h1
  obtain ⟨⟨h2, h3⟩, h4⟩ := h1
  have e : q - pc = len := by omega
  rw [e] at h2
  exact ⟨h2, h4⟩
/-! locals -/
def zlv : Nat → List (Option Value) → List (Nat × Value)
  | _, [] => []
  | i, none :: L => zlv (i + 1) L
  | i, some v :: L => (i, v) :: zlv (i + 1) L
def zc (o : Option Value) : Option Value := match o with
  | some (.long _) => none
  | some (.double _) => none
  | o => o
def zs1 : List (Option Value) → Nat → Value → List (Option Value)
  | [], _, _ => []
  | _ :: L, 0, v => some v :: L
  | o :: L, 1, v => zc o :: zs1 L 0 v
  | o :: L, i + 2, v => o :: zs1 L (i + 1) v
def zs2 (L : List (Option Value)) (i : Nat) (v : Value) : List (Option Value) := (zs1 L i v).set (i + 1) none
theorem zlv_mem {v : Value} : ∀ {L : List (Option Value)} {i k : Nat}, L[i]? = some (some v) → (k + i, v) ∈ zlv k L
  | [], i, k, h => by simp at h
  | none :: L, 0, k, h => by simp at h
  | some x :: L, 0, k, h => by
    simp only [List.getElem?_cons_zero, Option.some.injEq] at h
    subst h
    simp [zlv]
  | none :: L, i + 1, k, h => by
    have := zlv_mem (k := k + 1) (by simpa using h : L[i]? = some (some v))
    simp only [zlv]
    rw [show k + (i + 1) = k + 1 + i by omega]
    exact this
  | some x :: L, i + 1, k, h => by
    have := zlv_mem (k := k + 1) (by simpa using h : L[i]? = some (some v))
    simp only [zlv]
    rw [show k + (i + 1) = k + 1 + i by omega]
    exact List.mem_cons_of_mem _ this
theorem zlv_of {j : Nat} {v : Value} : ∀ {L : List (Option Value)} {k : Nat}, (j, v) ∈ zlv k L → ∃ i, j = k + i ∧ L[i]? = some (some v)
  | [], k, h => by simp [zlv] at h
  | none :: L, k, h => by
    obtain ⟨i, h1, h2⟩ := zlv_of (L := L) (k := k + 1) h
    exact ⟨i + 1, by omega, by simpa using h2⟩
  | some x :: L, k, h => by
    simp only [zlv, List.mem_cons, Prod.mk.injEq] at h
    rcases h with ⟨rfl, rfl⟩ | h
    · exact ⟨0, rfl, rfl⟩
    · obtain ⟨i, h1, h2⟩ := zlv_of (L := L) (k := k + 1) h
      exact ⟨i + 1, by omega, by simpa using h2⟩
theorem zc_of {o : Option Value} {w : Value} (h : zc o = some w) : o = some w ∧ ¬ w.category = 2 := by
  unfold zc at h
  split at h
  · cases h
  · cases h
  · rename_i h1 h2
    refine ⟨h, fun hc => ?_⟩
    subst h
    cases w <;> simp_all [Value.category]
theorem zs1_of {v w : Value} : ∀ {L : List (Option Value)} {i j : Nat}, (zs1 L i v)[j]? = some (some w) → (j = i ∧ w = v) ∨ (j ≠ i ∧ L[j]? = some (some w) ∧ ¬ (j + 1 = i ∧ w.category = 2))
  | [], i, j, h => by simp [zs1] at h
  | o :: L, 0, j, h => by
    simp only [zs1] at h
    cases j with
    | zero => simp only [List.getElem?_cons_zero, Option.some.injEq] at h; exact Or.inl ⟨rfl, h.symm⟩
    | succ j => exact Or.inr ⟨by omega, by simpa using h, by omega⟩
  | o :: L, 1, j, h => by
    simp only [zs1] at h
    cases j with
    | zero =>
      simp only [List.getElem?_cons_zero, Option.some.injEq] at h
      obtain ⟨h1, h2⟩ := zc_of h
      subst h1
      exact Or.inr ⟨by omega, rfl, fun q => h2 q.2⟩
    | succ j =>
      have := zs1_of (L := L) (i := 0) (j := j) (by simpa using h)
      rcases this with ⟨a, b⟩ | ⟨a, b, c⟩
      · exact Or.inl ⟨by omega, b⟩
      · exact Or.inr ⟨by omega, by simpa using b, fun q => c ⟨by omega, q.2⟩⟩
  | o :: L, i + 2, j, h => by
    simp only [zs1] at h
    cases j with
    | zero =>
      simp only [List.getElem?_cons_zero, Option.some.injEq] at h
      subst h
      exact Or.inr ⟨by omega, rfl, by omega⟩
    | succ j =>
      have := zs1_of (L := L) (i := i + 1) (j := j) (by simpa using h)
      rcases this with ⟨a, b⟩ | ⟨a, b, c⟩
      · exact Or.inl ⟨by omega, b⟩
      · exact Or.inr ⟨by omega, by simpa using b, fun q => c ⟨by omega, q.2⟩⟩
theorem zs2_of {v w : Value} {L : List (Option Value)} {i j : Nat} (h : (zs2 L i v)[j]? = some (some w)) : (j = i ∧ w = v) ∨ (j ≠ i ∧ j ≠ i + 1 ∧ L[j]? = some (some w) ∧ ¬ (j + 1 = i ∧ w.category = 2)) := by
  unfold zs2 at h
  by_cases hj : j = i + 1
  · subst hj
    rw [List.getElem?_set] at h
    simp at h
  · rw [List.getElem?_set_ne (fun q => hj q.symm)] at h
    rcases zs1_of h with h | ⟨a, b, c⟩
    · exact Or.inl h
    · exact Or.inr ⟨a, hj, b, c⟩
theorem zhas_mono {ls : Array Slot} {n : Nat} {l l' : List (Nat × Value)} (h : lv_has ls n l) (hs : ∀ q ∈ l', q ∈ l) : lv_has ls n l' := ⟨h.1, h.2.1, fun q hq => h.2.2 q (hs q hq)⟩
theorem zhas_at {ls : Array Slot} {n i : Nat} {L : List (Option Value)} {v : Value} (h : lv_has ls n (zlv 0 L)) (hl : L[i]? = some (some v)) : ls[i]? = some (.val v) := by
  have := h.2.2 _ (zlv_mem (k := 0) hl)
  simpa using this
theorem zhas1 {ls : Array Slot} {n i : Nat} {L : List (Option Value)} {v : Value} (h : lv_has ls n ((i, v) :: (zlv 0 L).filter (fun q => !(q.1 == i) && !(q.1 + 1 == i && q.2.category == 2)))) : lv_has ls n (zlv 0 (zs1 L i v)) := by
  refine zhas_mono h fun q hq => ?_
  obtain ⟨j, w⟩ := q
  obtain ⟨j', h1, h2⟩ := zlv_of hq
  have e : j = j' := by omega
  subst e
  rcases zs1_of h2 with ⟨a, b⟩ | ⟨a, b, c⟩
  · subst a; subst b; exact List.mem_cons_self
  · refine List.mem_cons_of_mem _ (List.mem_filter.mpr ⟨by have := zlv_mem (k := 0) b; simpa using this, ?_⟩)
    simp only [Bool.and_eq_true, Bool.not_eq_true', beq_eq_false_iff_ne, ne_eq, Bool.and_eq_false_iff]
    exact ⟨a, (Decidable.em (j + 1 = i)).elim (fun h3 => Or.inr fun e => c ⟨h3, e⟩) Or.inl⟩
theorem zhas2 {ls : Array Slot} {n i : Nat} {L : List (Option Value)} {v : Value} (h : lv_has ls n ((i, v) :: (zlv 0 L).filter (fun q => !(q.1 == i) && (!(q.1 == i + 1) && !(q.1 + 1 == i && q.2.category == 2))))) : lv_has ls n (zlv 0 (zs2 L i v)) := by
  refine zhas_mono h fun q hq => ?_
  obtain ⟨j, w⟩ := q
  obtain ⟨j', h1, h2⟩ := zlv_of hq
  have e : j = j' := by omega
  subst e
  rcases zs2_of h2 with ⟨a, b⟩ | ⟨a, a2, b, c⟩
  · subst a; subst b; exact List.mem_cons_self
  · refine List.mem_cons_of_mem _ (List.mem_filter.mpr ⟨by have := zlv_mem (k := 0) b; simpa using this, ?_⟩)
    simp only [Bool.and_eq_true, Bool.not_eq_true', beq_eq_false_iff_ne, ne_eq, Bool.and_eq_false_iff]
    exact ⟨a, a2, (Decidable.em (j + 1 = i)).elim (fun h3 => Or.inr fun e => c ⟨h3, e⟩) Or.inl⟩
/-! the judgement -/
def zCx (E : zE) (Y : zY) (p : Program) (s : State) (m : MethodId) (args : Array Value) (meth : Method) (c : Code) : Prop :=
  p.tables.exec = Jvm.exec ∧ c.code = Y.code ∧ c.maxLocals = Y.nL ∧ meth.sig.returnType = Y.ret ∧ meth.locks = false ∧ s.vm.findClass (zcn Y.oc) = some m.cls ∧ (∀ w ∈ zTbl, w.before args s = true) ∧ zK E s ∧ meth.name = Y.nm.name ∧ zok Y
abbrev zF : Type := List Frame → Array Value → State → State → Prop
def zJ (E : zE) (Y : zY) (R : Room) (fin : zF) (n cells slots : Nat) (σ : zH) (pc : Nat) (L : List (Option Value)) (st : List Value) : Prop :=
  ∀ (p : Program) (e : Env) (s : State) (m : MethodId) (args : Array Value) (below : List Frame) (meth : Method) (c : Code) (H : Heap) (locs : List Loc) (ls : Array Slot),
    zCx E Y p s m args meth c → zR E n σ H → (∀ q ∈ locs, E.z ≤ q.base) → lv_has ls Y.nL (zlv 0 L) →
    W p E.l e R s m args below meth c H locs cells slots (fin below args s) (F0 m pc ls st)
section
variable {E : zE} {Y : zY} {R : Room} {fin : zF} {n cells slots : Nat} {σ : zH} {pc q u v : Nat} {w : Int} {L : List (Option Value)} {rest : List Value}
theorem zj_iconst (k : Nat) {i : Int} (x : Int32) (h : Y.rows[k]? = some (pc, .iconst i, q, u, v, w)) (hq : pc + 1 = q) (hx : Int32.ofInt i = x) (kk : zJ E Y R fin n cells slots σ q L (.int x :: rest)) : zJ E Y R fin n cells slots σ pc L rest := by
  intro p e s m args below meth c H locs ls C hR hf hl
  subst hq
  exact lv_iconst C.1 C.2.1 (zdec C.2.2.2.2.2.2.2.2.2 h rfl).1 hx (kk p e s m args below meth c H locs ls C hR hf hl)
theorem zj_bipush (k : Nat) {i : Int} (x : Int32) (h : Y.rows[k]? = some (pc, .bipush i, q, u, v, w)) (hq : pc + 2 = q) (hx : (Int8.ofInt i).toInt32 = x) (kk : zJ E Y R fin n cells slots σ q L (.int x :: rest)) : zJ E Y R fin n cells slots σ pc L rest := by
  intro p e s m args below meth c H locs ls C hR hf hl
  subst hq
  exact lv_bipush C.1 C.2.1 (zdec C.2.2.2.2.2.2.2.2.2 h rfl).1 hx (kk p e s m args below meth c H locs ls C hR hf hl)
theorem zj_sipush (k : Nat) {i : Int} (x : Int32) (h : Y.rows[k]? = some (pc, .sipush i, q, u, v, w)) (hq : pc + 3 = q) (hx : (Int16.ofInt i).toInt32 = x) (kk : zJ E Y R fin n cells slots σ q L (.int x :: rest)) : zJ E Y R fin n cells slots σ pc L rest := by
  intro p e s m args below meth c H locs ls C hR hf hl
  subst hq
  exact lv_sipush C.1 C.2.1 (zdec C.2.2.2.2.2.2.2.2.2 h rfl).1 hx (kk p e s m args below meth c H locs ls C hR hf hl)
theorem zj_lconst (k : Nat) {i : Fin 2} (x : Int64) (h : Y.rows[k]? = some (pc, .lconst i, q, u, v, w)) (hq : pc + 1 = q) (hx : Int64.ofNat (i : Nat) = x) (kk : zJ E Y R fin n cells slots σ q L (.long x :: rest)) : zJ E Y R fin n cells slots σ pc L rest := by
  intro p e s m args below meth c H locs ls C hR hf hl
  subst hq
  exact lv_lconst C.1 C.2.1 (zdec C.2.2.2.2.2.2.2.2.2 h rfl).1 hx (kk p e s m args below meth c H locs ls C hR hf hl)
theorem zj_ldc (k : Nat) {i : Nat} (x : Int32) (h : Y.rows[k]? = some (pc, .ldc i, q, u, v, w)) (hq : pc + 2 = q) (hx : Int32.ofInt w = x) (kk : zJ E Y R fin n cells slots σ q L (.int x :: rest)) : zJ E Y R fin n cells slots σ pc L rest := by
  intro p e s m args below meth c H locs ls C hR hf hl
  subst hq
  have h1 := zdec C.2.2.2.2.2.2.2.2.2 h rfl
  have h2 := zCs_ok _ (List.contains_iff_mem.mp h1.2)
  rw [hx] at h2
  exact lv_ldc C.1 C.2.1 C.2.2.2.2.2.1 (C.2.2.2.2.2.2.1 _ h2) h1.1 (kk p e s m args below meth c H locs ls C hR hf hl)
theorem zj_ldcw (k : Nat) {i : Nat} (x : Int32) (h : Y.rows[k]? = some (pc, .ldc_w i, q, u, v, w)) (hq : pc + 3 = q) (hx : Int32.ofInt w = x) (kk : zJ E Y R fin n cells slots σ q L (.int x :: rest)) : zJ E Y R fin n cells slots σ pc L rest := by
  intro p e s m args below meth c H locs ls C hR hf hl
  subst hq
  have h1 := zdec C.2.2.2.2.2.2.2.2.2 h rfl
  have h2 := zCs_ok _ (List.contains_iff_mem.mp h1.2)
  rw [hx] at h2
  exact lv_ldcw C.1 C.2.1 C.2.2.2.2.2.1 (C.2.2.2.2.2.2.1 _ h2) h1.1 (kk p e s m args below meth c H locs ls C hR hf hl)
theorem zj_ldc2 (k : Nat) {i : Nat} (x : Int64) (h : Y.rows[k]? = some (pc, .ldc2_w i, q, u, v, w)) (hq : pc + 3 = q) (hx : Int64.ofInt w = x) (kk : zJ E Y R fin n cells slots σ q L (.long x :: rest)) : zJ E Y R fin n cells slots σ pc L rest := by
  intro p e s m args below meth c H locs ls C hR hf hl
  subst hq
  have h1 := zdec C.2.2.2.2.2.2.2.2.2 h rfl
  have h2 := zLs_ok _ (List.contains_iff_mem.mp h1.2)
  rw [hx] at h2
  exact lv_ldc2 C.1 C.2.1 C.2.2.2.2.2.1 (C.2.2.2.2.2.2.1 _ h2) h1.1 (kk p e s m args below meth c H locs ls C hR hf hl)
theorem zj_iload_n (k : Nat) {i : Fin 4} {x : Int32} (h : Y.rows[k]? = some (pc, .iload_n i, q, u, v, w)) (hq : pc + 1 = q) (hx : L[i.val]? = some (some (.int x))) (kk : zJ E Y R fin n cells slots σ q L (.int x :: rest)) : zJ E Y R fin n cells slots σ pc L rest := by
  intro p e s m args below meth c H locs ls C hR hf hl
  subst hq
  exact lv_iload_n C.1 C.2.1 (zdec C.2.2.2.2.2.2.2.2.2 h rfl).1 rfl (zhas_at hl hx) (kk p e s m args below meth c H locs ls C hR hf hl)
theorem zj_iload (k : Nat) {i : Nat} {x : Int32} (h : Y.rows[k]? = some (pc, .iload i, q, u, v, w)) (hq : pc + 2 = q) (hx : L[i]? = some (some (.int x))) (kk : zJ E Y R fin n cells slots σ q L (.int x :: rest)) : zJ E Y R fin n cells slots σ pc L rest := by
  intro p e s m args below meth c H locs ls C hR hf hl
  subst hq
  exact lv_iload C.1 C.2.1 (zdec C.2.2.2.2.2.2.2.2.2 h rfl).1 (zhas_at hl hx) (kk p e s m args below meth c H locs ls C hR hf hl)
theorem zj_lload_n (k : Nat) {i : Fin 4} {x : Int64} (h : Y.rows[k]? = some (pc, .lload_n i, q, u, v, w)) (hq : pc + 1 = q) (hx : L[i.val]? = some (some (.long x))) (kk : zJ E Y R fin n cells slots σ q L (.long x :: rest)) : zJ E Y R fin n cells slots σ pc L rest := by
  intro p e s m args below meth c H locs ls C hR hf hl
  subst hq
  exact lv_lload_n C.1 C.2.1 (zdec C.2.2.2.2.2.2.2.2.2 h rfl).1 rfl (zhas_at hl hx) (kk p e s m args below meth c H locs ls C hR hf hl)
theorem zj_lload (k : Nat) {i : Nat} {x : Int64} (h : Y.rows[k]? = some (pc, .lload i, q, u, v, w)) (hq : pc + 2 = q) (hx : L[i]? = some (some (.long x))) (kk : zJ E Y R fin n cells slots σ q L (.long x :: rest)) : zJ E Y R fin n cells slots σ pc L rest := by
  intro p e s m args below meth c H locs ls C hR hf hl
  subst hq
  exact lv_lload C.1 C.2.1 (zdec C.2.2.2.2.2.2.2.2.2 h rfl).1 (zhas_at hl hx) (kk p e s m args below meth c H locs ls C hR hf hl)
theorem zj_aload_n (k : Nat) {i : Fin 4} {x : Nat} (h : Y.rows[k]? = some (pc, .aload_n i, q, u, v, w)) (hq : pc + 1 = q) (hx : L[i.val]? = some (some (.ref x))) (kk : zJ E Y R fin n cells slots σ q L (.ref x :: rest)) : zJ E Y R fin n cells slots σ pc L rest := by
  intro p e s m args below meth c H locs ls C hR hf hl
  subst hq
  exact lv_aload_n C.1 C.2.1 (zdec C.2.2.2.2.2.2.2.2.2 h rfl).1 rfl (zhas_at hl hx) (kk p e s m args below meth c H locs ls C hR hf hl)
theorem zj_aload (k : Nat) {i : Nat} {x : Nat} (h : Y.rows[k]? = some (pc, .aload i, q, u, v, w)) (hq : pc + 2 = q) (hx : L[i]? = some (some (.ref x))) (kk : zJ E Y R fin n cells slots σ q L (.ref x :: rest)) : zJ E Y R fin n cells slots σ pc L rest := by
  intro p e s m args below meth c H locs ls C hR hf hl
  subst hq
  exact lv_aload C.1 C.2.1 (zdec C.2.2.2.2.2.2.2.2.2 h rfl).1 (zhas_at hl hx) (kk p e s m args below meth c H locs ls C hR hf hl)
theorem zj_istore_n (k : Nat) {i : Fin 4} {x : Int32} (h : Y.rows[k]? = some (pc, .istore_n i, q, u, v, w)) (hq : pc + 1 = q) (kk : zJ E Y R fin n cells slots σ q (zs1 L i.val (.int x)) rest) : zJ E Y R fin n cells slots σ pc L (.int x :: rest) := by
  intro p e s m args below meth c H locs ls C hR hf hl
  subst hq
  have h1 := zdec C.2.2.2.2.2.2.2.2.2 h rfl
  exact lv_istore_n C.1 C.2.1 h1.1 rfl hl (of_decide_eq_true h1.2) rfl (fun ls' hl' => kk p e s m args below meth c H locs ls' C hR hf (zhas1 hl'))
theorem zj_istore (k : Nat) {i : Nat} {x : Int32} (h : Y.rows[k]? = some (pc, .istore i, q, u, v, w)) (hq : pc + 2 = q) (kk : zJ E Y R fin n cells slots σ q (zs1 L i (.int x)) rest) : zJ E Y R fin n cells slots σ pc L (.int x :: rest) := by
  intro p e s m args below meth c H locs ls C hR hf hl
  subst hq
  have h1 := zdec C.2.2.2.2.2.2.2.2.2 h rfl
  exact lv_istore C.1 C.2.1 h1.1 hl (of_decide_eq_true h1.2) rfl (fun ls' hl' => kk p e s m args below meth c H locs ls' C hR hf (zhas1 hl'))
theorem zj_astore_n (k : Nat) {i : Fin 4} {x : Nat} (h : Y.rows[k]? = some (pc, .astore_n i, q, u, v, w)) (hq : pc + 1 = q) (kk : zJ E Y R fin n cells slots σ q (zs1 L i.val (.ref x)) rest) : zJ E Y R fin n cells slots σ pc L (.ref x :: rest) := by
  intro p e s m args below meth c H locs ls C hR hf hl
  subst hq
  have h1 := zdec C.2.2.2.2.2.2.2.2.2 h rfl
  exact lv_astore_n C.1 C.2.1 h1.1 rfl hl (of_decide_eq_true h1.2) rfl (fun ls' hl' => kk p e s m args below meth c H locs ls' C hR hf (zhas1 hl'))
theorem zj_astore (k : Nat) {i : Nat} {x : Nat} (h : Y.rows[k]? = some (pc, .astore i, q, u, v, w)) (hq : pc + 2 = q) (kk : zJ E Y R fin n cells slots σ q (zs1 L i (.ref x)) rest) : zJ E Y R fin n cells slots σ pc L (.ref x :: rest) := by
  intro p e s m args below meth c H locs ls C hR hf hl
  subst hq
  have h1 := zdec C.2.2.2.2.2.2.2.2.2 h rfl
  exact lv_astore C.1 C.2.1 h1.1 hl (of_decide_eq_true h1.2) rfl (fun ls' hl' => kk p e s m args below meth c H locs ls' C hR hf (zhas1 hl'))
theorem zj_lstore_n (k : Nat) {i : Fin 4} {x : Int64} (h : Y.rows[k]? = some (pc, .lstore_n i, q, u, v, w)) (hq : pc + 1 = q) (kk : zJ E Y R fin n cells slots σ q (zs2 L i.val (.long x)) rest) : zJ E Y R fin n cells slots σ pc L (.long x :: rest) := by
  intro p e s m args below meth c H locs ls C hR hf hl
  subst hq
  have h1 := zdec C.2.2.2.2.2.2.2.2.2 h rfl
  exact lv_lstore_n C.1 C.2.1 h1.1 rfl hl (of_decide_eq_true h1.2) rfl (fun ls' hl' => kk p e s m args below meth c H locs ls' C hR hf (zhas2 hl'))
theorem zj_lstore (k : Nat) {i : Nat} {x : Int64} (h : Y.rows[k]? = some (pc, .lstore i, q, u, v, w)) (hq : pc + 2 = q) (kk : zJ E Y R fin n cells slots σ q (zs2 L i (.long x)) rest) : zJ E Y R fin n cells slots σ pc L (.long x :: rest) := by
  intro p e s m args below meth c H locs ls C hR hf hl
  subst hq
  have h1 := zdec C.2.2.2.2.2.2.2.2.2 h rfl
  exact lv_lstore C.1 C.2.1 h1.1 hl (of_decide_eq_true h1.2) rfl (fun ls' hl' => kk p e s m args below meth c H locs ls' C hR hf (zhas2 hl'))
theorem zj_iinc (k : Nat) {i : Nat} {j : Int} {x : Int32} (d : Int32) (h : Y.rows[k]? = some (pc, .iinc i j, q, u, v, w)) (hq : pc + 3 = q) (hx : L[i]? = some (some (.int x))) (hd : Int32.ofInt j = d) (kk : zJ E Y R fin n cells slots σ q (zs1 L i (.int (x + d))) rest) : zJ E Y R fin n cells slots σ pc L rest := by
  intro p e s m args below meth c H locs ls C hR hf hl
  subst hq
  subst hd
  have h1 := zdec C.2.2.2.2.2.2.2.2.2 h rfl
  obtain ⟨kx, hkx⟩ := List.getElem?_of_mem (zlv_mem (k := 0) hx)
  rw [Nat.zero_add] at hkx
  exact lv_iinc (k := kx) C.1 C.2.1 h1.1 hl hkx rfl (of_decide_eq_true h1.2) rfl (fun ls' hl' => kk p e s m args below meth c H locs ls' C hR hf (zhas1 hl'))
theorem zj_iadd (k : Nat) {x y : Int32} (h : Y.rows[k]? = some (pc, .iadd, q, u, v, w)) (hq : pc + 1 = q) (kk : zJ E Y R fin n cells slots σ q L (.int (x + y) :: rest)) : zJ E Y R fin n cells slots σ pc L (.int y :: .int x :: rest) := by
  intro p e s m args below meth c H locs ls C hR hf hl
  subst hq
  exact lv_iadd C.1 C.2.1 (zdec C.2.2.2.2.2.2.2.2.2 h rfl).1 (kk p e s m args below meth c H locs ls C hR hf hl)
theorem zj_isub (k : Nat) {x y : Int32} (h : Y.rows[k]? = some (pc, .isub, q, u, v, w)) (hq : pc + 1 = q) (kk : zJ E Y R fin n cells slots σ q L (.int (x - y) :: rest)) : zJ E Y R fin n cells slots σ pc L (.int y :: .int x :: rest) := by
  intro p e s m args below meth c H locs ls C hR hf hl
  subst hq
  exact lv_isub C.1 C.2.1 (zdec C.2.2.2.2.2.2.2.2.2 h rfl).1 (kk p e s m args below meth c H locs ls C hR hf hl)
theorem zj_imul (k : Nat) {x y : Int32} (h : Y.rows[k]? = some (pc, .imul, q, u, v, w)) (hq : pc + 1 = q) (kk : zJ E Y R fin n cells slots σ q L (.int (x * y) :: rest)) : zJ E Y R fin n cells slots σ pc L (.int y :: .int x :: rest) := by
  intro p e s m args below meth c H locs ls C hR hf hl
  subst hq
  exact lv_imul C.1 C.2.1 (zdec C.2.2.2.2.2.2.2.2.2 h rfl).1 (kk p e s m args below meth c H locs ls C hR hf hl)
theorem zj_iand (k : Nat) {x y : Int32} (h : Y.rows[k]? = some (pc, .iand, q, u, v, w)) (hq : pc + 1 = q) (kk : zJ E Y R fin n cells slots σ q L (.int (x &&& y) :: rest)) : zJ E Y R fin n cells slots σ pc L (.int y :: .int x :: rest) := by
  intro p e s m args below meth c H locs ls C hR hf hl
  subst hq
  exact lv_iand C.1 C.2.1 (zdec C.2.2.2.2.2.2.2.2.2 h rfl).1 (kk p e s m args below meth c H locs ls C hR hf hl)
theorem zj_ior (k : Nat) {x y : Int32} (h : Y.rows[k]? = some (pc, .ior, q, u, v, w)) (hq : pc + 1 = q) (kk : zJ E Y R fin n cells slots σ q L (.int (x ||| y) :: rest)) : zJ E Y R fin n cells slots σ pc L (.int y :: .int x :: rest) := by
  intro p e s m args below meth c H locs ls C hR hf hl
  subst hq
  exact lv_ior C.1 C.2.1 (zdec C.2.2.2.2.2.2.2.2.2 h rfl).1 (kk p e s m args below meth c H locs ls C hR hf hl)
theorem zj_ixor (k : Nat) {x y : Int32} (h : Y.rows[k]? = some (pc, .ixor, q, u, v, w)) (hq : pc + 1 = q) (kk : zJ E Y R fin n cells slots σ q L (.int (x ^^^ y) :: rest)) : zJ E Y R fin n cells slots σ pc L (.int y :: .int x :: rest) := by
  intro p e s m args below meth c H locs ls C hR hf hl
  subst hq
  exact lv_ixor C.1 C.2.1 (zdec C.2.2.2.2.2.2.2.2.2 h rfl).1 (kk p e s m args below meth c H locs ls C hR hf hl)
theorem zj_ishl (k : Nat) {x y : Int32} (h : Y.rows[k]? = some (pc, .ishl, q, u, v, w)) (hq : pc + 1 = q) (kk : zJ E Y R fin n cells slots σ q L (.int (x <<< (y &&& 31)) :: rest)) : zJ E Y R fin n cells slots σ pc L (.int y :: .int x :: rest) := by
  intro p e s m args below meth c H locs ls C hR hf hl
  subst hq
  exact lv_ishl C.1 C.2.1 (zdec C.2.2.2.2.2.2.2.2.2 h rfl).1 (kk p e s m args below meth c H locs ls C hR hf hl)
theorem zj_ishr (k : Nat) {x y : Int32} (h : Y.rows[k]? = some (pc, .ishr, q, u, v, w)) (hq : pc + 1 = q) (kk : zJ E Y R fin n cells slots σ q L (.int (x >>> (y &&& 31)) :: rest)) : zJ E Y R fin n cells slots σ pc L (.int y :: .int x :: rest) := by
  intro p e s m args below meth c H locs ls C hR hf hl
  subst hq
  exact lv_ishr C.1 C.2.1 (zdec C.2.2.2.2.2.2.2.2.2 h rfl).1 (kk p e s m args below meth c H locs ls C hR hf hl)
theorem zj_idiv (k : Nat) {x y : Int32} (h : Y.rows[k]? = some (pc, .idiv, q, u, v, w)) (hq : pc + 1 = q) (hne : ¬ y = 0) (kk : zJ E Y R fin n cells slots σ q L (.int (x / y) :: rest)) : zJ E Y R fin n cells slots σ pc L (.int y :: .int x :: rest) := by
  intro p e s m args below meth c H locs ls C hR hf hl
  subst hq
  exact lv_idiv C.1 C.2.1 (zdec C.2.2.2.2.2.2.2.2.2 h rfl).1 hne (kk p e s m args below meth c H locs ls C hR hf hl)
theorem zj_irem (k : Nat) {x y : Int32} (h : Y.rows[k]? = some (pc, .irem, q, u, v, w)) (hq : pc + 1 = q) (hne : ¬ y = 0) (kk : zJ E Y R fin n cells slots σ q L (.int (x - x / y * y) :: rest)) : zJ E Y R fin n cells slots σ pc L (.int y :: .int x :: rest) := by
  intro p e s m args below meth c H locs ls C hR hf hl
  subst hq
  exact lv_irem C.1 C.2.1 (zdec C.2.2.2.2.2.2.2.2.2 h rfl).1 hne (kk p e s m args below meth c H locs ls C hR hf hl)
theorem zj_iushr (k : Nat) {x y : Int32} (h : Y.rows[k]? = some (pc, .iushr, q, u, v, w)) (hq : pc + 1 = q) (kk : zJ E Y R fin n cells slots σ q L (.int ((x.toUInt32 >>> (y.toUInt32 &&& Int32.toUInt32 31)).toInt32) :: rest)) : zJ E Y R fin n cells slots σ pc L (.int y :: .int x :: rest) := by
  intro p e s m args below meth c H locs ls C hR hf hl
  subst hq
  exact lv_iushr C.1 C.2.1 (zdec C.2.2.2.2.2.2.2.2.2 h rfl).1 rfl (kk p e s m args below meth c H locs ls C hR hf hl)
theorem zj_ineg (k : Nat) {x : Int32} (h : Y.rows[k]? = some (pc, .ineg, q, u, v, w)) (hq : pc + 1 = q) (kk : zJ E Y R fin n cells slots σ q L (.int (-x) :: rest)) : zJ E Y R fin n cells slots σ pc L (.int x :: rest) := by
  intro p e s m args below meth c H locs ls C hR hf hl
  subst hq
  exact lv_ineg C.1 C.2.1 (zdec C.2.2.2.2.2.2.2.2.2 h rfl).1 (kk p e s m args below meth c H locs ls C hR hf hl)
theorem zj_ladd (k : Nat) {x y : Int64} (h : Y.rows[k]? = some (pc, .ladd, q, u, v, w)) (hq : pc + 1 = q) (kk : zJ E Y R fin n cells slots σ q L (.long (x + y) :: rest)) : zJ E Y R fin n cells slots σ pc L (.long y :: .long x :: rest) := by
  intro p e s m args below meth c H locs ls C hR hf hl
  subst hq
  exact lv_ladd C.1 C.2.1 (zdec C.2.2.2.2.2.2.2.2.2 h rfl).1 (kk p e s m args below meth c H locs ls C hR hf hl)
theorem zj_lsub (k : Nat) {x y : Int64} (h : Y.rows[k]? = some (pc, .lsub, q, u, v, w)) (hq : pc + 1 = q) (kk : zJ E Y R fin n cells slots σ q L (.long (x - y) :: rest)) : zJ E Y R fin n cells slots σ pc L (.long y :: .long x :: rest) := by
  intro p e s m args below meth c H locs ls C hR hf hl
  subst hq
  exact lv_lsub C.1 C.2.1 (zdec C.2.2.2.2.2.2.2.2.2 h rfl).1 (kk p e s m args below meth c H locs ls C hR hf hl)
theorem zj_lmul (k : Nat) {x y : Int64} (h : Y.rows[k]? = some (pc, .lmul, q, u, v, w)) (hq : pc + 1 = q) (kk : zJ E Y R fin n cells slots σ q L (.long (x * y) :: rest)) : zJ E Y R fin n cells slots σ pc L (.long y :: .long x :: rest) := by
  intro p e s m args below meth c H locs ls C hR hf hl
  subst hq
  exact lv_lmul C.1 C.2.1 (zdec C.2.2.2.2.2.2.2.2.2 h rfl).1 (kk p e s m args below meth c H locs ls C hR hf hl)
theorem zj_ldiv (k : Nat) {x y : Int64} (h : Y.rows[k]? = some (pc, .ldiv, q, u, v, w)) (hq : pc + 1 = q) (hne : ¬ y = 0) (kk : zJ E Y R fin n cells slots σ q L (.long (x / y) :: rest)) : zJ E Y R fin n cells slots σ pc L (.long y :: .long x :: rest) := by
  intro p e s m args below meth c H locs ls C hR hf hl
  subst hq
  exact lv_ldiv C.1 C.2.1 (zdec C.2.2.2.2.2.2.2.2.2 h rfl).1 hne (kk p e s m args below meth c H locs ls C hR hf hl)
theorem zj_lrem (k : Nat) {x y : Int64} (h : Y.rows[k]? = some (pc, .lrem, q, u, v, w)) (hq : pc + 1 = q) (hne : ¬ y = 0) (kk : zJ E Y R fin n cells slots σ q L (.long (x - x / y * y) :: rest)) : zJ E Y R fin n cells slots σ pc L (.long y :: .long x :: rest) := by
  intro p e s m args below meth c H locs ls C hR hf hl
  subst hq
  exact lv_lrem C.1 C.2.1 (zdec C.2.2.2.2.2.2.2.2.2 h rfl).1 hne (kk p e s m args below meth c H locs ls C hR hf hl)
theorem zj_lneg (k : Nat) {x : Int64} (h : Y.rows[k]? = some (pc, .lneg, q, u, v, w)) (hq : pc + 1 = q) (kk : zJ E Y R fin n cells slots σ q L (.long (-x) :: rest)) : zJ E Y R fin n cells slots σ pc L (.long x :: rest) := by
  intro p e s m args below meth c H locs ls C hR hf hl
  subst hq
  exact lv_lneg C.1 C.2.1 (zdec C.2.2.2.2.2.2.2.2.2 h rfl).1 (kk p e s m args below meth c H locs ls C hR hf hl)
theorem zj_i2l (k : Nat) {x : Int32} (h : Y.rows[k]? = some (pc, .i2l, q, u, v, w)) (hq : pc + 1 = q) (kk : zJ E Y R fin n cells slots σ q L (.long x.toInt64 :: rest)) : zJ E Y R fin n cells slots σ pc L (.int x :: rest) := by
  intro p e s m args below meth c H locs ls C hR hf hl
  subst hq
  exact lv_i2l C.1 C.2.1 (zdec C.2.2.2.2.2.2.2.2.2 h rfl).1 rfl (kk p e s m args below meth c H locs ls C hR hf hl)
theorem zj_lcmp (k : Nat) {x y : Int64} (h : Y.rows[k]? = some (pc, .lcmp, q, u, v, w)) (hq : pc + 1 = q) (kk : zJ E Y R fin n cells slots σ q L (.int (lg_cmp x y) :: rest)) : zJ E Y R fin n cells slots σ pc L (.long y :: .long x :: rest) := by
  intro p e s m args below meth c H locs ls C hR hf hl
  subst hq
  exact W.lcmp C.1 C.2.1 (zdec C.2.2.2.2.2.2.2.2.2 h rfl).1 (kk p e s m args below meth c H locs ls C hR hf hl)
theorem zj_dup (k : Nat) {va : Value} (h : Y.rows[k]? = some (pc, .dup, q, u, v, w)) (hq : pc + 1 = q) (hva : va.category = 1) (kk : zJ E Y R fin n cells slots σ q L (va :: va :: rest)) : zJ E Y R fin n cells slots σ pc L (va :: rest) := by
  intro p e s m args below meth c H locs ls C hR hf hl
  subst hq
  exact lv_dup C.1 C.2.1 (zdec C.2.2.2.2.2.2.2.2.2 h rfl).1 hva (kk p e s m args below meth c H locs ls C hR hf hl)
theorem zj_pop (k : Nat) {va : Value} (h : Y.rows[k]? = some (pc, .pop, q, u, v, w)) (hq : pc + 1 = q) (hva : va.category = 1) (kk : zJ E Y R fin n cells slots σ q L (rest)) : zJ E Y R fin n cells slots σ pc L (va :: rest) := by
  intro p e s m args below meth c H locs ls C hR hf hl
  subst hq
  exact lv_pop C.1 C.2.1 (zdec C.2.2.2.2.2.2.2.2.2 h rfl).1 hva (kk p e s m args below meth c H locs ls C hR hf hl)
theorem zj_dup2 (k : Nat) {va vb : Value} (h : Y.rows[k]? = some (pc, .dup2, q, u, v, w)) (hq : pc + 1 = q) (hva : va.category = 1) (hvb : vb.category = 1) (kk : zJ E Y R fin n cells slots σ q L (va :: vb :: va :: vb :: rest)) : zJ E Y R fin n cells slots σ pc L (va :: vb :: rest) := by
  intro p e s m args below meth c H locs ls C hR hf hl
  subst hq
  exact lv_dup2_11 C.1 C.2.1 (zdec C.2.2.2.2.2.2.2.2.2 h rfl).1 hva hvb (kk p e s m args below meth c H locs ls C hR hf hl)
theorem zj_if_eq (k : Nat) {x : Int32} {off : Int} (h : Y.rows[k]? = some (pc, .ifCond .eq off, q, u, v, w)) (hq : pc + 3 = q) (kt : x = 0 → zJ E Y R fin n cells slots σ u L rest) (kf : ¬ x = 0 → zJ E Y R fin n cells slots σ q L rest) : zJ E Y R fin n cells slots σ pc L (.int x :: rest) := by
  intro p e s m args below meth c H locs ls C hR hf hl
  subst hq
  have h1 := zdec C.2.2.2.2.2.2.2.2.2 h rfl
  exact lv_if_eq C.1 C.2.1 h1.1 (of_decide_eq_true h1.2) (fun g => kt g p e s m args below meth c H locs ls C hR hf hl) (fun g => kf g p e s m args below meth c H locs ls C hR hf hl)
theorem zj_icmp_eq (k : Nat) {x y : Int32} {off : Int} (h : Y.rows[k]? = some (pc, .if_icmp .eq off, q, u, v, w)) (hq : pc + 3 = q) (kt : x = y → zJ E Y R fin n cells slots σ u L rest) (kf : ¬ x = y → zJ E Y R fin n cells slots σ q L rest) : zJ E Y R fin n cells slots σ pc L (.int y :: .int x :: rest) := by
  intro p e s m args below meth c H locs ls C hR hf hl
  subst hq
  have h1 := zdec C.2.2.2.2.2.2.2.2.2 h rfl
  exact lv_icmp_eq C.1 C.2.1 h1.1 (of_decide_eq_true h1.2) (fun g => kt g p e s m args below meth c H locs ls C hR hf hl) (fun g => kf g p e s m args below meth c H locs ls C hR hf hl)
theorem zj_if_ne (k : Nat) {x : Int32} {off : Int} (h : Y.rows[k]? = some (pc, .ifCond .ne off, q, u, v, w)) (hq : pc + 3 = q) (kt : ¬ x = 0 → zJ E Y R fin n cells slots σ u L rest) (kf : x = 0 → zJ E Y R fin n cells slots σ q L rest) : zJ E Y R fin n cells slots σ pc L (.int x :: rest) := by
  intro p e s m args below meth c H locs ls C hR hf hl
  subst hq
  have h1 := zdec C.2.2.2.2.2.2.2.2.2 h rfl
  exact lv_if_ne C.1 C.2.1 h1.1 (of_decide_eq_true h1.2) (fun g => kt g p e s m args below meth c H locs ls C hR hf hl) (fun g => kf g p e s m args below meth c H locs ls C hR hf hl)
theorem zj_icmp_ne (k : Nat) {x y : Int32} {off : Int} (h : Y.rows[k]? = some (pc, .if_icmp .ne off, q, u, v, w)) (hq : pc + 3 = q) (kt : ¬ x = y → zJ E Y R fin n cells slots σ u L rest) (kf : x = y → zJ E Y R fin n cells slots σ q L rest) : zJ E Y R fin n cells slots σ pc L (.int y :: .int x :: rest) := by
  intro p e s m args below meth c H locs ls C hR hf hl
  subst hq
  have h1 := zdec C.2.2.2.2.2.2.2.2.2 h rfl
  exact lv_icmp_ne C.1 C.2.1 h1.1 (of_decide_eq_true h1.2) (fun g => kt g p e s m args below meth c H locs ls C hR hf hl) (fun g => kf g p e s m args below meth c H locs ls C hR hf hl)
theorem zj_if_lt (k : Nat) {x : Int32} {off : Int} (h : Y.rows[k]? = some (pc, .ifCond .lt off, q, u, v, w)) (hq : pc + 3 = q) (kt : x < 0 → zJ E Y R fin n cells slots σ u L rest) (kf : ¬ x < 0 → zJ E Y R fin n cells slots σ q L rest) : zJ E Y R fin n cells slots σ pc L (.int x :: rest) := by
  intro p e s m args below meth c H locs ls C hR hf hl
  subst hq
  have h1 := zdec C.2.2.2.2.2.2.2.2.2 h rfl
  exact lv_if_lt C.1 C.2.1 h1.1 (of_decide_eq_true h1.2) (fun g => kt g p e s m args below meth c H locs ls C hR hf hl) (fun g => kf g p e s m args below meth c H locs ls C hR hf hl)
theorem zj_icmp_lt (k : Nat) {x y : Int32} {off : Int} (h : Y.rows[k]? = some (pc, .if_icmp .lt off, q, u, v, w)) (hq : pc + 3 = q) (kt : x < y → zJ E Y R fin n cells slots σ u L rest) (kf : ¬ x < y → zJ E Y R fin n cells slots σ q L rest) : zJ E Y R fin n cells slots σ pc L (.int y :: .int x :: rest) := by
  intro p e s m args below meth c H locs ls C hR hf hl
  subst hq
  have h1 := zdec C.2.2.2.2.2.2.2.2.2 h rfl
  exact lv_icmp_lt C.1 C.2.1 h1.1 (of_decide_eq_true h1.2) (fun g => kt g p e s m args below meth c H locs ls C hR hf hl) (fun g => kf g p e s m args below meth c H locs ls C hR hf hl)
theorem zj_if_ge (k : Nat) {x : Int32} {off : Int} (h : Y.rows[k]? = some (pc, .ifCond .ge off, q, u, v, w)) (hq : pc + 3 = q) (kt : 0 ≤ x → zJ E Y R fin n cells slots σ u L rest) (kf : ¬ 0 ≤ x → zJ E Y R fin n cells slots σ q L rest) : zJ E Y R fin n cells slots σ pc L (.int x :: rest) := by
  intro p e s m args below meth c H locs ls C hR hf hl
  subst hq
  have h1 := zdec C.2.2.2.2.2.2.2.2.2 h rfl
  exact lv_if_ge C.1 C.2.1 h1.1 (of_decide_eq_true h1.2) (fun g => kt g p e s m args below meth c H locs ls C hR hf hl) (fun g => kf g p e s m args below meth c H locs ls C hR hf hl)
theorem zj_icmp_ge (k : Nat) {x y : Int32} {off : Int} (h : Y.rows[k]? = some (pc, .if_icmp .ge off, q, u, v, w)) (hq : pc + 3 = q) (kt : y ≤ x → zJ E Y R fin n cells slots σ u L rest) (kf : ¬ y ≤ x → zJ E Y R fin n cells slots σ q L rest) : zJ E Y R fin n cells slots σ pc L (.int y :: .int x :: rest) := by
  intro p e s m args below meth c H locs ls C hR hf hl
  subst hq
  have h1 := zdec C.2.2.2.2.2.2.2.2.2 h rfl
  exact lv_icmp_ge C.1 C.2.1 h1.1 (of_decide_eq_true h1.2) (fun g => kt g p e s m args below meth c H locs ls C hR hf hl) (fun g => kf g p e s m args below meth c H locs ls C hR hf hl)
theorem zj_if_gt (k : Nat) {x : Int32} {off : Int} (h : Y.rows[k]? = some (pc, .ifCond .gt off, q, u, v, w)) (hq : pc + 3 = q) (kt : 0 < x → zJ E Y R fin n cells slots σ u L rest) (kf : ¬ 0 < x → zJ E Y R fin n cells slots σ q L rest) : zJ E Y R fin n cells slots σ pc L (.int x :: rest) := by
  intro p e s m args below meth c H locs ls C hR hf hl
  subst hq
  have h1 := zdec C.2.2.2.2.2.2.2.2.2 h rfl
  exact lv_if_gt C.1 C.2.1 h1.1 (of_decide_eq_true h1.2) (fun g => kt g p e s m args below meth c H locs ls C hR hf hl) (fun g => kf g p e s m args below meth c H locs ls C hR hf hl)
theorem zj_icmp_gt (k : Nat) {x y : Int32} {off : Int} (h : Y.rows[k]? = some (pc, .if_icmp .gt off, q, u, v, w)) (hq : pc + 3 = q) (kt : y < x → zJ E Y R fin n cells slots σ u L rest) (kf : ¬ y < x → zJ E Y R fin n cells slots σ q L rest) : zJ E Y R fin n cells slots σ pc L (.int y :: .int x :: rest) := by
  intro p e s m args below meth c H locs ls C hR hf hl
  subst hq
  have h1 := zdec C.2.2.2.2.2.2.2.2.2 h rfl
  exact lv_icmp_gt C.1 C.2.1 h1.1 (of_decide_eq_true h1.2) (fun g => kt g p e s m args below meth c H locs ls C hR hf hl) (fun g => kf g p e s m args below meth c H locs ls C hR hf hl)
theorem zj_if_le (k : Nat) {x : Int32} {off : Int} (h : Y.rows[k]? = some (pc, .ifCond .le off, q, u, v, w)) (hq : pc + 3 = q) (kt : x ≤ 0 → zJ E Y R fin n cells slots σ u L rest) (kf : ¬ x ≤ 0 → zJ E Y R fin n cells slots σ q L rest) : zJ E Y R fin n cells slots σ pc L (.int x :: rest) := by
  intro p e s m args below meth c H locs ls C hR hf hl
  subst hq
  have h1 := zdec C.2.2.2.2.2.2.2.2.2 h rfl
  exact lv_if_le C.1 C.2.1 h1.1 (of_decide_eq_true h1.2) (fun g => kt g p e s m args below meth c H locs ls C hR hf hl) (fun g => kf g p e s m args below meth c H locs ls C hR hf hl)
theorem zj_icmp_le (k : Nat) {x y : Int32} {off : Int} (h : Y.rows[k]? = some (pc, .if_icmp .le off, q, u, v, w)) (hq : pc + 3 = q) (kt : x ≤ y → zJ E Y R fin n cells slots σ u L rest) (kf : ¬ x ≤ y → zJ E Y R fin n cells slots σ q L rest) : zJ E Y R fin n cells slots σ pc L (.int y :: .int x :: rest) := by
  intro p e s m args below meth c H locs ls C hR hf hl
  subst hq
  have h1 := zdec C.2.2.2.2.2.2.2.2.2 h rfl
  exact lv_icmp_le C.1 C.2.1 h1.1 (of_decide_eq_true h1.2) (fun g => kt g p e s m args below meth c H locs ls C hR hf hl) (fun g => kf g p e s m args below meth c H locs ls C hR hf hl)
theorem zj_goto (k : Nat) {off : Int} (h : Y.rows[k]? = some (pc, .goto off, q, u, v, w)) (hq : pc + 3 = q) (kk : zJ E Y R fin n cells slots σ u L rest) : zJ E Y R fin n cells slots σ pc L rest := by
  intro p e s m args below meth c H locs ls C hR hf hl
  subst hq
  have h1 := zdec C.2.2.2.2.2.2.2.2.2 h rfl
  exact lv_goto C.1 C.2.1 h1.1 (of_decide_eq_true h1.2) (kk p e s m args below meth c H locs ls C hR hf hl)
end
