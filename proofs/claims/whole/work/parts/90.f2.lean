/-! constructors: rows and contracts -/
def zrC (d mc ms : Nat) : Room := { frames := d, cells := mc, slots := ms, locals := 64 * d }
def zCX (E : zE) (Y : zY) (d mc ms : Nat) (av : List Value) (n : Nat) (σ : zH) (n' : Nat) (P : zH → Prop) : Prop := zMet E Y (zrC d mc ms) mc ms av n σ (fun r m s => r = none ∧ m = n' ∧ P s)
def zRgC (R : Room) (nL d cells slots mc ms : Nat) : Bool := (d + 1).ble R.frames && (nL + 19 + 64 * d).ble R.locals && (cells + mc).ble R.cells && (slots + ms).ble R.slots
theorem zRgC_f {R : Room} {nL d cells slots mc ms : Nat} (h : zRgC R nL d cells slots mc ms = true) : zRf R (zrC d mc ms) nL cells slots mc ms := by
  unfold zRgC at h
  simp only [Bool.and_eq_true] at h
  obtain ⟨⟨⟨h1, h2⟩, h3⟩, h4⟩ := h
  have h2 := Nat.le_of_ble_eq_true h2
  exact ⟨⟨rfl, rfl⟩, ⟨Nat.le_of_ble_eq_true h1, by show 8 + (nL + 11) + 64 * d ≤ _; omega⟩, Nat.le_of_ble_eq_true h3, Nat.le_of_ble_eq_true h4⟩
abbrev Z0 : zMo := (fun _ _ => 0, fun _ _ => 0, fun _ => 0, fun _ => 0)
section
variable {E : zE} {Y Yc : zY} {R : Room} {fin : zF} {n cells slots : Nat} {σ : zH} {pc q u v idx : Nat} {w : Int} {L : List (Option Value)} {rest st : List Value}
theorem zj_cC (k : Nat) {d mc ms n' b : Nat} {P : zH → Prop} (h : Y.rows[k]? = some (pc, .invokespecial idx, q, u, v, w)) (hq : pc + 3 = q) (lk : zLk Y.oc idx Yc.nm) (ck : zCkI Yc 0) (hM : zCX E Yc d mc ms [.ref b] n σ n' P) (hrest : ((rest.map Value.category).sum).ble 8 = true) (hRm : zRgC R Yc.nL d cells slots mc ms = true) (kk : ∀ τ, P τ → zJ E Y R fin n' (cells + mc) (slots + ms) τ q L rest) : zJ E Y R fin n cells slots σ pc L (.ref b :: rest) :=
  zj_ci (as := []) k h hq lk ck hM rfl rfl (Nat.le_of_ble_eq_true hrest) (zRgC_f hRm) (fun r n1 s1 hQ => by obtain ⟨rfl, rfl, h3⟩ := hQ; exact kk _ h3)
theorem zj_newG (k : Nat) {ci N m m' : Nat} (fs : List Value) (h : Y.rows[k]? = some (pc, .new idx, q, u, v, w)) (hq : pc + 3 = q) (hci : ci < 9) (hN : zNN ci = N) (hcl : Cond.classLink (zcn Y.oc) idx (zcn ci) ∈ zTbl) (hinst : Cond.instantiable (zcn ci) (zNN ci) ∈ zTbl) (hini : Cond.initialized (zcn ci) ∈ zTbl) (hfs : ∀ j, j < zNN ci → defaultValue (zYY ci j) = vp_V fs j) (hm : n = m) (hm' : m + 1 = m') (hz : E.z ≤ m) (hcells : (cells + 1).ble R.cells = true) (hslots : (slots + N).ble R.slots = true)
    (kk : ∀ τ, zsm σ τ m (m + 1) → τ m = some (.inr (ci, fs)) → zJ E Y R fin m' (cells + 1) (slots + N) τ q L (.ref m :: rest)) : zJ E Y R fin n cells slots σ pc L rest := by
  subst hm; subst hm'
  exact zj_new k fs h hq hci hN hcl hinst hini hfs hz hcells hslots (kk _ zsm_zup (zup_eq _ _ _))
theorem zj_newaG (k : Nat) {at0 : ArrayType} (t N : Nat) {m m' : Nat} (a0 : (Nat → Int32) ⊕ (Nat → Int64) ⊕ (Nat → UInt32) ⊕ (Nat → UInt64) ⊕ (Nat → Option Nat)) {x : Int32} (h : Y.rows[k]? = some (pc, .newarray at0, q, u, v, w)) (hq : pc + 2 = q) (hty : newarray.typeOf at0 = zty t) (ht : t < 3) (harr : Cond.arrayClass (zty t) ∈ zTbl) (ha : ∀ cA : ClassId, vp_cell cA (N, a0) = arrV cA N (fun _ => defaultValue (zty t))) (hx : x = nI N) (hN : N < 100000) (hb : componentBytes (zty t) ≤ 8) (hm : n = m) (hm' : m + 1 = m') (hz : E.z ≤ m) (hcells : (cells + 1).ble R.cells = true) (hslots : (slots + N).ble R.slots = true)
    (kk : ∀ τ, zsm σ τ m (m + 1) → τ m = some (.inl (t, N, a0)) → zJ E Y R fin m' (cells + 1) (slots + N) τ q L (.ref m :: rest)) : zJ E Y R fin n cells slots σ pc L (.int x :: rest) := by
  subst hm; subst hm'
  exact zj_newa k t N h hq hty ht harr ha hx hN hb hz hcells hslots (kk _ zsm_zup (zup_eq _ _ _))
theorem zj_anewaG (k : Nat) (t N : Nat) {m m' : Nat} {Cn : String} {x : Int32} (h : Y.rows[k]? = some (pc, .anewarray idx, q, u, v, w)) (hq : pc + 3 = q) (hty : zty t = .object Cn) (ht : 3 ≤ t ∧ t < 6) (hcl : Cond.classLink (zcn Y.oc) idx Cn ∈ zTbl) (hx : x = nI N) (hN : N < 100000) (hm : n = m) (hm' : m + 1 = m') (hz : E.z ≤ m) (hcells : (cells + 1).ble R.cells = true) (hslots : (slots + N).ble R.slots = true)
    (kk : ∀ τ, zsm σ τ m (m + 1) → τ m = some (.inl (t, N, .inr (.inr (.inr (.inr (fun _ => none)))))) → zJ E Y R fin m' (cells + 1) (slots + N) τ q L (.ref m :: rest)) : zJ E Y R fin n cells slots σ pc L (.int x :: rest) := by
  subst hm; subst hm'
  exact zj_anewa k t N h hq hty ht hcl hx hN hz hcells hslots (kk _ zsm_zup (zup_eq _ _ _))
theorem zj_aastG (k : Nat) {a N t ci b : Nat} {f : Nat → Option Nat} {fs : List Value} (j : Nat) {i : Int32} (h : Y.rows[k]? = some (pc, .aastore, q, u, v, w)) (hq : pc + 1 = q) (hs : σ a = some (.inl (t, N, .inr (.inr (.inr (.inr f)))))) (hb : σ b = some (.inr (ci, fs))) (ht : 3 ≤ t ∧ t < 6) (hci : ci < 9) (hty : zty t = .object (zcn ci)) (hi : i = nI j) (hj : j < N) (hN : N < 2 ^ 31)
    (kk : ∀ τ, zsm σ τ a (a + 1) → τ a = some (.inl (t, N, .inr (.inr (.inr (.inr (va_up f j (some b))))))) → zJ E Y R fin n cells slots τ q L rest) : zJ E Y R fin n cells slots σ pc L (.ref b :: .int i :: .ref a :: rest) :=
  zj_aast k j h hq hs hb ht hci hty hi hj hN (kk _ zsm_zup (zup_eq _ _ _))
theorem zj_putFG (k : Nat) {a : Nat} {fs fs' : List Value} {x : Value} (h : Y.rows[k]? = some (pc, .putfield idx, q, u, v, w)) (hq : pc + 3 = q) (hs : σ a = some (.inr (u, fs))) (hfin : (zTT u v).2.2.2 = true) (hnm : Y.nm.name = "<init>") (hdecl : (zTT u v).1 = zcn Y.oc) (hn : narrow (zYY u v) x = x) (hfit : fits (zYY u v) x = true) (hl0 : v.blt fs.length = true) (hfs : fs.set v x = fs')
    (kk : ∀ τ, zsm σ τ a (a + 1) → τ a = some (.inr (u, fs')) → zJ E Y R fin n cells slots τ q L rest) : zJ E Y R fin n cells slots σ pc L (x :: .ref a :: rest) := by
  subst hfs
  exact zj_putF k h hq hs hfin hnm hdecl hn hfit hl0 rfl (kk _ zsm_zup (zup_eq _ _ _))
theorem zj_putG (k : Nat) {a : Nat} {fs fs' : List Value} {x : Value} (h : Y.rows[k]? = some (pc, .putfield idx, q, u, v, w)) (hq : pc + 3 = q) (hs : σ a = some (.inr (u, fs))) (hfin : (zTT u v).2.2.2 = false) (hn : narrow (zYY u v) x = x) (hfit : fits (zYY u v) x = true) (hl0 : v.blt fs.length = true) (hfs : fs.set v x = fs')
    (kk : ∀ τ, zsm σ τ a (a + 1) → τ a = some (.inr (u, fs')) → zJ E Y R fin n cells slots τ q L rest) : zJ E Y R fin n cells slots σ pc L (x :: .ref a :: rest) := by
  subst hfs
  exact zn_put k h hq hs hfin hn hfit hl0 rfl (kk _ zsm_zup (zup_eq _ _ _))
theorem zj_iastG (k j : Nat) {a N : Nat} {f : Nat → Int32} {x y : Int32} (h : Y.rows[k]? = some (pc, .iastore, q, u, v, w)) (hq : pc + 1 = q) (hs : σ a = some (.inl (0, N, .inl f))) (hx : x = nI j) (hj : j < N) (hN : N < 2 ^ 31)
    (kk : ∀ τ, zsm σ τ a (a + 1) → τ a = some (.inl (0, N, .inl (va_up f j y))) → zJ E Y R fin n cells slots τ q L rest) : zJ E Y R fin n cells slots σ pc L (.int y :: .int x :: .ref a :: rest) :=
  zn_iast k j h hq hs hx hj hN rfl (kk _ zsm_zup (zup_eq _ _ _))
theorem zarrV {cI : ClassId} {N : Nat} {f g : Nat → Value} (h : ∀ j, j < N → f j = g j) : arrV cI N f = arrV cI N g := by
  unfold arrV
  have e : (fun j : Fin N => f j.val) = (fun j : Fin N => g j.val) := funext (fun j => h j.1 j.2)
  rw [e]
/-- beyond its length a row of references may be told as one likes -/
theorem zj_arrG {a N t : Nat} {f : Nat → Option Nat} (f' : Nat → Option Nat) (hs : σ a = some (.inl (t, N, .inr (.inr (.inr (.inr f)))))) (he : ∀ j, j < N → f' j = f j)
    (kk : ∀ τ, zsm σ τ a (a + 1) → τ a = some (.inl (t, N, .inr (.inr (.inr (.inr f'))))) → zJ E Y R fin n cells slots τ pc L st) : zJ E Y R fin n cells slots σ pc L st := by
  intro p e s m args below meth c H locs ls C hR hf hl
  refine kk _ zsm_zup (zup_eq σ a (.inl (t, N, .inr (.inr (.inr (.inr f')))))) p e s m args below meth c H locs ls C ?_ hf hl
  refine hR.put hs rfl (fun q _ => rfl) ?_
  have h1 : H[a]? = some (vp_cell (E.cA t) (N, .inr (.inr (.inr (.inr f))))) := hR.at hs
  show H[a]? = some (vp_cell (E.cA t) (N, .inr (.inr (.inr (.inr f')))))
  rw [h1, vp_cell_q, vp_cell_q]
  rw [zarrV (g := fun j => va_rf (f' j)) (fun j hj => by rw [he j hj])]
end
theorem zdf0 : ∀ j, j < zNN 0 → defaultValue (zYY 0 j) = vp_V [.null, .null, .int 0, .null, .null, .null, .int 0, .null, .null, .null, .int 0] j := by
  intro j hj
  have hj2 : j < 11 := hj
  match j, hj2 with
  | 0, _ => rfl
  | 1, _ => rfl
  | 2, _ => rfl
  | 3, _ => rfl
  | 4, _ => rfl
  | 5, _ => rfl
  | 6, _ => rfl
  | 7, _ => rfl
  | 8, _ => rfl
  | 9, _ => rfl
  | 10, _ => rfl
  | j + 11, h => exact absurd h (by omega)
theorem zdf1 : ∀ j, j < zNN 1 → defaultValue (zYY 1 j) = vp_V [.null, .null, .null, .int 0, .int 0] j := by
  intro j hj
  have hj2 : j < 5 := hj
  match j, hj2 with
  | 0, _ => rfl
  | 1, _ => rfl
  | 2, _ => rfl
  | 3, _ => rfl
  | 4, _ => rfl
  | j + 5, h => exact absurd h (by omega)
theorem zdf2 : ∀ j, j < zNN 2 → defaultValue (zYY 2 j) = vp_V [.null, .null, .null, .int 0] j := by
  intro j hj
  have hj2 : j < 4 := hj
  match j, hj2 with
  | 0, _ => rfl
  | 1, _ => rfl
  | 2, _ => rfl
  | 3, _ => rfl
  | j + 4, h => exact absurd h (by omega)
theorem zdf3 : ∀ j, j < zNN 3 → defaultValue (zYY 3 j) = vp_V [.null, .int 0, .int 0, .null, .int 0, .int 0, .int 0] j := by
  intro j hj
  have hj2 : j < 7 := hj
  match j, hj2 with
  | 0, _ => rfl
  | 1, _ => rfl
  | 2, _ => rfl
  | 3, _ => rfl
  | 4, _ => rfl
  | 5, _ => rfl
  | 6, _ => rfl
  | j + 7, h => exact absurd h (by omega)
theorem zdf4 : ∀ j, j < zNN 4 → defaultValue (zYY 4 j) = vp_V [.null, .null, .null, .int 0] j := by
  intro j hj
  have hj2 : j < 4 := hj
  match j, hj2 with
  | 0, _ => rfl
  | 1, _ => rfl
  | 2, _ => rfl
  | 3, _ => rfl
  | j + 4, h => exact absurd h (by omega)
theorem zdf5 : ∀ j, j < zNN 5 → defaultValue (zYY 5 j) = vp_V [.null, .null, .null, .null, .null, .int 0, .int 0] j := by
  intro j hj
  have hj2 : j < 7 := hj
  match j, hj2 with
  | 0, _ => rfl
  | 1, _ => rfl
  | 2, _ => rfl
  | 3, _ => rfl
  | 4, _ => rfl
  | 5, _ => rfl
  | 6, _ => rfl
  | j + 7, h => exact absurd h (by omega)
theorem zdf6 : ∀ j, j < zNN 6 → defaultValue (zYY 6 j) = vp_V [.null, .null] j := by
  intro j hj
  have hj2 : j < 2 := hj
  match j, hj2 with
  | 0, _ => rfl
  | 1, _ => rfl
  | j + 2, h => exact absurd h (by omega)
theorem zdf7 : ∀ j, j < zNN 7 → defaultValue (zYY 7 j) = vp_V [.null, .null, .null, .null, .null, .long 0, .long 0] j := by
  intro j hj
  have hj2 : j < 7 := hj
  match j, hj2 with
  | 0, _ => rfl
  | 1, _ => rfl
  | 2, _ => rfl
  | 3, _ => rfl
  | 4, _ => rfl
  | 5, _ => rfl
  | 6, _ => rfl
  | j + 7, h => exact absurd h (by omega)
theorem zdf8 : ∀ j, j < zNN 8 → defaultValue (zYY 8 j) = vp_V [.null, .null, .null, .long 0, .long 0, .null, .null, .null, .int 0, .null, .int 0, .int 0, .null, .int 0, .int 0, .int 0, .null, .null, .int 0, .null, .long 0] j := by
  intro j hj
  have hj2 : j < 21 := hj
  match j, hj2 with
  | 0, _ => rfl
  | 1, _ => rfl
  | 2, _ => rfl
  | 3, _ => rfl
  | 4, _ => rfl
  | 5, _ => rfl
  | 6, _ => rfl
  | 7, _ => rfl
  | 8, _ => rfl
  | 9, _ => rfl
  | 10, _ => rfl
  | 11, _ => rfl
  | 12, _ => rfl
  | 13, _ => rfl
  | 14, _ => rfl
  | 15, _ => rfl
  | 16, _ => rfl
  | 17, _ => rfl
  | 18, _ => rfl
  | 19, _ => rfl
  | 20, _ => rfl
  | j + 21, h => exact absurd h (by omega)
