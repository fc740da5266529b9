/-! contracts whose end is a kind of heap: zX -/
def zX (E : zE) (Y : zY) (d : Nat) (av : List Value) (σ : zH) (r : Option Value) (P : zH → Prop) : Prop := ∀ n, zMet E Y (zrm d) 0 0 av n σ (fun r' n' s' => r' = r ∧ n' = n ∧ P s')
abbrev zXB (E : zE) (Y : zY) (d n : Nat) (r : Option Value) (P : zH → Prop) (σ : zH) (pc : Nat) (L : List (Option Value)) (st : List Value) : Prop := zJ E Y (zrm d) (zfin E (fun r' n' s' => r' = r ∧ n' = n ∧ P s') 0 0) n 0 0 σ pc L st
section
variable {E : zE} {Y Yc : zY} {R : Room} {fin : zF} {n cells slots : Nat} {σ : zH} {pc q u v idx : Nat} {w : Int} {L : List (Option Value)} {rest st as : List Value} {Pp : zH → Prop}
theorem zX.of {d : Nat} {av : List Value} {r : Option Value} (ok : zok Y) (hp : plainName Y.nm.cls = true) (hc : Y.nm.cls = zcn Y.oc) (hn : (lg_sl av).length.ble Y.nL = true) (body : ∀ n, zXB E Y d n r Pp σ 0 (zen Y.nL av) []) : zX E Y d av σ r Pp := fun n => zMet.of ok hp hc (Nat.le_of_ble_eq_true hn) (body n)
theorem zM.toX {d : Nat} {av : List Value} {r : Option Value} {σ' : zH} (h : zM E Y d av σ r σ') : zX E Y d av σ r (fun s => s = σ') := h
theorem zj_csxX (k : Nat) {d nn : Nat} {x : Value} (h : Y.rows[k]? = some (pc, .invokestatic idx, q, u, v, w)) (hq : pc + 3 = q) (lk : zLk Y.oc idx Yc.nm) (ck : zCkS Yc nn) (hM : zX E Yc d as σ (some x) Pp) (hst : st = as.reverse ++ rest) (hn : as.length = nn) (hrest : ((rest.map Value.category).sum).ble 8 = true) (hRm : zRg R Yc.nL d cells slots = true) (kk : ∀ σ', Pp σ' → zJ E Y R fin n cells slots σ' q L (x :: rest)) : zJ E Y R fin n cells slots σ pc L st :=
  zj_cs k h hq lk ck (hM n) hst hn (Nat.le_of_ble_eq_true hrest) (zRg_f hRm) (fun r n' s' hQ => by obtain ⟨rfl, rfl, h3⟩ := hQ; exact kk _ h3)
theorem zj_cvxX (k : Nat) {d nn ci b : Nat} {fs : List Value} {x : Value} (h : Y.rows[k]? = some (pc, .invokevirtual idx, q, u, v, w)) (hq : pc + 3 = q) (lk : zLk Y.oc idx Yc.nm) (ck : zCkV Yc nn ci) (hM : zX E Yc d (.ref b :: as) σ (some x) Pp) (hst : st = as.reverse ++ .ref b :: rest) (hs : σ b = some (.inr (ci, fs))) (hn : as.length = nn) (hrest : ((rest.map Value.category).sum).ble 8 = true) (hRm : zRg R Yc.nL d cells slots = true) (kk : ∀ σ', Pp σ' → zJ E Y R fin n cells slots σ' q L (x :: rest)) : zJ E Y R fin n cells slots σ pc L st :=
  zj_cv k h hq lk ck hs (hM n) hst hn (Nat.le_of_ble_eq_true hrest) (zRg_f hRm) (fun r n' s' hQ => by obtain ⟨rfl, rfl, h3⟩ := hQ; exact kk _ h3)
theorem zj_cvvX (k : Nat) {d nn ci b : Nat} {fs : List Value} (h : Y.rows[k]? = some (pc, .invokevirtual idx, q, u, v, w)) (hq : pc + 3 = q) (lk : zLk Y.oc idx Yc.nm) (ck : zCkV Yc nn ci) (hM : zX E Yc d (.ref b :: as) σ none Pp) (hst : st = as.reverse ++ .ref b :: rest) (hs : σ b = some (.inr (ci, fs))) (hn : as.length = nn) (hrest : ((rest.map Value.category).sum).ble 8 = true) (hRm : zRg R Yc.nL d cells slots = true) (kk : ∀ σ', Pp σ' → zJ E Y R fin n cells slots σ' q L rest) : zJ E Y R fin n cells slots σ pc L st :=
  zj_cv k h hq lk ck hs (hM n) hst hn (Nat.le_of_ble_eq_true hrest) (zRg_f hRm) (fun r n' s' hQ => by obtain ⟨rfl, rfl, h3⟩ := hQ; exact kk _ h3)
end
/-! the reader's state, as lists: what is laid, what waits (the last first), how deep, compared per depth, behind a unit, digits, where the number began -/
abbrev zS : Type := List (Int32 × Int64) × List Int32 × Nat × (Nat → Bool) × Bool × Nat × Nat
abbrev zS.cs (S : zS) : List (Int32 × Int64) := S.1
abbrev zS.ws (S : zS) : List Int32 := S.2.1
abbrev zS.dp (S : zS) : Nat := S.2.2.1
abbrev zS.cm (S : zS) : Nat → Bool := S.2.2.2.1
abbrev zS.bh (S : zS) : Bool := S.2.2.2.2.1
abbrev zS.dg (S : zS) : Nat := S.2.2.2.2.2.1
abbrev zS.na (S : zS) : Nat := S.2.2.2.2.2.2
def zob (b : Bool) : Int32 := if b then 1 else 0
/-- what the reader leaves alone -/
def mCore (M M' : zMo) : Prop := M'.1 0 = M.1 0 ∧ M'.1 1 = M.1 1 ∧ M'.1 2 = M.1 2 ∧ M'.1 3 = M.1 3 ∧ M'.2.2.2 0 = M.2.2.2 0 ∧ M'.2.2.2 1 = M.2.2.2 1 ∧ M'.1 7 = M.1 7
theorem mCore.rfl {M : zMo} : mCore M M := ⟨Eq.refl _, Eq.refl _, Eq.refl _, Eq.refl _, Eq.refl _, Eq.refl _, Eq.refl _⟩
theorem mCore.trans {A B C : zMo} (h : mCore A B) (g : mCore B C) : mCore A C := ⟨g.1.trans h.1, g.2.1.trans h.2.1, g.2.2.1.trans h.2.2.1, g.2.2.2.1.trans h.2.2.2.1, g.2.2.2.2.1.trans h.2.2.2.2.1, g.2.2.2.2.2.1.trans h.2.2.2.2.2.1, g.2.2.2.2.2.2.trans h.2.2.2.2.2.2⟩
def mRep (M : zMo) (S : zS) : Prop :=
  (M.2.2.1 0 = nI S.1.length ∧ ∀ i x, S.1[i]? = some x → M.1 4 i = x.1 ∧ M.2.1 0 i = x.2) ∧
  (M.2.2.1 1 = nI S.2.1.length ∧ ∀ i x, S.2.1.reverse[i]? = some x → M.1 5 i = x) ∧
  (M.2.2.1 2 = nI S.2.2.1 ∧ ∀ i, i ≤ S.2.2.1 → M.1 6 i = zob (S.2.2.2.1 i)) ∧
  M.2.2.1 3 = zob S.2.2.2.2.1 ∧ M.2.2.1 4 = nI S.2.2.2.2.2.1 ∧ (0 < S.2.2.2.2.2.1 → M.2.2.1 5 = nI S.2.2.2.2.2.2)
def mP (σ : zH) (a : Nat) (M : zMo) (S : zS) : zH → Prop := fun s => ∃ M', s = mw σ a M' ∧ mCore M M' ∧ mRep M' S
section
variable {E : zE} {σ : zH} {a : Nat} {M : zMo}
end
