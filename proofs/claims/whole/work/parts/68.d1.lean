/-! the component: its State and itself, as cells -/
/-- σ' is σ outside of lo .. hi - 1 -/
def zsm (σ σ' : zH) (lo hi : Nat) : Prop := ∀ q, q < lo ∨ hi ≤ q → σ' q = σ q
theorem zva_eq {α : Type} {f : Nat → α} {k : Nat} {x : α} : va_up f k x k = x := by simp [va_up]
theorem zsm.rfl' {σ : zH} {lo hi : Nat} : zsm σ σ lo hi := fun _ _ => rfl
theorem zsm.trans {σ τ υ : zH} {lo hi : Nat} (h1 : zsm σ τ lo hi) (h2 : zsm τ υ lo hi) : zsm σ υ lo hi := fun q hq => (h2 q hq).trans (h1 q hq)
theorem zsm.wide {σ τ : zH} {lo hi lo' hi' : Nat} (h : zsm σ τ lo hi) (h1 : lo' ≤ lo) (h2 : hi ≤ hi') : zsm σ τ lo' hi' := fun q hq => h q (by omega)
theorem zsm_zup {σ : zH} {a : Nat} {e : va_E} : zsm σ (zup σ a e) a (a + 1) := fun q hq => zup_ne (by omega)
theorem zkb_sm {σ : zH} {a : Nat} {M : zMo} : zsm σ (zkb σ a M) a (a + 9) := fun q hq => zkb_ne (by omega)
theorem zkbAt.sm {σ σ' : zH} {a lo hi : Nat} {M : zMo} (h : zkbAt σ a M) (e : zsm σ σ' lo hi) (hd : a + 9 ≤ lo ∨ hi ≤ a) : zkbAt σ' a M := by
  obtain ⟨h0, h1, h2, h3, h4, h5, h6, h7, h8⟩ := h
  exact ⟨(e _ (by omega)).trans h0, (e _ (by omega)).trans h1, (e _ (by omega)).trans h2, (e _ (by omega)).trans h3, (e _ (by omega)).trans h4, (e _ (by omega)).trans h5, (e _ (by omega)).trans h6, (e _ (by omega)).trans h7, (e _ (by omega)).trans h8⟩
theorem zkg_sm {σ : zH} {a : Nat} {M : zMo} : zsm σ (zkg σ a M) a (a + 4) := fun q hq => zkg_ne (by omega)
theorem zkgAt.sm {σ σ' : zH} {a lo hi : Nat} {M : zMo} (h : zkgAt σ a M) (e : zsm σ σ' lo hi) (hd : a + 4 ≤ lo ∨ hi ≤ a) : zkgAt σ' a M := by
  obtain ⟨h0, h1, h2, h3⟩ := h
  exact ⟨(e _ (by omega)).trans h0, (e _ (by omega)).trans h1, (e _ (by omega)).trans h2, (e _ (by omega)).trans h3⟩
theorem zkt_sm {σ : zH} {a : Nat} {M : zMo} : zsm σ (zkt σ a M) a (a + 3) := fun q hq => zkt_ne (by omega)
theorem zktAt.sm {σ σ' : zH} {a lo hi : Nat} {M : zMo} (h : zktAt σ a M) (e : zsm σ σ' lo hi) (hd : a + 3 ≤ lo ∨ hi ≤ a) : zktAt σ' a M := by
  obtain ⟨h0, h1, h2⟩ := h
  exact ⟨(e _ (by omega)).trans h0, (e _ (by omega)).trans h1, (e _ (by omega)).trans h2⟩
theorem zkw_sm {σ : zH} {a : Nat} {M : zMo} : zsm σ (zkw σ a M) a (a + 3) := fun q hq => zkw_ne (by omega)
theorem zkwAt.sm {σ σ' : zH} {a lo hi : Nat} {M : zMo} (h : zkwAt σ a M) (e : zsm σ σ' lo hi) (hd : a + 3 ≤ lo ∨ hi ≤ a) : zkwAt σ' a M := by
  obtain ⟨h0, h1, h2⟩ := h
  exact ⟨(e _ (by omega)).trans h0, (e _ (by omega)).trans h1, (e _ (by omega)).trans h2⟩
theorem zkp_sm {σ : zH} {a : Nat} {M : zMo} : zsm σ (zkp σ a M) a (a + 4) := fun q hq => zkp_ne (by omega)
theorem zkpAt.sm {σ σ' : zH} {a lo hi : Nat} {M : zMo} (h : zkpAt σ a M) (e : zsm σ σ' lo hi) (hd : a + 4 ≤ lo ∨ hi ≤ a) : zkpAt σ' a M := by
  obtain ⟨h0, h1, h2, h3⟩ := h
  exact ⟨(e _ (by omega)).trans h0, (e _ (by omega)).trans h1, (e _ (by omega)).trans h2, (e _ (by omega)).trans h3⟩
theorem zke_sm {σ : zH} {a : Nat} {M : zMo} : zsm σ (zke σ a M) a (a + 7) := fun q hq => zke_ne (by omega)
theorem zkeAt.sm {σ σ' : zH} {a lo hi : Nat} {M : zMo} (h : zkeAt σ a M) (e : zsm σ σ' lo hi) (hd : (a < lo ∨ hi ≤ a) ∧ (a + 7 ≤ lo ∨ hi ≤ a + 5)) : zkeAt σ' a M := by
  obtain ⟨h0, h1, h2⟩ := h
  exact ⟨(e _ (by omega)).trans h0, (e _ (by omega)).trans h1, (e _ (by omega)).trans h2⟩
/-- worlds, marks, laws, book, guesses, own, error -/
abbrev zSc : Type := (Nat → zMo) × (Nat → Int32) × (Nat → zMo) × zMo × zMo × Int32 × Int32
abbrev zSc.w (S : zSc) : Nat → zMo := S.1
abbrev zSc.m (S : zSc) : Nat → Int32 := S.2.1
abbrev zSc.l (S : zSc) : Nat → zMo := S.2.2.1
abbrev zSc.b (S : zSc) : zMo := S.2.2.2.1
abbrev zSc.g (S : zSc) : zMo := S.2.2.2.2.1
abbrev zSc.o (S : zSc) : Int32 := S.2.2.2.2.2.1
abbrev zSc.e (S : zSc) : Int32 := S.2.2.2.2.2.2
abbrev zSc.sw (S : zSc) (x : Nat → zMo) : zSc := (x, S.2)
abbrev zSc.sm (S : zSc) (x : Nat → Int32) : zSc := (S.1, x, S.2.2)
abbrev zSc.sl (S : zSc) (x : Nat → zMo) : zSc := (S.1, S.2.1, x, S.2.2.2)
abbrev zSc.sb (S : zSc) (x : zMo) : zSc := (S.1, S.2.1, S.2.2.1, x, S.2.2.2.2)
abbrev zSc.sg (S : zSc) (x : zMo) : zSc := (S.1, S.2.1, S.2.2.1, S.2.2.2.1, x, S.2.2.2.2.2)
abbrev zSc.so (S : zSc) (x : Int32) : zSc := (S.1, S.2.1, S.2.2.1, S.2.2.2.1, S.2.2.2.2.1, x, S.2.2.2.2.2.2)
abbrev zSc.se (S : zSc) (x : Int32) : zSc := (S.1, S.2.1, S.2.2.1, S.2.2.2.1, S.2.2.2.2.1, S.2.2.2.2.2.1, x)
abbrev sfs (s : Nat) (S : zSc) : List Value := [.ref (s + 1), .ref (s + 14), .ref (s + 15), .ref (s + 28), .ref (s + 37), .int S.o, .int S.e]
def sAt (σ : zH) (s : Nat) (S : zSc) : Prop :=
  σ s = some (.inr (5, sfs s S)) ∧ σ (s + 1) = some (.inl (3, 4, .inr (.inr (.inr (.inr (fun w => some (s + 2 + 3 * w))))))) ∧
  (∀ w, w < 4 → zkwAt σ (s + 2 + 3 * w) (S.w w)) ∧ σ (s + 14) = some (.inl (0, 8, .inl S.m)) ∧
  σ (s + 15) = some (.inl (4, 4, .inr (.inr (.inr (.inr (fun l => some (s + 16 + 3 * l))))))) ∧
  (∀ l, l < 4 → zktAt σ (s + 16 + 3 * l) (S.l l)) ∧ zkbAt σ (s + 28) S.b ∧ zkgAt σ (s + 37) S.g
theorem sAt.sm {σ σ' : zH} {s lo hi : Nat} {S : zSc} (h : sAt σ s S) (e : zsm σ σ' lo hi) (hd : s + 41 ≤ lo ∨ hi ≤ s) : sAt σ' s S := by
  obtain ⟨h0, h1, h2, h3, h4, h5, h6, h7⟩ := h
  exact ⟨(e _ (by omega)).trans h0, (e _ (by omega)).trans h1, fun w hw => (h2 w hw).sm e (by omega), (e _ (by omega)).trans h3, (e _ (by omega)).trans h4, fun l hl => (h5 l hl).sm e (by omega), h6.sm e (by omega), h7.sm e (by omega)⟩
theorem sAt.uw {σ σ' : zH} {s : Nat} {S : zSc} (h : sAt σ s S) {w : Nat} (hw : w < 4) {N : zMo} (e : zsm σ σ' (s + 2 + 3 * w) (s + 2 + 3 * w + 3)) (hN : zkwAt σ' (s + 2 + 3 * w) N) : sAt σ' s (S.sw (va_up S.w w N)) := by
  obtain ⟨h0, h1, h2, h3, h4, h5, h6, h7⟩ := h
  refine ⟨(e _ (by omega)).trans h0, (e _ (by omega)).trans h1, fun v hv => ?_, (e _ (by omega)).trans h3, (e _ (by omega)).trans h4, fun l hl => (h5 l hl).sm e (by omega), h6.sm e (by omega), h7.sm e (by omega)⟩
  by_cases hvw : v = w
  · subst hvw; show zkwAt σ' _ (va_up S.w v N v); rw [zva_eq]; exact hN
  · show zkwAt σ' _ (va_up S.w w N v); rw [va_up_ne' hvw]; exact (h2 v hv).sm e (by omega)
theorem sAt.ul {σ σ' : zH} {s : Nat} {S : zSc} (h : sAt σ s S) {w : Nat} (hw : w < 4) {N : zMo} (e : zsm σ σ' (s + 16 + 3 * w) (s + 16 + 3 * w + 3)) (hN : zktAt σ' (s + 16 + 3 * w) N) : sAt σ' s (S.sl (va_up S.l w N)) := by
  obtain ⟨h0, h1, h2, h3, h4, h5, h6, h7⟩ := h
  refine ⟨(e _ (by omega)).trans h0, (e _ (by omega)).trans h1, fun v hv => (h2 v hv).sm e (by omega), (e _ (by omega)).trans h3, (e _ (by omega)).trans h4, fun v hv => ?_, h6.sm e (by omega), h7.sm e (by omega)⟩
  by_cases hvw : v = w
  · subst hvw; show zktAt σ' _ (va_up S.l v N v); rw [zva_eq]; exact hN
  · show zktAt σ' _ (va_up S.l w N v); rw [va_up_ne' hvw]; exact (h5 v hv).sm e (by omega)
theorem sAt.um {σ σ' : zH} {s : Nat} {S : zSc} (h : sAt σ s S) {f : Nat → Int32} (e : zsm σ σ' (s + 14) (s + 15)) (hN : σ' (s + 14) = some (.inl (0, 8, .inl f))) : sAt σ' s (S.sm f) := by
  obtain ⟨h0, h1, h2, h3, h4, h5, h6, h7⟩ := h
  exact ⟨(e _ (by omega)).trans h0, (e _ (by omega)).trans h1, fun v hv => (h2 v hv).sm e (by omega), hN, (e _ (by omega)).trans h4, fun v hv => (h5 v hv).sm e (by omega), h6.sm e (by omega), h7.sm e (by omega)⟩
theorem sAt.ub {σ σ' : zH} {s : Nat} {S : zSc} (h : sAt σ s S) {N : zMo} (e : zsm σ σ' (s + 28) (s + 37)) (hN : zkbAt σ' (s + 28) N) : sAt σ' s (S.sb N) := by
  obtain ⟨h0, h1, h2, h3, h4, h5, h6, h7⟩ := h
  exact ⟨(e _ (by omega)).trans h0, (e _ (by omega)).trans h1, fun v hv => (h2 v hv).sm e (by omega), (e _ (by omega)).trans h3, (e _ (by omega)).trans h4, fun v hv => (h5 v hv).sm e (by omega), hN, h7.sm e (by omega)⟩
theorem sAt.ug {σ σ' : zH} {s : Nat} {S : zSc} (h : sAt σ s S) {N : zMo} (e : zsm σ σ' (s + 37) (s + 41)) (hN : zkgAt σ' (s + 37) N) : sAt σ' s (S.sg N) := by
  obtain ⟨h0, h1, h2, h3, h4, h5, h6, h7⟩ := h
  exact ⟨(e _ (by omega)).trans h0, (e _ (by omega)).trans h1, fun v hv => (h2 v hv).sm e (by omega), (e _ (by omega)).trans h3, (e _ (by omega)).trans h4, fun v hv => (h5 v hv).sm e (by omega), h6.sm e (by omega), hN⟩
theorem sAt.u0 {σ σ' : zH} {s : Nat} {S : zSc} (h : sAt σ s S) {x y : Int32} (e : zsm σ σ' s (s + 1)) (hN : σ' s = some (.inr (5, sfs s ((S.so x).se y)))) : sAt σ' s ((S.so x).se y) := by
  obtain ⟨h0, h1, h2, h3, h4, h5, h6, h7⟩ := h
  exact ⟨hN, (e _ (by omega)).trans h1, fun v hv => (h2 v hv).sm e (by omega), (e _ (by omega)).trans h3, (e _ (by omega)).trans h4, fun v hv => (h5 v hv).sm e (by omega), h6.sm e (by omega), h7.sm e (by omega)⟩
/-- now, images, kept, eye, picture, drawings, above, below -/
abbrev zDc : Type := zSc × (Nat → zSc) × (Nat → Int32) × zMo × zMo × (Nat → Int32) × Int64 × Int64
abbrev zDc.n (K : zDc) : zSc := K.1
abbrev zDc.i (K : zDc) : Nat → zSc := K.2.1
abbrev zDc.k (K : zDc) : Nat → Int32 := K.2.2.1
abbrev zDc.e (K : zDc) : zMo := K.2.2.2.1
abbrev zDc.p (K : zDc) : zMo := K.2.2.2.2.1
abbrev zDc.d (K : zDc) : Nat → Int32 := K.2.2.2.2.2.1
abbrev zDc.a (K : zDc) : Int64 := K.2.2.2.2.2.2.1
abbrev zDc.u (K : zDc) : Int64 := K.2.2.2.2.2.2.2
abbrev zDc.sn (K : zDc) (S : zSc) : zDc := (S, K.2)
abbrev zDc.si (K : zDc) (x : Nat → zSc) : zDc := (K.1, x, K.2.2)
abbrev zDc.sk (K : zDc) (x : Nat → Int32) : zDc := (K.1, K.2.1, x, K.2.2.2)
abbrev zDc.se (K : zDc) (x : zMo) : zDc := (K.1, K.2.1, K.2.2.1, x, K.2.2.2.2)
abbrev zDc.sp (K : zDc) (x : zMo) : zDc := (K.1, K.2.1, K.2.2.1, K.2.2.2.1, x, K.2.2.2.2.2)
abbrev zDc.sd (K : zDc) (x : Nat → Int32) : zDc := (K.1, K.2.1, K.2.2.1, K.2.2.2.1, K.2.2.2.2.1, x, K.2.2.2.2.2.2)
abbrev zDc.sf (K : zDc) (x y : Int64) : zDc := (K.1, K.2.1, K.2.2.1, K.2.2.2.1, K.2.2.2.2.1, K.2.2.2.2.2.1, x, y)
abbrev dfs (c : Nat) (K : zDc) : List Value := [.ref (c + 1), .ref (c + 42), .ref (c + 125), .ref (c + 126), .ref (c + 133), .long K.a, .long K.u]
def pZ (P : zMo) : Prop := (∀ c, c ≤ 9 → P.1 1 c = 0) ∧ ∀ r, r ≤ 9 → P.1 1 (10 * r) = 0
def dAt (σ : zH) (c : Nat) (K : zDc) : Prop :=
  σ c = some (.inr (7, dfs c K)) ∧ sAt σ (c + 1) K.n ∧ σ (c + 42) = some (.inl (5, 2, .inr (.inr (.inr (.inr (fun i => some (c + 43 + 41 * i))))))) ∧
  (∀ i, i < 2 → sAt σ (c + 43 + 41 * i) (K.i i)) ∧ σ (c + 125) = some (.inl (2, 2, .inl K.k)) ∧ zkeAt σ (c + 126) K.e ∧ zkpAt σ (c + 126 + 1) K.p ∧ pZ K.p ∧
  σ (c + 133) = some (.inl (0, 16, .inl K.d))
theorem dAt.sm {σ σ' : zH} {c lo hi : Nat} {K : zDc} (h : dAt σ c K) (e : zsm σ σ' lo hi) (hd : c + 134 ≤ lo ∨ hi ≤ c) : dAt σ' c K := by
  obtain ⟨h0, h1, h2, h3, h4, h5, h6, h7, h8⟩ := h
  exact ⟨(e _ (by omega)).trans h0, h1.sm e (by omega), (e _ (by omega)).trans h2, fun i hi => (h3 i hi).sm e (by omega), (e _ (by omega)).trans h4, h5.sm e (by omega), h6.sm e (by omega), h7, (e _ (by omega)).trans h8⟩
theorem dAt.un {σ σ' : zH} {c : Nat} {K : zDc} (h : dAt σ c K) {S : zSc} (e : zsm σ σ' (c + 1) (c + 42)) (hS : sAt σ' (c + 1) S) : dAt σ' c (K.sn S) := by
  obtain ⟨h0, h1, h2, h3, h4, h5, h6, h7, h8⟩ := h
  exact ⟨(e _ (by omega)).trans h0, hS, (e _ (by omega)).trans h2, fun i hi => (h3 i hi).sm e (by omega), (e _ (by omega)).trans h4, h5.sm e (by omega), h6.sm e (by omega), h7, (e _ (by omega)).trans h8⟩
theorem dAt.ui {σ σ' : zH} {c : Nat} {K : zDc} (h : dAt σ c K) {j : Nat} (hj : j < 2) {S : zSc} (e : zsm σ σ' (c + 43 + 41 * j) (c + 43 + 41 * j + 41)) (hS : sAt σ' (c + 43 + 41 * j) S) : dAt σ' c (K.si (va_up K.i j S)) := by
  obtain ⟨h0, h1, h2, h3, h4, h5, h6, h7, h8⟩ := h
  refine ⟨(e _ (by omega)).trans h0, h1.sm e (by omega), (e _ (by omega)).trans h2, fun i hi => ?_, (e _ (by omega)).trans h4, h5.sm e (by omega), h6.sm e (by omega), h7, (e _ (by omega)).trans h8⟩
  by_cases hij : i = j
  · subst hij; show sAt σ' _ (va_up K.i i S i); rw [zva_eq]; exact hS
  · show sAt σ' _ (va_up K.i j S i); rw [va_up_ne' hij]; exact (h3 i hi).sm e (by omega)
theorem dAt.uk {σ σ' : zH} {c : Nat} {K : zDc} (h : dAt σ c K) {f : Nat → Int32} (e : zsm σ σ' (c + 125) (c + 126)) (hf : σ' (c + 125) = some (.inl (2, 2, .inl f))) : dAt σ' c (K.sk f) := by
  obtain ⟨h0, h1, h2, h3, h4, h5, h6, h7, h8⟩ := h
  exact ⟨(e _ (by omega)).trans h0, h1.sm e (by omega), (e _ (by omega)).trans h2, fun i hi => (h3 i hi).sm e (by omega), hf, h5.sm e (by omega), h6.sm e (by omega), h7, (e _ (by omega)).trans h8⟩
theorem dAt.ue {σ : zH} {c : Nat} {K : zDc} (h : dAt σ c K) (N : zMo) : dAt (zke σ (c + 126) N) c (K.se N) := by
  obtain ⟨h0, h1, h2, h3, h4, h5, h6, h7, h8⟩ := h
  have e : zsm σ (zke σ (c + 126) N) (c + 126) (c + 126 + 7) := zke_sm
  have e2 : ∀ q, c + 126 < q → q < c + 131 → zke σ (c + 126) N q = σ q := fun q a b => zke_ne (by omega)
  refine ⟨(e _ (by omega)).trans h0, h1.sm e (by omega), (e _ (by omega)).trans h2, fun i hi => (h3 i hi).sm e (by omega), (e _ (by omega)).trans h4, zke_at, ?_, h7, (e _ (by omega)).trans h8⟩
  obtain ⟨g0, g1, g2, g3⟩ := h6
  exact ⟨(e2 _ (by omega) (by omega)).trans g0, (e2 _ (by omega) (by omega)).trans g1, (e2 _ (by omega) (by omega)).trans g2, (e2 _ (by omega) (by omega)).trans g3⟩
theorem dAt.up {σ : zH} {c : Nat} {K : zDc} (h : dAt σ c K) (N : zMo) (hz : pZ N) : dAt (zkp σ (c + 126 + 1) N) c (K.sp N) := by
  obtain ⟨h0, h1, h2, h3, h4, h5, h6, h7, h8⟩ := h
  have e : zsm σ (zkp σ (c + 126 + 1) N) (c + 126 + 1) (c + 126 + 1 + 4) := zkp_sm
  exact ⟨(e _ (by omega)).trans h0, h1.sm e (by omega), (e _ (by omega)).trans h2, fun i hi => (h3 i hi).sm e (by omega), (e _ (by omega)).trans h4, h5.sm e (by omega), zkp_at, hz, (e _ (by omega)).trans h8⟩
theorem dAt.ud {σ σ' : zH} {c : Nat} {K : zDc} (h : dAt σ c K) {f : Nat → Int32} (e : zsm σ σ' (c + 133) (c + 134)) (hf : σ' (c + 133) = some (.inl (0, 16, .inl f))) : dAt σ' c (K.sd f) := by
  obtain ⟨h0, h1, h2, h3, h4, h5, h6, h7, h8⟩ := h
  exact ⟨(e _ (by omega)).trans h0, h1.sm e (by omega), (e _ (by omega)).trans h2, fun i hi => (h3 i hi).sm e (by omega), (e _ (by omega)).trans h4, h5.sm e (by omega), h6.sm e (by omega), h7, hf⟩
theorem dAt.uf {σ σ' : zH} {c : Nat} {K : zDc} (h : dAt σ c K) {x y : Int64} (e : zsm σ σ' c (c + 1)) (hf : σ' c = some (.inr (7, dfs c (K.sf x y)))) : dAt σ' c (K.sf x y) := by
  obtain ⟨h0, h1, h2, h3, h4, h5, h6, h7, h8⟩ := h
  exact ⟨hf, h1.sm e (by omega), (e _ (by omega)).trans h2, fun i hi => (h3 i hi).sm e (by omega), (e _ (by omega)).trans h4, h5.sm e (by omega), h6.sm e (by omega), h7, (e _ (by omega)).trans h8⟩
/-- K' is K but for eye, picture and drawings -/
def dSc (K K' : zDc) : Prop := K'.n = K.n ∧ K'.i = K.i ∧ K'.k = K.k ∧ K'.a = K.a ∧ K'.u = K.u
/-- the heap afterwards: nothing changed but eye, picture, drawings -/
def dQ (σ : zH) (c : Nat) (K : zDc) : zH → Prop := fun s => zsm σ s c (c + 134) ∧ ∃ K', dAt s c K' ∧ dSc K K'
theorem dSc.refl (K : zDc) : dSc K K := ⟨rfl, rfl, rfl, rfl, rfl⟩
theorem dSc.trans {K K' K'' : zDc} (h : dSc K K') (g : dSc K' K'') : dSc K K'' := by
  obtain ⟨a1, a2, a3, a4, a5⟩ := h
  obtain ⟨b1, b2, b3, b4, b5⟩ := g
  exact ⟨b1.trans a1, b2.trans a2, b3.trans a3, b4.trans a4, b5.trans a5⟩
theorem dQ.refl {σ : zH} {c : Nat} {K : zDc} (h : dAt σ c K) : dQ σ c K σ := ⟨zsm.rfl', K, h, dSc.refl K⟩
