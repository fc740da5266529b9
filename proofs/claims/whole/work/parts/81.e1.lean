/-! the two readers of a law: the reference's run from a place -/
def qGo (t : Nat → Int32) (many p : Nat) (Q : zS) : Int32 × List (Int32 × Int64) := ((qEnd many (qRun t (many - p) p Q)).1, (qEnd many (qRun t (many - p) p Q)).2.1)
theorem qGo_step {t : Nat → Int32} {many p : Nat} {Q : zS} (hp : p < many) (h : (qSign (t p) p Q).1 = 0) : qGo t many p Q = qGo t many (p + 1) (qSign (t p) p Q).2 := by
  unfold qGo
  rw [show many - p = (many - (p + 1)) + 1 by omega]
  simp only [qRun]
  rw [if_pos h]
theorem qGo_err {t : Nat → Int32} {many p : Nat} {Q : zS} (hp : p < many) (h : ¬ (qSign (t p) p Q).1 = 0) : (qGo t many p Q).1 = (qSign (t p) p Q).1 := by
  unfold qGo
  rw [show many - p = (many - (p + 1)) + 1 by omega]
  simp only [qRun]
  rw [if_neg h]
  unfold qEnd
  rw [if_neg h]
theorem qGo_end (t : Nat → Int32) (many : Nat) (Q : zS) : qGo t many many Q = ((qEnd many (0, Q)).1, (qEnd many (0, Q)).2.1) := by
  unfold qGo
  rw [Nat.sub_self]
  rfl
abbrev qM (cs : List (Int32 × Int64)) (ws : List Int32) (o : Nat) (cm : Nat → Bool) (bh : Bool) (na : Nat) : zS := (cs, ws, o, cm, bh, 0, na)
theorem q00 {c : Int32} : ¬ ((0 : Nat) < 0 ∧ qDig c) := fun g => absurd g.1 (Nat.lt_irrefl 0)
section
variable {t : Nat → Int32} {many : Nat} {cs : List (Int32 × Int64)} {ws : List Int32} {o na : Nat} {cm : Nat → Bool} {bh : Bool}
theorem qGo_bl {p : Nat} (hp : p < many) (h : t p = 32) : qGo t many p (qM cs ws o cm bh na) = qGo t many (p + 1) (qM cs ws o cm bh na) := by
  have e : qSign (t p) p (qM cs ws o cm bh na) = (0, qM cs ws o cm bh na) := qSign_s q00 h
  rw [qGo_step hp (by rw [e]), e]
theorem qGo_sk : ∀ (d p : Nat), p + d = many → qGo t many p (qM cs ws o cm bh na) = qGo t many (lSk t many p) (qM cs ws o cm bh na) := by
  intro d
  induction d with
  | zero => intro p h; rw [lSk_n (by omega)]
  | succ d ih =>
    intro p h
    by_cases hb : t p = 32
    · rw [qGo_bl (by omega) hb, lSk_s (by omega) hb]; exact ih (p + 1) (by omega)
    · rw [lSk_n (fun g => hb g.2)]
theorem lSk_at : ∀ (d p : Nat), p + d = many → ¬ (lSk t many p < many ∧ t (lSk t many p) = 32) := by
  intro d
  induction d with
  | zero => intro p h; rw [lSk_n (by omega)]; omega
  | succ d ih =>
    intro p h
    by_cases hb : t p = 32
    · rw [lSk_s (by omega) hb]; exact ih (p + 1) (by omega)
    · rw [lSk_n (fun g => hb g.2)]; exact fun g => hb g.2
theorem lSk_idem {p : Nat} (hp : p ≤ many) : lSk t many (lSk t many p) = lSk t many p := lSk_n (lSk_at (many - p) p (by omega))
end
/-! signs -/
theorem joint_tab (c : Int32) (h : ¬ uJoin c = 0) : ∃ j l : Nat, qJoint c = nI j ∧ 11 ≤ j ∧ j ≤ 19 ∧ uJoin c = -(nI j) ∧ l ≤ 4 ∧ uLev (uJoin c) = nI l ∧ pFirm (nI j) = nI (l + 1) ∧ c ≠ 32 ∧ c ≠ 41 ∧ cst (nI j, 0) = uJoin c := by
  by_cases h1 : c = 124
  · subst h1; exact ⟨11, 0, by decide +kernel⟩
  by_cases h2 : c = 38
  · subst h2; exact ⟨12, 1, by decide +kernel⟩
  by_cases h3 : c = 60
  · subst h3; exact ⟨13, 2, by decide +kernel⟩
  by_cases h4 : c = 62
  · subst h4; exact ⟨14, 2, by decide +kernel⟩
  by_cases h5 : c = 61
  · subst h5; exact ⟨15, 2, by decide +kernel⟩
  by_cases h6 : c = 43
  · subst h6; exact ⟨16, 3, by decide +kernel⟩
  by_cases h7 : c = 45
  · subst h7; exact ⟨17, 3, by decide +kernel⟩
  by_cases h8 : c = 42
  · subst h8; exact ⟨18, 4, by decide +kernel⟩
  by_cases h9 : c = 47
  · subst h9; exact ⟨19, 4, by decide +kernel⟩
  exact absurd (by unfold uJoin; rw [if_neg h1, if_neg h2, if_neg h3, if_neg h4, if_neg h5, if_neg h6, if_neg h7, if_neg h8, if_neg h9]) h
theorem joint_no (c : Int32) (h : uJoin c = 0) : qJoint c = -1 := by
  unfold uJoin at h
  unfold qJoint
  by_cases h1 : c = 124
  · subst h1; exact absurd h (by decide)
  by_cases h2 : c = 38
  · subst h2; exact absurd h (by decide)
  by_cases h3 : c = 60
  · subst h3; exact absurd h (by decide)
  by_cases h4 : c = 62
  · subst h4; exact absurd h (by decide)
  by_cases h5 : c = 61
  · subst h5; exact absurd h (by decide)
  by_cases h6 : c = 43
  · subst h6; exact absurd h (by decide)
  by_cases h7 : c = 45
  · subst h7; exact absurd h (by decide)
  by_cases h8 : c = 42
  · subst h8; exact absurd h (by decide)
  by_cases h9 : c = 47
  · subst h9; exact absurd h (by decide)
  rw [if_neg h1, if_neg h2, if_neg h3, if_neg h4, if_neg h5, if_neg h6, if_neg h7, if_neg h8, if_neg h9]
theorem unit_tab (c : Int32) (h : ¬ uUnit c = 0) : ∃ j : Nat, qLet c = nI j ∧ j ≤ 5 ∧ ¬ qLet c = -1 ∧ ¬ qDig c ∧ ¬ c = 32 ∧ cst (qLet c, 0) = uUnit c ∧ (decide (uUnit c = -5) = false → ¬ qLet c = 4) := by
  by_cases h1 : c = 97
  · subst h1; exact ⟨0, by decide +kernel⟩
  by_cases h2 : c = 98
  · subst h2; exact ⟨1, by decide +kernel⟩
  by_cases h3 : c = 100
  · subst h3; exact ⟨2, by decide +kernel⟩
  by_cases h4 : c = 109
  · subst h4; exact ⟨3, by decide +kernel⟩
  by_cases h5 : c = 107
  · subst h5; exact ⟨4, by decide +kernel⟩
  by_cases h6 : c = 103
  · subst h6; exact ⟨5, by decide +kernel⟩
  exact absurd (by unfold uUnit; rw [if_neg h1, if_neg h2, if_neg h3, if_neg h4, if_neg h5, if_neg h6]) h
theorem unit_no (c : Int32) (h : uUnit c = 0) : qLet c = -1 := by
  unfold uUnit at h
  unfold qLet
  by_cases h1 : c = 97
  · subst h1; exact absurd h (by decide)
  by_cases h2 : c = 98
  · subst h2; exact absurd h (by decide)
  by_cases h3 : c = 100
  · subst h3; exact absurd h (by decide)
  by_cases h4 : c = 109
  · subst h4; exact absurd h (by decide)
  by_cases h5 : c = 107
  · subst h5; exact absurd h (by decide)
  by_cases h6 : c = 103
  · subst h6; exact absurd h (by decide)
  rw [if_neg h1, if_neg h2, if_neg h3, if_neg h4, if_neg h5, if_neg h6]
theorem dig_iff (c : Int32) : lDigit c ↔ qDig c := by
  unfold lDigit qDig
  rw [Int32.le_iff_toInt_le, Int32.le_iff_toInt_le]
  exact Iff.rfl
theorem ten_p (p k : Nat) : 10 * nI p + nI k = nI (10 * p + k) := by
  rw [show (10 : Int32) = nI 10 from rfl, pk_mul, nI_add]
theorem nI_nz {k : Nat} (h0 : 0 < k) (h : k < 2 ^ 31) : ¬ nI k = 0 := nI_ne0 h0 h
theorem nI_nm1 {k : Nat} (h : k < 2 ^ 31) : ¬ nI k = -1 := fun e => by
  have := congrArg Int32.toInt e
  rw [nI_toInt h] at this
  have h2 : ((-1 : Int32)).toInt = -1 := rfl
  rw [h2] at this
  omega
/-! what waits -/
abbrev hdF (l : Nat) (ws : List Int32) : Prop := ∀ w ws1, ws = w :: ws1 → ¬ nI (l + 1) ≤ pFirm w
theorem hdF_up {l : Nat} (hl : l < 100) {ws : List Int32} (h : hdF l ws) : hdF (l + 1) ws := fun w ws1 e g => h w ws1 e (Int32.le_trans (nI_le (by omega) (by omega)) g)
theorem qLD_stop {a : Int32} {ws : List Int32} {cs : List (Int32 × Int64)} (h : ∀ w ws1, ws = w :: ws1 → ¬ a ≤ pFirm w) : qLD a ws cs = (ws, cs) := by
  cases ws with
  | nil => rfl
  | cons w ws1 => simp only [qLD]; rw [if_neg (h w ws1 rfl)]
theorem qLD_mono {a b : Int32} (hab : a ≤ b) {ws : List Int32} {cs2 : List (Int32 × Int64)} (hd : ∀ w ws1, ws = w :: ws1 → ¬ a ≤ pFirm w) : ∀ (ws' : List Int32) (cs' : List (Int32 × Int64)), qLD b ws' cs' = (ws, cs2) → qLD a ws' cs' = (ws, cs2)
  | [], cs', h => h
  | w :: ws', cs', h => by
    simp only [qLD] at h ⊢
    by_cases hw : b ≤ pFirm w
    · rw [if_pos hw] at h
      rw [if_pos (Int32.le_trans hab hw)]
      exact qLD_mono hab hd ws' _ h
    · rw [if_neg hw] at h
      cases h
      rw [if_neg (hd w ws' rfl)]
theorem qLD_code {a b : Int32} (hab : a ≤ b) {code : Int32} (hc : a ≤ pFirm code) {ws : List Int32} {cs2 : List (Int32 × Int64)} (hd : ∀ w ws1, ws = w :: ws1 → ¬ a ≤ pFirm w) : ∀ (ws' : List Int32) (cs' : List (Int32 × Int64)), qLD b ws' cs' = (code :: ws, cs2) → qLD a ws' cs' = (ws, cs2 ++ [(code, 0)])
  | [], cs', h => by simp [qLD] at h
  | w :: ws', cs', h => by
    simp only [qLD] at h ⊢
    by_cases hw : b ≤ pFirm w
    · rw [if_pos hw] at h
      rw [if_pos (Int32.le_trans hab hw)]
      exact qLD_code hab hc hd ws' _ h
    · rw [if_neg hw] at h
      cases h
      rw [if_pos hc]
      exact qLD_stop hd
/-! the component's steps are the codes -/
def lR (S : lS) (cs : List (Int32 × Int64)) : Prop := S.2.2.1 = -1 ∧ S.1 = cs.map cst ∧ (∀ p ∈ cs, cCode p) ∧ (S.2.2.2 = false → ∀ p ∈ cs, ¬ p.1 = 4)
theorem lR.at {S : lS} {cs : List (Int32 × Int64)} (h : lR S cs) (pl : Nat) : lR (lAt S pl) cs := h
theorem lR.add {S : lS} {cs : List (Int32 × Int64)} (h : lR S cs) {p : Int32 × Int64} (hl : cs.length < 40) (hp : cCode p) (h4 : ¬ p.1 = 4) : lR (lAdd S (cst p)) (cs ++ [p]) := by
  obtain ⟨h1, h2, h3, h5⟩ := h
  refine ⟨h1, ?_, fun q hq => ?_, fun ha q hq => ?_⟩
  · unfold lAdd
    rw [if_pos (by rw [h2, List.length_map]; exact hl), h2, List.map_append]
    rfl
  · rcases List.mem_append.mp hq with g | g
    · exact h3 q g
    · rw [List.mem_singleton.mp g]; exact hp
  · rcases List.mem_append.mp hq with g | g
    · exact h5 ha q g
    · rw [List.mem_singleton.mp g]; exact h4
