/-! what a reader without a fault has laid can be worked -/
def hS (c : Int32) (h : Nat) : Option Nat := if c < 7 then some (h + 1) else if 20 ≤ c then (if 1 ≤ h then some h else none) else (if 2 ≤ h then some (h - 1) else none)
def hC : List (Int32 × Int64) → Nat → Option Nat
  | [], h => some h
  | x :: cs, h => (hS x.1 h).bind (hC cs)
theorem hC_app (x : Int32 × Int64) : ∀ (cs : List (Int32 × Int64)) (h : Nat), hC (cs ++ [x]) h = (hC cs h).bind (hS x.1)
  | [], h => by simp [hC]
  | y :: cs, h => by
    simp only [List.cons_append, hC]
    cases hS y.1 h with
    | none => rfl
    | some h1 => exact hC_app x cs h1
theorem evC_of (lt : Nat → Int64) : ∀ (cs : List (Int32 × Int64)) (st : List Int64) (h : Nat), hC cs st.length = some h → ∃ st', evC lt cs st = some st' ∧ st'.length = h
  | [], st, h, e => ⟨st, rfl, Option.some.inj e⟩
  | (c, v) :: cs, st, h, e => by
    simp only [hC, hS] at e
    simp only [evC]
    by_cases h1 : c < 7
    · rw [if_pos h1] at e ⊢
      exact evC_of lt cs _ h (by simpa using e)
    · rw [if_neg h1] at e ⊢
      by_cases h2 : 20 ≤ c
      · rw [if_pos h2] at e ⊢
        match st, e with
        | [], e => simp at e
        | x :: st', e =>
          simp only [List.length_cons] at e
          rw [if_pos (by omega)] at e
          exact evC_of lt cs _ h (by simpa using e)
      · rw [if_neg h2] at e ⊢
        match st, e with
        | [], e => simp at e
        | [_], e => simp at e
        | y :: x :: st', e =>
          simp only [List.length_cons] at e
          rw [if_pos (by omega)] at e
          exact evC_of lt cs _ h (by simpa using e)
def nB (ws : List Int32) : Nat := ws.countP (fun w => decide (w < 20))
def qWt (w : Int32) : Prop := ∃ j : Nat, w = nI j ∧ 11 ≤ j ∧ j ≤ 21
def qWf (S : zS) : Prop := hC S.1 0 = some (nB S.2.1 + (if S.2.2.2.2.1 then 1 else 0)) ∧ (∀ x ∈ S.1, qCode x.1) ∧ ∀ w ∈ S.2.1, w = 30 ∨ qWt w
theorem nI_lt_iff {j : Nat} (k : Nat) (hj : j < 2 ^ 31) (hk : k < 2 ^ 31) : nI j < nI k ↔ j < k := nI_ltI hj hk
theorem hS_w {w : Int32} (h : qWt w) (n : Nat) : hS w (nB [w] + n + 1) = some (n + 1) := by
  obtain ⟨j, rfl, h1, h2⟩ := h
  have a1 : ¬ nI j < 7 := fun e => absurd ((nI_lt_iff 7 (by omega) (by decide)).mp e) (by omega)
  unfold hS nB
  rw [if_neg a1]
  by_cases h3 : j < 20
  · have a2 : nI j < 20 := (nI_lt_iff 20 (by omega) (by decide)).mpr h3
    rw [if_neg (Int32.not_le.mpr a2)]
    simp [a2]
    omega
  · have a2 : ¬ nI j < 20 := fun e => h3 ((nI_lt_iff 20 (by omega) (by decide)).mp e)
    rw [if_pos (Int32.not_lt.mp a2)]
    simp [a2]
theorem nB_cons (w : Int32) (ws : List Int32) : nB (w :: ws) = nB [w] + nB ws := by
  unfold nB
  simp only [List.countP_cons, List.countP_nil]
  omega
theorem qWt_code {w : Int32} (h : qWt w) : qCode w := by
  obtain ⟨j, e, h1, h2⟩ := h
  exact ⟨j, e, Or.inr ⟨h1, h2⟩⟩
theorem qLD_wf {l : Int32} (hl : 1 ≤ l) : ∀ (ws : List Int32) (cs : List (Int32 × Int64)), hC cs 0 = some (nB ws + 1) → (∀ x ∈ cs, qCode x.1) → (∀ w ∈ ws, w = 30 ∨ qWt w) → hC (qLD l ws cs).2 0 = some (nB (qLD l ws cs).1 + 1) ∧ (∀ x ∈ (qLD l ws cs).2, qCode x.1)
  | [], cs, h1, h2, h3 => ⟨h1, h2⟩
  | w :: ws, cs, h1, h2, h3 => by
    simp only [qLD]
    split
    · rename_i h
      have hw : qWt w := by
        rcases h3 w List.mem_cons_self with e | e
        · subst e; exact absurd h (pFirm30 hl)
        · exact e
      refine qLD_wf hl ws (cs ++ [(w, 0)]) ?_ ?_ (fun x hx => h3 x (List.mem_cons_of_mem _ hx))
      · rw [hC_app, h1, nB_cons]
        exact hS_w hw _
      · intro x hx
        rcases List.mem_append.mp hx with e | e
        · exact h2 x e
        · simp at e; subst e; exact qWt_code hw
    · exact ⟨h1, h2⟩
theorem qLD_all {l : Int32} : ∀ (ws : List Int32) (cs : List (Int32 × Int64)), (∀ w ∈ ws, l ≤ pFirm w) → (qLD l ws cs).1 = []
  | [], cs, h => rfl
  | w :: ws, cs, h => by
    simp only [qLD]
    rw [if_pos (h w List.mem_cons_self)]
    exact qLD_all ws _ (fun x hx => h x (List.mem_cons_of_mem _ hx))
theorem hC_num (c : Int32) (cs : List (Int32 × Int64)) (h : Nat) : hC (qNum c cs) h = hC cs h := by
  rcases List.eq_nil_or_concat cs with e | ⟨l, y, e⟩
  · subst e; rfl
  · subst e; rw [List.concat_eq_append, qNum_c, hC_app, hC_app]
theorem hS_u {j : Nat} (h : j ≤ 6) (n : Nat) : hS (nI j) n = some (n + 1) := by
  unfold hS
  rw [if_pos (show nI j < 7 from (nI_lt_iff 7 (by omega) (by decide)).mpr (by omega))]
theorem qLet_code {c : Int32} (h : qLet c ≠ -1) : ∃ j : Nat, qLet c = nI j ∧ j ≤ 6 := by
  have key : qLet c = 0 ∨ qLet c = 1 ∨ qLet c = 2 ∨ qLet c = 3 ∨ qLet c = 4 ∨ qLet c = 5 ∨ qLet c = -1 := by
    unfold qLet
    iterate 6 (split; · simp)
    simp
  rcases key with e | e | e | e | e | e | e
  · exact ⟨0, e, by omega⟩
  · exact ⟨1, e, by omega⟩
  · exact ⟨2, e, by omega⟩
  · exact ⟨3, e, by omega⟩
  · exact ⟨4, e, by omega⟩
  · exact ⟨5, e, by omega⟩
  · exact absurd e h
theorem qJoint_wt {c : Int32} (h : ¬ qJoint c = -1) : qWt (qJoint c) ∧ qJoint c < 20 := by
  have key : qJoint c = 11 ∨ qJoint c = 12 ∨ qJoint c = 13 ∨ qJoint c = 14 ∨ qJoint c = 15 ∨ qJoint c = 16 ∨ qJoint c = 17 ∨ qJoint c = 18 ∨ qJoint c = 19 ∨ qJoint c = -1 := by
    unfold qJoint
    iterate 9 (split; · simp)
    simp
  rcases key with e | e | e | e | e | e | e | e | e | e
  · exact ⟨⟨11, e, by omega, by omega⟩, by rw [e]; decide⟩
  · exact ⟨⟨12, e, by omega, by omega⟩, by rw [e]; decide⟩
  · exact ⟨⟨13, e, by omega, by omega⟩, by rw [e]; decide⟩
  · exact ⟨⟨14, e, by omega, by omega⟩, by rw [e]; decide⟩
  · exact ⟨⟨15, e, by omega, by omega⟩, by rw [e]; decide⟩
  · exact ⟨⟨16, e, by omega, by omega⟩, by rw [e]; decide⟩
  · exact ⟨⟨17, e, by omega, by omega⟩, by rw [e]; decide⟩
  · exact ⟨⟨18, e, by omega, by omega⟩, by rw [e]; decide⟩
  · exact ⟨⟨19, e, by omega, by omega⟩, by rw [e]; decide⟩
  · exact absurd e h
theorem qWf_unit {S : zS} {k : Nat} {c : Int32} (h : qWf S) (hb : S.2.2.2.2.1 = false) : qWf (qUnit c k S).2 := by
  obtain ⟨h1, h2, h3⟩ := h
  rw [hb] at h1
  have h1' : hC S.1 0 = some (nB S.2.1) := h1
  unfold qUnit
  by_cases c1 : qDig c
  · rw [if_pos c1]
    refine ⟨?_, fun x hx => ?_, h3⟩
    · show hC (S.1 ++ [_]) 0 = some (nB S.2.1 + 1)
      rw [hC_app, h1']
      exact hS_u (j := 6) (by omega) _
    · rcases List.mem_append.mp hx with e | e
      · exact h2 x e
      · simp at e; subst e; exact ⟨6, rfl, Or.inl (by omega)⟩
  · rw [if_neg c1]
    by_cases c2 : qLet c ≠ -1
    · rw [if_pos c2]
      obtain ⟨j, ej, hj⟩ := qLet_code c2
      refine ⟨?_, fun x hx => ?_, h3⟩
      · show hC (S.1 ++ [_]) 0 = some (nB S.2.1 + 1)
        rw [hC_app, h1', ej]
        exact hS_u hj _
      · rcases List.mem_append.mp hx with e | e
        · exact h2 x e
        · simp at e; subst e; exact ⟨j, ej, Or.inl hj⟩
    · rw [if_neg c2]
      by_cases c3 : c = 33 ∨ c = 45
      · rw [if_pos c3]
        have hc : (if c = 33 then (20 : Int32) else 21) = 20 ∨ (if c = 33 then (20 : Int32) else 21) = 21 := by split <;> simp
        refine ⟨?_, h2, fun w hw => ?_⟩
        · show hC S.1 0 = some (nB (_ :: S.2.1) + _)
          rw [h1', nB_cons]
          have : nB [if c = 33 then (20 : Int32) else 21] = 0 := by rcases hc with e | e <;> rw [e] <;> decide
          rw [this]
          show _ = some (0 + nB S.2.1 + (if S.2.2.2.2.1 then 1 else 0))
          rw [hb]; simp
        · rcases List.mem_cons.mp hw with e | e
          · right; rw [e]; rcases hc with e2 | e2 <;> rw [e2]
            · exact ⟨20, rfl, by omega, by omega⟩
            · exact ⟨21, rfl, by omega, by omega⟩
          · exact h3 w e
      · rw [if_neg c3]
        by_cases c4 : c ≠ 40
        · rw [if_pos c4]; exact ⟨by rw [hb]; exact h1, h2, h3⟩
        · rw [if_neg c4]
          by_cases c5 : S.2.2.1 = 8
          · rw [if_pos c5]; exact ⟨by rw [hb]; exact h1, h2, h3⟩
          · rw [if_neg c5]
            refine ⟨?_, h2, fun w hw => ?_⟩
            · show hC S.1 0 = some (nB (30 :: S.2.1) + (if S.2.2.2.2.1 then 1 else 0))
              rw [h1', nB_cons, hb, show nB [30] = 0 by decide]; simp
            · rcases List.mem_cons.mp hw with e | e
              · exact Or.inl e
              · exact h3 w e
theorem qWf_behind {S : zS} {k : Nat} {c : Int32} (h : qWf S) (hi : qInv S k) (hb : S.2.2.2.2.1 = true) : qWf (qBehind c k S).2 := by
  have h0 := h
  obtain ⟨h1, h2, h3⟩ := h
  rw [hb] at h1
  have h1' : hC S.1 0 = some (nB S.2.1 + 1) := h1
  by_cases c1 : c = 41 ∧ 0 < S.2.2.1
  · rw [qBehind_c c1.1 c1.2]
    obtain ⟨g1, g2⟩ := qLD_wf (l := 1) (by decide) S.2.1 S.1 h1' h2 h3
    have hne := qInv_ne hi c1.2
    cases hS : (qLDS 1 S).2.1 with
    | nil => exact absurd hS hne
    | cons t r =>
      have hS' : (qLD 1 S.2.1 S.1).1 = t :: r := hS
      have ht : t = 30 := by
        rcases hi.2.2.2.1 t (qLD_sub 1 S.2.1 S.1 t (by rw [hS']; exact List.mem_cons_self)) with e | e
        · exact e
        · exact absurd e (qLD_top 1 S.2.1 S.1 t r hS')
      subst ht
      rw [hS', nB_cons, show nB [30] = 0 by decide, Nat.zero_add] at g1
      exact ⟨by show hC (qLD 1 S.2.1 S.1).2 0 = some (nB r + (if S.2.2.2.2.1 then 1 else 0)); rw [hb]; exact g1, g2, fun w hw => h3 w (qLD_sub 1 S.2.1 S.1 w (by rw [hS']; exact List.mem_cons_of_mem _ hw))⟩
  · by_cases c2 : qJoint c = -1 ∨ (pFirm (qJoint c) = 3 ∧ S.2.2.2.1 S.2.2.1 = true)
    · rw [qBehind_f c1 c2]; exact h0
    · rw [qBehind_j c1 c2]
      obtain ⟨f1, f2⟩ := qJoint_firm (fun e => c2 (Or.inl e))
      obtain ⟨w1, w2⟩ := qJoint_wt (fun e => c2 (Or.inl e))
      obtain ⟨g1, g2⟩ := qLD_wf f1 S.2.1 S.1 h1' h2 h3
      refine ⟨?_, g2, fun w hw => ?_⟩
      · show hC (qLD (pFirm (qJoint c)) S.2.1 S.1).2 0 = some (nB (qJoint c :: (qLD (pFirm (qJoint c)) S.2.1 S.1).1) + (if false then 1 else 0))
        rw [g1, nB_cons]
        have : nB [qJoint c] = 1 := by unfold nB; simp [w2]
        rw [this]; simp; omega
      · rcases List.mem_cons.mp hw with e | e
        · right; rw [e]; exact w1
        · exact h3 w (qLD_sub _ S.2.1 S.1 w e)
theorem qWf_sign {S : zS} {k : Nat} {c : Int32} (h : qWf S) (hi : qInv S k) : qWf (qSign c k S).2 := by
  by_cases c1 : 0 < S.2.2.2.2.2.1 ∧ qDig c
  · unfold qSign
    rw [if_pos c1]
    by_cases c2 : S.2.2.2.2.2.1 = 6
    · rw [if_pos c2]; exact h
    · rw [if_neg c2]
      obtain ⟨h1, h2, h3⟩ := h
      refine ⟨by show hC (qNum c S.1) 0 = _; rw [hC_num]; exact h1, fun x hx => ?_, h3⟩
      rcases List.eq_nil_or_concat S.1 with e | ⟨l, y, e⟩
      · exact absurd e (hi.2.2.2.2.1 c1.1).1
      · rw [List.concat_eq_append] at e
        have hx' : x ∈ qNum c S.1 := hx
        rw [e, qNum_c] at hx'
        rcases List.mem_append.mp hx' with e2 | e2
        · exact h2 x (by rw [e]; exact List.mem_append_left _ e2)
        · simp at e2; subst e2
          exact h2 y (by rw [e]; simp)
  · have hs : qWf (qS0 S) := h
    by_cases c2 : c = 32
    · rw [qSign_s c1 c2]; exact hs
    · cases hb : S.2.2.2.2.1 with
      | true => rw [qSign_b c1 c2 hb]; exact qWf_behind hs (qInv_dg hi) hb
      | false => rw [qSign_u c1 c2 hb]; exact qWf_unit hs hb
theorem qWf_run (t : Nat → Int32) : ∀ (m k : Nat) (S : zS), k + m ≤ 40 → qWf S → qInv S k → (qRun t m k S).1 = 0 → qWf (qRun t m k S).2 ∧ qInv (qRun t m k S).2 (k + m)
  | 0, k, S, _, h, hi, _ => ⟨h, hi⟩
  | m + 1, k, S, hk, h, hi, h0 => by
    simp only [qRun] at h0 ⊢
    by_cases c : (qSign (t k) k S).1 = 0
    · rw [if_pos c] at h0 ⊢
      have := qWf_run t m (k + 1) _ (by omega) (qWf_sign h hi) (qInv_sign hi (by omega) c) h0
      rw [show k + (m + 1) = k + 1 + m by omega]
      exact this
    · rw [if_neg c] at h0
      exact absurd h0 c
/-- a text without a fault: its codes are worked to one number -/
theorem qRead_ok (t : Nat → Int32) (many : Nat) (hm : many ≤ 40) (h : (qRead t many).1 = -1) : (qRead t many).2.1.length ≤ 40 ∧ (∀ x ∈ (qRead t many).2.1, qCode x.1) ∧ ∀ lt, ∃ v, evC lt (qRead t many).2.1 [] = some [v] := by
  have hz : ∀ k : Nat, ¬ nI (10 * many + 1) = -1 := fun _ e => by
    have := congrArg Int32.toInt e
    rw [nI_toInt (by omega)] at this
    have h2 : ((-1 : Int32)).toInt = -1 := rfl
    rw [h2] at this
    omega
  have hnz : ∀ S k c, k < 40 → qInv S k → ¬ (qSign c k S).1 = -1 := by
    intro S k c hk hi e
    have hn : ∀ x, x < 2 ^ 30 → ¬ nI x = -1 := fun x hx e => by
      have := congrArg Int32.toInt e
      rw [nI_toInt (by omega)] at this
      have h2 : ((-1 : Int32)).toInt = -1 := rfl
      rw [h2] at this
      omega
    by_cases c1 : 0 < S.2.2.2.2.2.1 ∧ qDig c
    · unfold qSign at e
      rw [if_pos c1] at e
      have := (hi.2.2.2.2.1 c1.1).2
      split at e
      · exact hn _ (by omega) e
      · exact absurd (show (0 : Int32) = -1 from e) (by decide)
    · by_cases c2 : c = 32
      · rw [qSign_s c1 c2] at e; exact absurd e (by simp)
      · cases hb : S.2.2.2.2.1 with
        | true =>
          rw [qSign_b c1 c2 hb] at e
          unfold qBehind at e
          split at e
          · exact absurd (show (0 : Int32) = -1 from e) (by decide)
          · split at e
            · exact hn _ (by omega) e
            · exact absurd (show (0 : Int32) = -1 from e) (by decide)
        | false =>
          rw [qSign_u c1 c2 hb] at e
          unfold qUnit at e
          split at e
          · exact absurd (show (0 : Int32) = -1 from e) (by decide)
          · split at e
            · exact absurd (show (0 : Int32) = -1 from e) (by decide)
            · split at e
              · exact absurd (show (0 : Int32) = -1 from e) (by decide)
              · split at e
                · exact hn _ (by omega) e
                · split at e
                  · exact hn _ (by omega) e
                  · exact absurd (show (0 : Int32) = -1 from e) (by decide)
  have hrun : ∀ (m k : Nat) (S : zS), k + m ≤ 40 → qInv S k → ¬ (qRun t m k S).1 = -1 := by
    intro m
    induction m with
    | zero => intro k S _ _ e; exact absurd e (by simp [qRun])
    | succ m ih =>
      intro k S hk hi e
      simp only [qRun] at e
      by_cases c : (qSign (t k) k S).1 = 0
      · rw [if_pos c] at e
        exact ih (k + 1) _ (by omega) (qInv_sign hi (by omega) c) e
      · rw [if_neg c] at e
        exact hnz S k (t k) (by omega) hi e
  unfold qRead qEnd at h ⊢
  by_cases c : (qRun t many 0 qZ).1 = 0
  · rw [if_pos c] at h ⊢
    by_cases c2 : (qRun t many 0 qZ).2.2.2.2.2.1 = false ∨ 0 < (qRun t many 0 qZ).2.2.2.1
    · rw [if_pos c2] at h
      exact absurd h (hz 0)
    · rw [if_neg c2]
      obtain ⟨hw, hi⟩ := qWf_run t many 0 qZ (by omega) ⟨rfl, fun x hx => by simp at hx, fun w hw => by simp at hw⟩ qInv_Z c
      generalize (qRun t many 0 qZ).2 = S at hw hi c2
      have hb : S.2.2.2.2.1 = true := by
        cases e : S.2.2.2.2.1 with
        | true => rfl
        | false => exact absurd (Or.inl e) c2
      have hd : S.2.2.1 = 0 := by
        rcases Nat.eq_zero_or_pos S.2.2.1 with e | e
        · exact e
        · exact absurd (Or.inr e) c2
      obtain ⟨h1, h2, h3⟩ := hw
      rw [hb] at h1
      have hall : ∀ w ∈ S.2.1, (1 : Int32) ≤ pFirm w := by
        intro w hw
        rcases hi.2.2.2.1 w hw with e | e
        · subst e
          have hp : 0 < S.2.1.countP (fun w => w == 30) := List.countP_pos_iff.mpr ⟨30, hw, by decide⟩
          rw [hi.2.1, hd] at hp
          omega
        · exact e
      obtain ⟨g1, g2⟩ := qLD_wf (l := 1) (by decide) S.2.1 S.1 h1 h2 h3
      have he : (qLD 1 S.2.1 S.1).1 = [] := qLD_all S.2.1 S.1 hall
      rw [he] at g1
      have hl : (qLD 1 S.2.1 S.1).1.length + (qLD 1 S.2.1 S.1).2.length = S.2.1.length + S.1.length := qLD_len 1 S.2.1 S.1
      refine ⟨by show (qLD 1 S.2.1 S.1).2.length ≤ 40; have := hi.1; omega, g2, fun lt => ?_⟩
      obtain ⟨st', e1, e2⟩ := evC_of lt (qLD 1 S.2.1 S.1).2 [] 1 g1
      match st', e2 with
      | [v], _ => exact ⟨v, e1⟩
  · rw [if_neg c] at h
    exact absurd h (hrun many 0 qZ (by omega) qInv_Z)
section
variable {E : zE} {σ : zH} {a : Nat} {M : zMo}
end
