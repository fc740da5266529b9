/-! the reference's reader: a text -/
theorem qLD_sub (l : Int32) : ∀ (ws : List Int32) (cs : List (Int32 × Int64)) (w : Int32), w ∈ (qLD l ws cs).1 → w ∈ ws
  | [], cs, w, h => by simp [qLD] at h
  | x :: ws, cs, w, h => by
    simp only [qLD] at h
    split at h
    · exact List.mem_cons_of_mem _ (qLD_sub l ws _ w h)
    · exact h
theorem pFirm30 {l : Int32} (hl : 1 ≤ l) : ¬ l ≤ pFirm 30 := by
  intro h
  have h0 : pFirm 30 = 0 := by decide
  rw [h0] at h
  simp only [Int32.le_iff_toInt_le] at h hl
  have h1 : (0 : Int32).toInt = 0 := rfl
  have h2 : (1 : Int32).toInt = 1 := rfl
  omega
theorem qLD_ct {l : Int32} (hl : 1 ≤ l) : ∀ (ws : List Int32) (cs : List (Int32 × Int64)), (qLD l ws cs).1.countP (fun w => w == 30) = ws.countP (fun w => w == 30)
  | [], cs => rfl
  | x :: ws, cs => by
    simp only [qLD]
    split
    · rename_i h
      rw [qLD_ct hl ws]
      have hx : ¬ (x == 30) = true := by
        intro e
        simp at e
        subst e
        exact pFirm30 hl h
      rw [List.countP_cons, if_neg hx, Nat.add_zero]
    · rfl
theorem qLD_top (l : Int32) : ∀ (ws : List Int32) (cs : List (Int32 × Int64)) (t : Int32) (r : List Int32), (qLD l ws cs).1 = t :: r → ¬ l ≤ pFirm t
  | [], cs, t, r, h => by simp [qLD] at h
  | x :: ws, cs, t, r, h => by
    simp only [qLD] at h
    split at h
    · exact qLD_top l ws _ t r h
    · rename_i h1
      simp only [List.cons.injEq] at h
      rw [← h.1]; exact h1
theorem qLD_grow (l : Int32) : ∀ (ws : List Int32) (cs : List (Int32 × Int64)), cs.length ≤ (qLD l ws cs).2.length
  | [], cs => Nat.le_refl _
  | x :: ws, cs => by
    simp only [qLD]
    split
    · have := qLD_grow l ws (cs ++ [(x, 0)])
      simp at this
      omega
    · exact Nat.le_refl _
theorem qJoint_firm {c : Int32} (h : ¬ qJoint c = -1) : 1 ≤ pFirm (qJoint c) ∧ ¬ qJoint c = 30 := by
  have key : qJoint c = 11 ∨ qJoint c = 12 ∨ qJoint c = 13 ∨ qJoint c = 14 ∨ qJoint c = 15 ∨ qJoint c = 16 ∨ qJoint c = 17 ∨ qJoint c = 18 ∨ qJoint c = 19 ∨ qJoint c = -1 := by
    unfold qJoint
    iterate 9 (split; · simp)
    simp
  rcases key with e | e | e | e | e | e | e | e | e | e <;> first | exact absurd e h | (rw [e]; decide)
theorem qNum_len (c : Int32) (cs : List (Int32 × Int64)) : (qNum c cs).length = cs.length := by
  rcases List.eq_nil_or_concat cs with e | ⟨l, y, e⟩
  · subst e; rfl
  · subst e; rw [List.concat_eq_append, qNum_c]; simp
theorem qInv_unit {S : zS} {k : Nat} {c : Int32} (h : qInv S k) (hk : k < 40) (h0 : (qUnit c k S).1 = 0) : qInv (qUnit c k S).2 (k + 1) := by
  obtain ⟨h1, h2, h3, h4, h5, h6⟩ := h
  unfold qUnit at h0 ⊢
  by_cases c1 : qDig c
  · rw [if_pos c1]
    exact ⟨by simp; omega, h2, h3, h4, fun _ => ⟨by simp, hk⟩, by simp⟩
  · rw [if_neg c1] at h0 ⊢
    by_cases c2 : qLet c ≠ -1
    · rw [if_pos c2]
      exact ⟨by simp; omega, h2, h3, h4, fun g => ⟨by simp, (h5 g).2⟩, h6⟩
    · rw [if_neg c2] at h0 ⊢
      by_cases c3 : c = 33 ∨ c = 45
      · rw [if_pos c3]
        have hc : (if c = 33 then (20 : Int32) else 21) = 20 ∨ (if c = 33 then (20 : Int32) else 21) = 21 := by split <;> simp
        refine ⟨by simp; omega, ?_, h3, fun w hw => ?_, h5, h6⟩
        · show List.countP _ (_ :: S.2.1) = _
          rw [List.countP_cons_of_neg (by rcases hc with e | e <;> rw [e] <;> decide)]
          exact h2
        · rcases List.mem_cons.mp hw with e | e
          · right; rw [e]; rcases hc with e2 | e2 <;> rw [e2] <;> decide
          · exact h4 w e
      · rw [if_neg c3] at h0 ⊢
        by_cases c4 : c ≠ 40
        · rw [if_pos c4] at h0
          exact absurd h0 (nI_ne0 (by omega) (by omega))
        · rw [if_neg c4] at h0 ⊢
          by_cases c5 : S.2.2.1 = 8
          · rw [if_pos c5] at h0
            exact absurd h0 (nI_ne0 (by omega) (by omega))
          · rw [if_neg c5]
            refine ⟨by simp; omega, ?_, by show S.2.2.1 + 1 ≤ 8; omega, fun w hw => ?_, h5, h6⟩
            · show List.countP _ (30 :: S.2.1) = S.2.2.1 + 1
              rw [List.countP_cons_of_pos (by decide), h2]
            · rcases List.mem_cons.mp hw with e | e
              · exact Or.inl e
              · exact h4 w e
theorem qInv_behind {S : zS} {k : Nat} {c : Int32} (h : qInv S k) (hk : k < 40) (h0 : (qBehind c k S).1 = 0) : qInv (qBehind c k S).2 (k + 1) := by
  have hne := fun g => qInv_ne h g
  obtain ⟨h1, h2, h3, h4, h5, h6⟩ := h
  by_cases c1 : c = 41 ∧ 0 < S.2.2.1
  · rw [qBehind_c c1.1 c1.2]
    have hl : (qLDS 1 S).2.1.length + (qLDS 1 S).1.length = S.2.1.length + S.1.length := qLD_len 1 S.2.1 S.1
    have hc : (qLDS 1 S).2.1.countP (fun w => w == 30) = S.2.2.1 := (qLD_ct (by decide) S.2.1 S.1).trans h2
    cases hS : (qLDS 1 S).2.1 with
    | nil => exact absurd hS (hne c1.2)
    | cons t r =>
      have ht : t = 30 := by
        rcases h4 t (qLD_sub 1 S.2.1 S.1 t (by show t ∈ (qLDS 1 S).2.1; rw [hS]; exact List.mem_cons_self)) with e | e
        · exact e
        · exact absurd e (qLD_top 1 S.2.1 S.1 t r hS)
      rw [hS] at hl hc
      subst ht
      rw [List.countP_cons_of_pos (by decide)] at hc
      simp only [List.length_cons] at hl
      refine ⟨by show (qLDS 1 S).1.length + r.length ≤ _; omega, by show r.countP _ = S.2.2.1 - 1; omega, by show S.2.2.1 - 1 ≤ 8; omega, fun w hw => h4 w (qLD_sub 1 S.2.1 S.1 w (by show w ∈ (qLDS 1 S).2.1; rw [hS]; exact List.mem_cons_of_mem _ hw)), fun g => ⟨fun e => ?_, (h5 g).2⟩, h6⟩
      have e' : (qLDS 1 S).1.length = 0 := by rw [show (qLDS 1 S).1 = [] from e]; rfl
      have := (h5 g).1
      have h8 : 0 < S.1.length := by cases hS1 : S.1 with | nil => exact absurd hS1 this | cons _ _ => simp
      have h9 : S.1.length ≤ (qLDS 1 S).1.length := qLD_grow 1 S.2.1 S.1
      omega
  · by_cases c2 : qJoint c = -1 ∨ (pFirm (qJoint c) = 3 ∧ S.2.2.2.1 S.2.2.1 = true)
    · rw [qBehind_f c1 c2] at h0
      exact absurd h0 (nI_ne0 (by omega) (by omega))
    · rw [qBehind_j c1 c2]
      obtain ⟨f1, f2⟩ := qJoint_firm (fun e => c2 (Or.inl e))
      have hl : (qLDS (pFirm (qJoint c)) S).2.1.length + (qLDS (pFirm (qJoint c)) S).1.length = S.2.1.length + S.1.length := qLD_len _ S.2.1 S.1
      refine ⟨by show (qLDS (pFirm (qJoint c)) S).1.length + (qJoint c :: (qLDS (pFirm (qJoint c)) S).2.1).length ≤ _; simp only [List.length_cons]; omega, ?_, h3, fun w hw => ?_, fun g => ⟨fun e => ?_, (h5 g).2⟩, h6⟩
      · show List.countP _ (qJoint c :: (qLDS (pFirm (qJoint c)) S).2.1) = S.2.2.1
        rw [List.countP_cons_of_neg (by simpa using f2)]
        exact (qLD_ct f1 S.2.1 S.1).trans h2
      · rcases List.mem_cons.mp hw with e | e
        · right; rw [e]; exact f1
        · exact h4 w (qLD_sub _ S.2.1 S.1 w e)
      · have e' : (qLDS (pFirm (qJoint c)) S).1.length = 0 := by rw [show (qLDS (pFirm (qJoint c)) S).1 = [] from e]; rfl
        have := (h5 g).1
        have h8 : 0 < S.1.length := by cases hS1 : S.1 with | nil => exact absurd hS1 this | cons _ _ => simp
        have h9 : S.1.length ≤ (qLDS (pFirm (qJoint c)) S).1.length := qLD_grow _ S.2.1 S.1
        omega
theorem qInv_sign {S : zS} {k : Nat} {c : Int32} (h : qInv S k) (hk : k < 40) (h0 : (qSign c k S).1 = 0) : qInv (qSign c k S).2 (k + 1) := by
  by_cases c1 : 0 < S.2.2.2.2.2.1 ∧ qDig c
  · unfold qSign at h0 ⊢
    rw [if_pos c1] at h0 ⊢
    obtain ⟨h1, h2, h3, h4, h5, h6⟩ := h
    by_cases c2 : S.2.2.2.2.2.1 = 6
    · rw [if_pos c2] at h0
      have := (h5 c1.1).2
      exact absurd h0 (nI_ne0 (by omega) (by omega))
    · rw [if_neg c2]
      refine ⟨by show (qNum c S.1).length + S.2.1.length ≤ k + 1; rw [qNum_len]; omega, h2, h3, h4, fun _ => ⟨fun e => ?_, (h5 c1.1).2⟩, by show S.2.2.2.2.2.1 + 1 ≤ 6; omega⟩
      have e' : (qNum c S.1).length = 0 := by rw [show qNum c S.1 = [] from e]; rfl
      rw [qNum_len] at e'
      exact (h5 c1.1).1 (List.eq_nil_of_length_eq_zero e')
  · have hs : qInv (qS0 S) k := qInv_dg h
    by_cases c2 : c = 32
    · rw [qSign_s c1 c2]
      obtain ⟨h1, h2, h3, h4, h5, h6⟩ := hs
      exact ⟨Nat.le_succ_of_le h1, h2, h3, h4, h5, h6⟩
    · cases hb : S.2.2.2.2.1 with
      | true => rw [qSign_b c1 c2 hb] at h0 ⊢; exact qInv_behind hs hk h0
      | false => rw [qSign_u c1 c2 hb] at h0 ⊢; exact qInv_unit hs hk h0
def qRun (t : Nat → Int32) : Nat → Nat → zS → Int32 × zS
  | 0, _, S => (0, S)
  | m + 1, k, S => if (qSign (t k) k S).1 = 0 then qRun t m (k + 1) (qSign (t k) k S).2 else qSign (t k) k S
def qEnd (many : Nat) (p : Int32 × zS) : Int32 × zS := if p.1 = 0 then (if p.2.2.2.2.2.1 = false ∨ 0 < p.2.2.2.1 then (nI (10 * many + 1), p.2) else (-1, qLDS 1 p.2)) else p
abbrev qZ : zS := ([], [], 0, fun _ => false, false, 0, 0)
abbrev qRead (t : Nat → Int32) (many : Nat) : Int32 × zS := qEnd many (qRun t many 0 qZ)
theorem qInv_Z : qInv qZ 0 := ⟨Nat.le_refl _, rfl, Nat.zero_le _, fun w h => by simp at h, fun g => absurd g (Nat.lt_irrefl 0), Nat.zero_le _⟩
section
variable {E : zE} {σ : zH} {a : Nat} {M : zMo}
theorem l_read (l many : Nat) (hl : l < 4) (hmany : many ≤ 40) : ∀ (m : Nat) (k : Nat) (Mk : zMo) (S : zS) (o4 : Option Value), (k + m = many) → (mCore M Mk) → (mRep Mk S) → (qInv S k) → ∀ n, zXB E YM_read 6 n (some (.int (qEnd many (qRun (fun j => M.1 0 (372 + 40 * l + j)) m k S)).1)) (mP σ a M (qEnd many (qRun (fun j => M.1 0 (372 + 40 * l + j)) m k S)).2) (mw σ a Mk) 45 [some (.ref a), some (.int (nI l)), some (.int (nI many)), some (.int (nI k)), o4] [] := by
  intro m
  induction m using Nat.strongRecOn with
  | ind m ih =>
  intro k Mk S o4 hk hc hr hi n
  refine zj_iload_n 29 rfl rfl rfl ?_
  refine zj_iload_n 30 rfl rfl rfl ?_
  refine zn_icmp_ge 31 (k) (many) rfl rfl rfl rfl (by omega) (by omega) (fun c47 => ?_) (fun c47 => ?_)
  · obtain rfl : m = 0 := by omega
    have e : qRun (fun j => M.1 0 (372 + 40 * l + j)) 0 k S = (0, S) := rfl
    rw [e]
    have hlt := hi.1
    refine zj_aload_n 52 rfl rfl rfl ?_
    refine zj_get 53 rfl rfl mw_0 rfl ?_
    refine zj_if_eq 54 rfl rfl (fun c90 => ?_) (fun c90 => ?_)
    · refine zj_bipush 58 (10) rfl rfl (by decide) ?_
      refine zj_iload_n 59 rfl rfl rfl ?_
      refine zn_imul 60 (10) (many) rfl rfl rfl rfl ?_
      refine zj_iconst 61 (1) rfl rfl (by decide) ?_
      refine zn_iadd 62 (10 * many) (1) rfl rfl rfl rfl ?_
      refine zj_ireturn 63 rfl rfl rfl ?_
      have e2 : qEnd many (0, S) = (nI (10 * many + 1), S) := by
        unfold qEnd; rw [if_pos rfl, if_pos (Or.inl (zob_0.mp (hr.2.2.2.1.symm.trans c90)))]
      rw [e2]
      exact ⟨rfl, rfl, Mk, rfl, hc, hr⟩
    · refine zj_aload_n 55 rfl rfl rfl ?_
      refine zj_get 56 rfl rfl mw_0 rfl ?_
      refine zj_if_le 57 rfl rfl (fun c97 => ?_) (fun c97 => ?_)
      · refine zj_aload_n 64 rfl rfl rfl ?_
        refine zj_iconst 65 (1) rfl rfl (by decide) ?_
        refine zj_cvvX 66 rfl rfl lk_8_113 ckM_layDown (k_layDown _ S hr (by omega)) rfl mw_0 rfl rfl rfl (fun s1 hP1 => ?_)
        obtain ⟨M1, rfl, hc1, hr1⟩ := hP1
        refine zj_iconst 67 (-1) rfl rfl (by decide) ?_
        refine zj_ireturn 68 rfl rfl rfl ?_
        have e2 : qEnd many (0, S) = (-1, qLDS 1 S) := by
          unfold qEnd
          rw [if_pos rfl, if_neg]
          rintro (g | g)
          · have g2 : S.2.2.2.2.1 = true := zob_n.mp (fun z => c90 (hr.2.2.2.1.trans z))
            exact absurd g (by rw [g2]; decide)
          · exact absurd (show Mk.2.2.1 2 ≤ 0 from c97) (by rw [hr.2.2.1.1]; exact nI_nle g (by have := hi.2.2.1; omega))
        rw [e2]
        exact ⟨rfl, rfl, M1, rfl, hc.trans hc1, hr1⟩
      · refine zj_bipush 58 (10) rfl rfl (by decide) ?_
        refine zj_iload_n 59 rfl rfl rfl ?_
        refine zn_imul 60 (10) (many) rfl rfl rfl rfl ?_
        refine zj_iconst 61 (1) rfl rfl (by decide) ?_
        refine zn_iadd 62 (10 * many) (1) rfl rfl rfl rfl ?_
        refine zj_ireturn 63 rfl rfl rfl ?_
        have e2 : qEnd many (0, S) = (nI (10 * many + 1), S) := by
          unfold qEnd; rw [if_pos rfl, if_pos (Or.inr (by
            rcases Nat.eq_zero_or_pos S.2.2.1 with e | e
            · exact absurd (show Mk.2.2.1 2 ≤ 0 by rw [hr.2.2.1.1, e]; decide) c97
            · exact e))]
        rw [e2]
        exact ⟨rfl, rfl, Mk, rfl, hc, hr⟩
  · obtain ⟨m', rfl⟩ : ∃ m', m = m' + 1 := ⟨m - 1, by omega⟩
    refine zj_aload_n 32 rfl rfl rfl ?_
    refine zj_aload_n 33 rfl rfl rfl ?_
    refine zj_get 34 rfl rfl mw_0 rfl ?_
    refine zj_sipush 35 (372) rfl rfl (by decide) ?_
    refine zj_bipush 36 (40) rfl rfl (by decide) ?_
    refine zj_iload_n 37 rfl rfl rfl ?_
    refine zn_imul 38 (40) (l) rfl rfl rfl rfl ?_
    refine zn_iadd 39 (372) (40 * l) rfl rfl rfl rfl ?_
    refine zj_iload_n 40 rfl rfl rfl ?_
    refine zn_iadd 41 ((372) + (40 * l)) (k) rfl rfl rfl rfl ?_
    refine zn_iald 42 (((372) + (40 * l)) + (k)) rfl rfl mw_1 rfl (by omega) (by decide) ?_
    rw [hc.1]
    refine zj_iload_n 43 rfl rfl rfl ?_
    refine zj_cvxX 44 rfl rfl lk_8_151 ckM_goSign (k_goSign _ _ S hr hi (by omega)) rfl mw_0 rfl rfl rfl (fun s1 hP1 => ?_)
    obtain ⟨M1, rfl, hc1, hr1⟩ := hP1
    refine zj_istore 45 rfl rfl ?_
    refine zj_iload 46 rfl rfl rfl ?_
    refine zj_if_eq 47 rfl rfl (fun c74 => ?_) (fun c74 => ?_)
    · refine zn_iinc 50 (k) rfl rfl rfl rfl ?_
      refine zj_goto 51 rfl rfl ?_
      have e : qRun (fun j => M.1 0 (372 + 40 * l + j)) (m' + 1) k S = qRun (fun j => M.1 0 (372 + 40 * l + j)) m' (k + 1) (qSign (M.1 0 (372 + 40 * l + k)) k S).2 := by
        simp only [qRun]; rw [if_pos c74]
      rw [e]
      exact ih m' (by omega) (k + 1) M1 _ _ (by omega) (hc.trans hc1) hr1 (qInv_sign hi (by omega) c74) n
    · refine zj_iload 48 rfl rfl rfl ?_
      refine zj_ireturn 49 rfl rfl rfl ?_
      have e : qRun (fun j => M.1 0 (372 + 40 * l + j)) (m' + 1) k S = qSign (M.1 0 (372 + 40 * l + k)) k S := by
        simp only [qRun]; rw [if_neg c74]
      have e2 : qEnd many (qSign (M.1 0 (372 + 40 * l + k)) k S) = qSign (M.1 0 (372 + 40 * l + k)) k S := if_neg c74
      rw [e, e2]
      exact ⟨rfl, rfl, M1, rfl, hc.trans hc1, hr1⟩
theorem mRep_0 (M : zMo) : mRep ((((((M.sI 0 0).sI 1 0).sI 2 0).sA 6 (va_up (M.1 6) 0 0)).sI 3 0).sI 4 0) qZ := by
  refine ⟨⟨rfl, fun i x hx => by simp at hx⟩, ⟨rfl, fun i x hx => by simp at hx⟩, ⟨rfl, fun i hi => ?_⟩, rfl, rfl, fun g => absurd g (Nat.lt_irrefl 0)⟩
  have e : i = 0 := by have : i ≤ 0 := hi; omega
  subst e
  rfl
theorem k_read (l many : Nat) (hl : l < 4) (hm : M.1 0 (368 + l) = nI many) (hmany : many ≤ 40) : zX E YM_read 6 [.ref a, .int (nI l)] (mw σ a M) (some (.int (qRead (fun j => M.1 0 (372 + 40 * l + j)) many).1)) (mP σ a M (qRead (fun j => M.1 0 (372 + 40 * l + j)) many).2) := by
  refine zX.of oM_read (by decide +kernel) rfl rfl (fun n => ?_)
  refine zj_aload_n 0 rfl rfl rfl ?_
  refine zj_iconst 1 (0) rfl rfl (by decide) ?_
  refine zn_put 2 rfl rfl mw_0 rfl rfl rfl rfl mw_p_codeMany ?_
  refine zj_aload_n 3 rfl rfl rfl ?_
  refine zj_iconst 4 (0) rfl rfl (by decide) ?_
  refine zn_put 5 rfl rfl mw_0 rfl rfl rfl rfl mw_p_waiting ?_
  refine zj_aload_n 6 rfl rfl rfl ?_
  refine zj_iconst 7 (0) rfl rfl (by decide) ?_
  refine zn_put 8 rfl rfl mw_0 rfl rfl rfl rfl mw_p_depth ?_
  refine zj_aload_n 9 rfl rfl rfl ?_
  refine zj_get 10 rfl rfl mw_0 rfl ?_
  refine zj_iconst 11 (0) rfl rfl (by decide) ?_
  refine zj_iconst 12 (0) rfl rfl (by decide) ?_
  refine zn_zast 13 (0) rfl rfl mw_8 rfl (by omega) (by decide) rfl mw_u8 ?_
  refine zj_aload_n 14 rfl rfl rfl ?_
  refine zj_iconst 15 (0) rfl rfl (by decide) ?_
  refine zn_put 16 rfl rfl mw_0 rfl rfl rfl rfl mw_p_isBehind ?_
  refine zj_aload_n 17 rfl rfl rfl ?_
  refine zj_iconst 18 (0) rfl rfl (by decide) ?_
  refine zn_put 19 rfl rfl mw_0 rfl rfl rfl rfl mw_p_digits ?_
  refine zj_aload_n 20 rfl rfl rfl ?_
  refine zj_get 21 rfl rfl mw_0 rfl ?_
  refine zj_sipush 22 (368) rfl rfl (by decide) ?_
  refine zj_iload_n 23 rfl rfl rfl ?_
  refine zn_iadd 24 (368) (l) rfl rfl rfl rfl ?_
  refine zn_iald 25 (368 + l) rfl rfl mw_1 rfl (by omega) (by decide) ?_
  rw [show (((((((M.sI 0 0).sI 1 0).sI 2 0).sA 6 (va_up (M.1 6) 0 0)).sI 3 0).sI 4 0).1 0 (368 + l)) = nI many from hm]
  refine zj_istore_n 26 rfl rfl ?_
  refine zj_iconst 27 (0) rfl rfl (by decide) ?_
  refine zj_istore_n 28 rfl rfl ?_
  exact l_read l many hl hmany many 0 _ qZ _ (by omega) ((mCore_sI M 0 0).trans ((mCore_sI _ 1 0).trans ((mCore_sI _ 2 0).trans ((mCore_sA6 _ _).trans ((mCore_sI _ 3 0).trans (mCore_sI _ 4 0)))))) (mRep_0 M) qInv_Z n
theorem k_Mfault (l many : Nat) (hl : l < 4) (hm : M.1 0 (368 + l) = nI many) (hmany : many ≤ 40) : zX E YM_fault 7 [.ref a, .int (nI l)] (mw σ a M) (some (.int (qRead (fun j => M.1 0 (372 + 40 * l + j)) many).1)) (mP σ a M (qRead (fun j => M.1 0 (372 + 40 * l + j)) many).2) := by
  refine zX.of oM_fault (by decide +kernel) rfl rfl (fun n => ?_)
  refine zj_iload_n 0 rfl rfl rfl ?_
  refine zj_csx 1 rfl rfl lk_8_57 ckM_isFour (k_isFour _) rfl rfl rfl rfl ?_
  refine zj_if_eq 2 rfl rfl (fun c4 => ?_) (fun c4 => ?_)
  · exact absurd (zr_of (n := 4) (by omega) (by decide)) (zo_0.mp c4)
  · refine zj_aload_n 3 rfl rfl rfl ?_
    refine zj_iload_n 4 rfl rfl rfl ?_
    refine zj_cvxX 5 rfl rfl lk_8_154 ckM_read (k_read l many hl hm hmany) rfl mw_0 rfl rfl rfl (fun s1 hP1 => ?_)
    obtain ⟨M1, rfl, hc1, hr1⟩ := hP1
    refine zj_goto 6 rfl rfl ?_
    refine zj_ireturn 8 rfl rfl rfl ?_
    exact ⟨rfl, rfl, M1, rfl, hc1, hr1⟩
theorem k_Mfault_bad (l : Int32) (hb : ¬ zr l 4) : zM E YM_fault 7 [.ref a, .int l] (mw σ a M) (some (.int (-2))) (mw σ a M) := by
  refine zM.of oM_fault (by decide +kernel) rfl rfl (fun n => ?_)
  refine zj_iload_n 0 rfl rfl rfl ?_
  refine zj_csx 1 rfl rfl lk_8_57 ckM_isFour (k_isFour _) rfl rfl rfl rfl ?_
  refine zj_if_eq 2 rfl rfl (fun c4 => ?_) (fun c4 => ?_)
  · refine zj_bipush 7 (-2) rfl rfl (by decide) ?_
    refine zj_ireturn 8 rfl rfl rfl ?_
    exact ⟨rfl, rfl, rfl⟩
  · exact absurd (zo_n0.mp c4) hb
end
