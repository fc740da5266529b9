/-! the reference's reader, a sign -/
abbrev qDig (c : Int32) : Prop := 48 ≤ c.toInt ∧ c.toInt ≤ 57
def qUnit (c : Int32) (k : Nat) (S : zS) : Int32 × zS :=
  if qDig c then (0, (S.1 ++ [(6, (c - 48).toInt64)], S.2.1, S.2.2.1, S.2.2.2.1, true, 1, k))
  else if qLet c ≠ -1 then (0, (S.1 ++ [(qLet c, 0)], S.2.1, S.2.2.1, S.2.2.2.1, true, S.2.2.2.2.2))
  else if c = 33 ∨ c = 45 then (0, (S.1, (if c = 33 then 20 else 21) :: S.2.1, S.2.2))
  else if c ≠ 40 then (nI (10 * k + 1), S)
  else if S.2.2.1 = 8 then (nI (10 * k + 3), S)
  else (0, (S.1, 30 :: S.2.1, S.2.2.1 + 1, va_up S.2.2.2.1 (S.2.2.1 + 1) false, S.2.2.2.2))
def qBehind (c : Int32) (k : Nat) (S : zS) : Int32 × zS :=
  if c = 41 ∧ 0 < S.2.2.1 then (0, ((qLDS 1 S).1, (qLDS 1 S).2.1.tail, S.2.2.1 - 1, S.2.2.2))
  else if qJoint c = -1 ∨ (pFirm (qJoint c) = 3 ∧ S.2.2.2.1 S.2.2.1 = true) then (nI (10 * k + 1), S)
  else (0, qJoin (qJoint c) (S.1, S.2.1, S.2.2.1, va_up S.2.2.2.1 S.2.2.1 (decide (pFirm (qJoint c) = 3) || (S.2.2.2.1 S.2.2.1 && decide (3 < pFirm (qJoint c)))), S.2.2.2.2))
theorem mRep_dp {M : zMo} {S : zS} (h : mRep M S) : mRep ((M.sI 2 (nI (S.2.2.1 + 1))).sA 6 (va_up (M.1 6) (S.2.2.1 + 1) 0)) (S.1, S.2.1, S.2.2.1 + 1, va_up S.2.2.2.1 (S.2.2.1 + 1) false, S.2.2.2.2) := by
  obtain ⟨⟨h1, h2⟩, ⟨h3, h4⟩, ⟨h5, h6⟩, h7, h8, h9⟩ := h
  refine ⟨⟨by simpa [va_up] using h1, fun i x hx => by simpa [va_up] using h2 i x hx⟩, ⟨by simpa [va_up] using h3, fun i x hx => by simpa [va_up] using h4 i x hx⟩, ⟨by simp [va_up], fun i hi => ?_⟩, by simpa [va_up] using h7, by simpa [va_up] using h8, fun hd => by simpa [va_up] using h9 hd⟩
  by_cases e : i = S.2.2.1 + 1
  · subst e; simp [va_up, zob]
  · have := h6 i (by have : i ≤ S.2.2.1 + 1 := hi; omega)
    simpa [va_up, e] using this
theorem mRep_up {M : zMo} {S : zS} (h : mRep M S) {d : Nat} (e : S.2.2.1 = d + 1) : mRep (M.sI 2 (nI d)) (S.1, S.2.1, d, S.2.2.2) := by
  obtain ⟨⟨h1, h2⟩, ⟨h3, h4⟩, ⟨h5, h6⟩, h7, h8, h9⟩ := h
  exact ⟨⟨by simpa [va_up] using h1, h2⟩, ⟨by simpa [va_up] using h3, h4⟩, ⟨by simp [va_up], fun i hi => h6 i (by have : i ≤ d := hi; omega)⟩, by simpa [va_up] using h7, by simpa [va_up] using h8, fun hd => by simpa [va_up] using h9 hd⟩
theorem mRep_cm {M : zMo} {S : zS} (h : mRep M S) (b : Bool) : mRep (M.sA 6 (va_up (M.1 6) S.2.2.1 (zob b))) (S.1, S.2.1, S.2.2.1, va_up S.2.2.2.1 S.2.2.1 b, S.2.2.2.2) := by
  obtain ⟨⟨h1, h2⟩, ⟨h3, h4⟩, ⟨h5, h6⟩, h7, h8, h9⟩ := h
  refine ⟨⟨by simpa [va_up] using h1, fun i x hx => by simpa [va_up] using h2 i x hx⟩, ⟨by simpa [va_up] using h3, fun i x hx => by simpa [va_up] using h4 i x hx⟩, ⟨by simpa [va_up] using h5, fun i hi => ?_⟩, by simpa [va_up] using h7, by simpa [va_up] using h8, fun hd => by simpa [va_up] using h9 hd⟩
  by_cases e : i = S.2.2.1
  · subst e; simp [va_up]
  · have := h6 i hi
    simpa [va_up, e] using this
theorem mCore_sA6 (M : zMo) (f : Nat → Int32) : mCore M (M.sA 6 f) := by
  refine ⟨?_, ?_, ?_, ?_, ?_, ?_, ?_⟩ <;> simp [va_up]
theorem mCore_sB (M : zMo) (j : Nat) (f : Nat → Int64) : mCore M (M.sB j f) := ⟨rfl, rfl, rfl, rfl, rfl, rfl, rfl⟩
theorem zob_0 {b : Bool} : zob b = 0 ↔ b = false := by cases b <;> simp [zob]
theorem zob_n {b : Bool} : ¬ zob b = 0 ↔ b = true := by cases b <;> simp [zob]
section
variable {E : zE} {σ : zH} {a : Nat} {M : zMo}
theorem k_inD (c : Int32) : zM E YM_in 1 [.long c.toInt64, .long 48, .long 57] σ (some (.int (zo (qDig c)))) σ := by
  have h := k_in (E := E) (σ := σ) c.toInt64 48 57
  have e : zo ((48 : Int64).toInt ≤ c.toInt64.toInt ∧ c.toInt64.toInt ≤ (57 : Int64).toInt) = zo (qDig c) := zo_c (by rw [zl0]; exact Iff.rfl)
  rw [e] at h
  exact h
theorem k_goUnit (c : Int32) (k : Nat) (S : zS) (hr : mRep M S) (hb : S.1.length + S.2.1.length ≤ 39) (hk : k < 100) (hdp : S.2.2.1 ≤ 8) : zX E YM_goUnit 2 [.ref a, .int c, .int (nI k)] (mw σ a M) (some (.int (qUnit c k S).1)) (mP σ a M (qUnit c k S).2) := by
  refine zX.of oM_goUnit (by decide +kernel) rfl rfl (fun n => ?_)
  refine zj_iload_n 0 rfl rfl rfl ?_
  refine zj_i2l 1 rfl rfl ?_
  refine zj_ldc2 2 (48) rfl rfl (by decide) ?_
  refine zj_ldc2 3 (57) rfl rfl (by decide) ?_
  refine zj_csx 4 rfl rfl lk_8_51 ckM_in (k_inD _) rfl rfl rfl rfl ?_
  refine zj_if_eq 5 rfl rfl (fun c11 => ?_) (fun c11 => ?_)
  · refine zj_iload_n 24 rfl rfl rfl ?_
    refine zj_csx 25 rfl rfl lk_8_131 ckM_letterOf (k_letterOf _) rfl rfl rfl rfl ?_
    refine zj_iconst 26 (-1) rfl rfl (by decide) ?_
    refine zj_icmp_eq 27 rfl rfl (fun c47 => ?_) (fun c47 => ?_)
    · refine zj_iload_n 38 rfl rfl rfl ?_
      refine zj_bipush 39 (33) rfl rfl (by decide) ?_
      refine zj_icmp_eq 40 rfl rfl (fun c69 => ?_) (fun c69 => ?_)
      · refine zj_aload_n 44 rfl rfl rfl ?_
        refine zj_get 45 rfl rfl mw_0 rfl ?_
        refine zj_aload_n 46 rfl rfl rfl ?_
        refine zj_get 47 rfl rfl mw_0 rfl ?_
        refine zj_iload_n 48 rfl rfl rfl ?_
        refine zj_bipush 49 (33) rfl rfl (by decide) ?_
        refine zj_icmp_ne 50 rfl rfl (fun c89 => ?_) (fun c89 => ?_)
        · refine zj_bipush 53 (21) rfl rfl (by decide) ?_
          refine zn_iast 54 (S.2.1.length) rfl rfl mw_7 hr.2.1.1 (by omega) (by decide) mw_u7 ?_
          refine zj_aload_n 55 rfl rfl rfl ?_
          refine zj_dup 56 rfl rfl rfl ?_
          refine zj_get 57 rfl rfl mw_0 rfl ?_
          refine zj_iconst 58 (1) rfl rfl (by decide) ?_
          refine zn_iadd 59 (S.2.1.length) (1) rfl rfl hr.2.1.1 rfl ?_
          refine zn_put 60 rfl rfl mw_0 rfl rfl rfl rfl mw_p_waiting ?_
          refine zj_iconst 61 (0) rfl rfl (by decide) ?_
          refine zj_ireturn 62 rfl rfl rfl ?_
          have e : qUnit c k S = (0, (S.1, (if c = 33 then 20 else 21) :: S.2.1, S.2.2)) := by
            unfold qUnit
            rw [if_neg (zo_0.mp c11), if_neg (fun g => g c47), if_pos (by first | exact Or.inl c69 | exact Or.inr c75)]
          rw [e]
          first
            | (rw [if_pos c89]; exact ⟨rfl, rfl, _, rfl, (mCore_sA5 _ _).trans (mCore_sI _ 1 _), mRep_push hr _⟩)
            | (rw [if_neg c89]; exact ⟨rfl, rfl, _, rfl, (mCore_sA5 _ _).trans (mCore_sI _ 1 _), mRep_push hr _⟩)
        · refine zj_bipush 51 (20) rfl rfl (by decide) ?_
          refine zj_goto 52 rfl rfl ?_
          refine zn_iast 54 (S.2.1.length) rfl rfl mw_7 hr.2.1.1 (by omega) (by decide) mw_u7 ?_
          refine zj_aload_n 55 rfl rfl rfl ?_
          refine zj_dup 56 rfl rfl rfl ?_
          refine zj_get 57 rfl rfl mw_0 rfl ?_
          refine zj_iconst 58 (1) rfl rfl (by decide) ?_
          refine zn_iadd 59 (S.2.1.length) (1) rfl rfl hr.2.1.1 rfl ?_
          refine zn_put 60 rfl rfl mw_0 rfl rfl rfl rfl mw_p_waiting ?_
          refine zj_iconst 61 (0) rfl rfl (by decide) ?_
          refine zj_ireturn 62 rfl rfl rfl ?_
          have e : qUnit c k S = (0, (S.1, (if c = 33 then 20 else 21) :: S.2.1, S.2.2)) := by
            unfold qUnit
            rw [if_neg (zo_0.mp c11), if_neg (fun g => g c47), if_pos (by first | exact Or.inl c69 | exact Or.inr c75)]
          rw [e]
          first
            | (rw [if_pos c89]; exact ⟨rfl, rfl, _, rfl, (mCore_sA5 _ _).trans (mCore_sI _ 1 _), mRep_push hr _⟩)
            | (rw [if_neg c89]; exact ⟨rfl, rfl, _, rfl, (mCore_sA5 _ _).trans (mCore_sI _ 1 _), mRep_push hr _⟩)
      · refine zj_iload_n 41 rfl rfl rfl ?_
        refine zj_bipush 42 (45) rfl rfl (by decide) ?_
        refine zj_icmp_ne 43 rfl rfl (fun c75 => ?_) (fun c75 => ?_)
        · refine zj_iload_n 63 rfl rfl rfl ?_
          refine zj_bipush 64 (40) rfl rfl (by decide) ?_
          refine zj_icmp_eq 65 rfl rfl (fun c115 => ?_) (fun c115 => ?_)
          · refine zj_aload_n 72 rfl rfl rfl ?_
            refine zj_get 73 rfl rfl mw_0 rfl ?_
            refine zj_bipush 74 (8) rfl rfl (by decide) ?_
            refine zn_icmp_ne 75 (S.2.2.1) (8) rfl rfl hr.2.2.1.1 rfl (by omega) (by omega) (fun c131 => ?_) (fun c131 => ?_)
            · refine zj_aload_n 82 rfl rfl rfl ?_
              refine zj_get 83 rfl rfl mw_0 rfl ?_
              refine zj_aload_n 84 rfl rfl rfl ?_
              refine zj_get 85 rfl rfl mw_0 rfl ?_
              refine zj_bipush 86 (30) rfl rfl (by decide) ?_
              refine zn_iast 87 (S.2.1.length) rfl rfl mw_7 hr.2.1.1 (by omega) (by decide) mw_u7 ?_
              refine zj_aload_n 88 rfl rfl rfl ?_
              refine zj_dup 89 rfl rfl rfl ?_
              refine zj_get 90 rfl rfl mw_0 rfl ?_
              refine zj_iconst 91 (1) rfl rfl (by decide) ?_
              refine zn_iadd 92 (S.2.1.length) (1) rfl rfl hr.2.1.1 rfl ?_
              refine zn_put 93 rfl rfl mw_0 rfl rfl rfl rfl mw_p_waiting ?_
              refine zj_aload_n 94 rfl rfl rfl ?_
              refine zj_dup 95 rfl rfl rfl ?_
              refine zj_get 96 rfl rfl mw_0 rfl ?_
              refine zj_iconst 97 (1) rfl rfl (by decide) ?_
              refine zn_iadd 98 (S.2.2.1) (1) rfl rfl hr.2.2.1.1 rfl ?_
              refine zn_put 99 rfl rfl mw_0 rfl rfl rfl rfl mw_p_depth ?_
              refine zj_aload_n 100 rfl rfl rfl ?_
              refine zj_get 101 rfl rfl mw_0 rfl ?_
              refine zj_aload_n 102 rfl rfl rfl ?_
              refine zj_get 103 rfl rfl mw_0 rfl ?_
              refine zj_iconst 104 (0) rfl rfl (by decide) ?_
              refine zn_zast 105 (S.2.2.1 + 1) rfl rfl mw_8 rfl (by omega) (by decide) rfl mw_u8 ?_
              refine zj_iconst 106 (0) rfl rfl (by decide) ?_
              refine zj_ireturn 107 rfl rfl rfl ?_
              have e : qUnit c k S = (0, (S.1, 30 :: S.2.1, S.2.2.1 + 1, va_up S.2.2.2.1 (S.2.2.1 + 1) false, S.2.2.2.2)) := by
                unfold qUnit
                rw [if_neg (zo_0.mp c11), if_neg (fun g => g c47), if_neg (fun g => g.elim c69 c75), if_neg (fun g => g c115), if_neg c131]
              rw [e]
              exact ⟨rfl, rfl, _, rfl, (mCore_sA5 _ _).trans ((mCore_sI _ 1 _).trans ((mCore_sI _ 2 _).trans (mCore_sA6 _ _))), mRep_dp (mRep_push hr 30)⟩
            · refine zj_bipush 76 (10) rfl rfl (by decide) ?_
              refine zj_iload_n 77 rfl rfl rfl ?_
              refine zn_imul 78 (10) (k) rfl rfl rfl rfl ?_
              refine zj_iconst 79 (3) rfl rfl (by decide) ?_
              refine zn_iadd 80 (10 * k) (3) rfl rfl rfl rfl ?_
              refine zj_ireturn 81 rfl rfl rfl ?_
              have e : qUnit c k S = (nI (10 * k + 3), S) := by
                unfold qUnit
                rw [if_neg (zo_0.mp c11), if_neg (fun g => g c47), if_neg (fun g => g.elim c69 c75), if_neg (fun g => g c115), if_pos c131]
              rw [e]
              exact ⟨rfl, rfl, _, rfl, mCore.rfl, hr⟩
          · refine zj_bipush 66 (10) rfl rfl (by decide) ?_
            refine zj_iload_n 67 rfl rfl rfl ?_
            refine zn_imul 68 (10) (k) rfl rfl rfl rfl ?_
            refine zj_iconst 69 (1) rfl rfl (by decide) ?_
            refine zn_iadd 70 (10 * k) (1) rfl rfl rfl rfl ?_
            refine zj_ireturn 71 rfl rfl rfl ?_
            have e : qUnit c k S = (nI (10 * k + 1), S) := by
              unfold qUnit
              rw [if_neg (zo_0.mp c11), if_neg (fun g => g c47), if_neg (fun g => g.elim c69 c75), if_pos c115]
            rw [e]
            exact ⟨rfl, rfl, _, rfl, mCore.rfl, hr⟩
        · refine zj_aload_n 44 rfl rfl rfl ?_
          refine zj_get 45 rfl rfl mw_0 rfl ?_
          refine zj_aload_n 46 rfl rfl rfl ?_
          refine zj_get 47 rfl rfl mw_0 rfl ?_
          refine zj_iload_n 48 rfl rfl rfl ?_
          refine zj_bipush 49 (33) rfl rfl (by decide) ?_
          refine zj_icmp_ne 50 rfl rfl (fun c89 => ?_) (fun c89 => ?_)
          · refine zj_bipush 53 (21) rfl rfl (by decide) ?_
            refine zn_iast 54 (S.2.1.length) rfl rfl mw_7 hr.2.1.1 (by omega) (by decide) mw_u7 ?_
            refine zj_aload_n 55 rfl rfl rfl ?_
            refine zj_dup 56 rfl rfl rfl ?_
            refine zj_get 57 rfl rfl mw_0 rfl ?_
            refine zj_iconst 58 (1) rfl rfl (by decide) ?_
            refine zn_iadd 59 (S.2.1.length) (1) rfl rfl hr.2.1.1 rfl ?_
            refine zn_put 60 rfl rfl mw_0 rfl rfl rfl rfl mw_p_waiting ?_
            refine zj_iconst 61 (0) rfl rfl (by decide) ?_
            refine zj_ireturn 62 rfl rfl rfl ?_
            have e : qUnit c k S = (0, (S.1, (if c = 33 then 20 else 21) :: S.2.1, S.2.2)) := by
              unfold qUnit
              rw [if_neg (zo_0.mp c11), if_neg (fun g => g c47), if_pos (by first | exact Or.inl c69 | exact Or.inr c75)]
            rw [e]
            first
              | (rw [if_pos c89]; exact ⟨rfl, rfl, _, rfl, (mCore_sA5 _ _).trans (mCore_sI _ 1 _), mRep_push hr _⟩)
              | (rw [if_neg c89]; exact ⟨rfl, rfl, _, rfl, (mCore_sA5 _ _).trans (mCore_sI _ 1 _), mRep_push hr _⟩)
          · refine zj_bipush 51 (20) rfl rfl (by decide) ?_
            refine zj_goto 52 rfl rfl ?_
            refine zn_iast 54 (S.2.1.length) rfl rfl mw_7 hr.2.1.1 (by omega) (by decide) mw_u7 ?_
            refine zj_aload_n 55 rfl rfl rfl ?_
            refine zj_dup 56 rfl rfl rfl ?_
            refine zj_get 57 rfl rfl mw_0 rfl ?_
            refine zj_iconst 58 (1) rfl rfl (by decide) ?_
            refine zn_iadd 59 (S.2.1.length) (1) rfl rfl hr.2.1.1 rfl ?_
            refine zn_put 60 rfl rfl mw_0 rfl rfl rfl rfl mw_p_waiting ?_
            refine zj_iconst 61 (0) rfl rfl (by decide) ?_
            refine zj_ireturn 62 rfl rfl rfl ?_
            have e : qUnit c k S = (0, (S.1, (if c = 33 then 20 else 21) :: S.2.1, S.2.2)) := by
              unfold qUnit
              rw [if_neg (zo_0.mp c11), if_neg (fun g => g c47), if_pos (by first | exact Or.inl c69 | exact Or.inr c75)]
            rw [e]
            first
              | (rw [if_pos c89]; exact ⟨rfl, rfl, _, rfl, (mCore_sA5 _ _).trans (mCore_sI _ 1 _), mRep_push hr _⟩)
              | (rw [if_neg c89]; exact ⟨rfl, rfl, _, rfl, (mCore_sA5 _ _).trans (mCore_sI _ 1 _), mRep_push hr _⟩)
    · refine zj_aload_n 28 rfl rfl rfl ?_
      refine zj_iload_n 29 rfl rfl rfl ?_
      refine zj_csx 30 rfl rfl lk_8_131 ckM_letterOf (k_letterOf _) rfl rfl rfl rfl ?_
      refine zj_lconst 31 (0) rfl rfl (by decide) ?_
      refine zj_cvv 32 rfl rfl lk_8_109 ckM_lay (k_lay _ _ S.1.length hr.1.1 (by omega)) rfl mw_0 rfl rfl rfl ?_
      refine zj_aload_n 33 rfl rfl rfl ?_
      refine zj_iconst 34 (1) rfl rfl (by decide) ?_
      refine zn_put 35 rfl rfl mw_0 rfl rfl rfl rfl mw_p_isBehind ?_
      refine zj_iconst 36 (0) rfl rfl (by decide) ?_
      refine zj_ireturn 37 rfl rfl rfl ?_
      have e : qUnit c k S = (0, (S.1 ++ [(qLet c, 0)], S.2.1, S.2.2.1, S.2.2.2.1, true, S.2.2.2.2.2)) := by
        unfold qUnit
        rw [if_neg (zo_0.mp c11), if_pos c47]
      rw [e]
      exact ⟨rfl, rfl, _, rfl, (mCore_lay _ _ _ _).trans (mCore_sI _ 3 _), mRep_bh (mRep_lay hr _ _) true⟩
  · refine zj_aload_n 6 rfl rfl rfl ?_
    refine zj_bipush 7 (6) rfl rfl (by decide) ?_
    refine zj_iload_n 8 rfl rfl rfl ?_
    refine zj_bipush 9 (48) rfl rfl (by decide) ?_
    refine zj_isub 10 rfl rfl ?_
    refine zj_i2l 11 rfl rfl ?_
    refine zj_cvv 12 rfl rfl lk_8_109 ckM_lay (k_lay _ _ S.1.length hr.1.1 (by omega)) rfl mw_0 rfl rfl rfl ?_
    refine zj_aload_n 13 rfl rfl rfl ?_
    refine zj_iconst 14 (1) rfl rfl (by decide) ?_
    refine zn_put 15 rfl rfl mw_0 rfl rfl rfl rfl mw_p_isBehind ?_
    refine zj_aload_n 16 rfl rfl rfl ?_
    refine zj_iconst 17 (1) rfl rfl (by decide) ?_
    refine zn_put 18 rfl rfl mw_0 rfl rfl rfl rfl mw_p_digits ?_
    refine zj_aload_n 19 rfl rfl rfl ?_
    refine zj_iload_n 20 rfl rfl rfl ?_
    refine zn_put 21 rfl rfl mw_0 rfl rfl rfl rfl mw_p_numberAt ?_
    refine zj_iconst 22 (0) rfl rfl (by decide) ?_
    refine zj_ireturn 23 rfl rfl rfl ?_
    have e : qUnit c k S = (0, (S.1 ++ [(6, (c - 48).toInt64)], S.2.1, S.2.2.1, S.2.2.2.1, true, 1, k)) := by
      unfold qUnit
      rw [if_pos (zo_n0.mp c11)]
    rw [e]
    exact ⟨rfl, rfl, _, rfl, (mCore_lay _ _ _ _).trans ((mCore_sI _ 3 _).trans ((mCore_sI _ 4 _).trans (mCore_sI _ 5 _))), mRep_num (mRep_lay hr 6 _) k⟩
end
