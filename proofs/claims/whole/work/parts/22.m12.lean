/-! the reference's reader -/
def pFirm (c : Int32) : Int32 := if c = 11 then 1 else if c = 12 then 2 else if c < 16 then 3 else if c < 18 then 4 else if c < 20 then 5 else if c < 30 then 6 else 0
def qLet (c : Int32) : Int32 := if c = 97 then 0 else if c = 98 then 1 else if c = 100 then 2 else if c = 109 then 3 else if c = 107 then 4 else if c = 103 then 5 else -1
def qJoint (c : Int32) : Int32 := if c = 124 then 11 else if c = 38 then 12 else if c = 60 then 13 else if c = 62 then 14 else if c = 61 then 15 else if c = 43 then 16 else if c = 45 then 17 else if c = 42 then 18 else if c = 47 then 19 else -1
def qLD (least : Int32) : List Int32 → List (Int32 × Int64) → List Int32 × List (Int32 × Int64)
  | [], cs => ([], cs)
  | w :: ws, cs => if least ≤ pFirm w then qLD least ws (cs ++ [(w, 0)]) else (w :: ws, cs)
theorem qLD_len (least : Int32) : ∀ (ws : List Int32) (cs : List (Int32 × Int64)), (qLD least ws cs).1.length + (qLD least ws cs).2.length = ws.length + cs.length
  | [], cs => rfl
  | w :: ws, cs => by
    simp only [qLD]
    split
    · rw [qLD_len least ws]; simp; omega
    · rfl
def qLDS (least : Int32) (S : zS) : zS := ((qLD least S.2.1 S.1).2, (qLD least S.2.1 S.1).1, S.2.2)
abbrev mLay (M : zMo) (c : Nat) (code : Int32) (v : Int64) : zMo := ((M.sA 4 (va_up (M.1 4) c code)).sB 0 (va_up (M.2.1 0) c v)).sI 0 (nI (c + 1))
theorem mRep_lay {M : zMo} {S : zS} (h : mRep M S) (code : Int32) (v : Int64) : mRep (mLay M S.1.length code v) (S.1 ++ [(code, v)], S.2) := by
  obtain ⟨⟨h1, h2⟩, ⟨h3, h4⟩, ⟨h5, h6⟩, h7, h8, h9⟩ := h
  refine ⟨⟨by simp [va_up], fun i x hx => ?_⟩, ⟨by simpa [va_up] using h3, fun i x hx => by simpa [va_up] using h4 i x hx⟩, ⟨by simpa [va_up] using h5, fun i hi => by simpa [va_up] using h6 i hi⟩, by simpa [va_up] using h7, by simpa [va_up] using h8, fun hd => by simpa [va_up] using h9 hd⟩
  by_cases hi : i < S.1.length
  · rw [List.getElem?_append_left hi] at hx
    have := h2 i x hx
    simpa [va_up, Nat.ne_of_lt hi] using this
  · rw [List.getElem?_append_right (by omega)] at hx
    have hl := (List.getElem?_eq_some_iff.mp hx).1
    simp only [List.length_cons, List.length_nil] at hl
    have e : i = S.1.length := by omega
    subst e
    simp at hx
    subst hx
    simp [va_up]
theorem mCore_lay (M : zMo) (c : Nat) (code : Int32) (v : Int64) : mCore M (mLay M c code v) := by
  refine ⟨?_, ?_, ?_, ?_, ?_, ?_, ?_⟩ <;> simp [va_up]
theorem mRep_pop {M : zMo} {S : zS} (h : mRep M S) {x : Int32} {ws : List Int32} (e : S.2.1 = x :: ws) : mRep (M.sI 1 (nI ws.length)) (S.1, ws, S.2.2) := by
  obtain ⟨⟨h1, h2⟩, ⟨h3, h4⟩, ⟨h5, h6⟩, h7, h8, h9⟩ := h
  refine ⟨⟨by simpa [va_up] using h1, fun i x hx => by simpa [va_up] using h2 i x hx⟩, ⟨by simp [va_up], fun i y hy => ?_⟩, ⟨by simpa [va_up] using h5, fun i hi => by simpa [va_up] using h6 i hi⟩, by simpa [va_up] using h7, by simpa [va_up] using h8, fun hd => by simpa [va_up] using h9 hd⟩
  rw [e] at h4
  refine h4 i y ?_
  rw [List.reverse_cons]
  have hl : i < ws.reverse.length := (List.getElem?_eq_some_iff.mp hy).1
  rw [List.getElem?_append_left hl]
  exact hy
theorem mRep_push {M : zMo} {S : zS} (h : mRep M S) (x : Int32) : mRep ((M.sA 5 (va_up (M.1 5) S.2.1.length x)).sI 1 (nI (S.2.1.length + 1))) (S.1, x :: S.2.1, S.2.2) := by
  obtain ⟨⟨h1, h2⟩, ⟨h3, h4⟩, ⟨h5, h6⟩, h7, h8, h9⟩ := h
  refine ⟨⟨by simpa [va_up] using h1, fun i x hx => by simpa [va_up] using h2 i x hx⟩, ⟨by simp [va_up], fun i y hy => ?_⟩, ⟨by simpa [va_up] using h5, fun i hi => by simpa [va_up] using h6 i hi⟩, by simpa [va_up] using h7, by simpa [va_up] using h8, fun hd => by simpa [va_up] using h9 hd⟩
  rw [List.reverse_cons] at hy
  by_cases hi : i < S.2.1.length
  · rw [List.getElem?_append_left (by rw [List.length_reverse]; exact hi)] at hy
    have := h4 i y hy
    simpa [va_up, Nat.ne_of_lt hi] using this
  · rw [List.getElem?_append_right (by rw [List.length_reverse]; omega)] at hy
    have hl := (List.getElem?_eq_some_iff.mp hy).1
    simp only [List.length_cons, List.length_nil, List.length_reverse] at hl
    have e : i = S.2.1.length := by omega
    subst e
    simp at hy
    subst hy
    simp [va_up]
theorem mCore_sI (M : zMo) (j : Nat) (x : Int32) : mCore M (M.sI j x) := ⟨rfl, rfl, rfl, rfl, rfl, rfl, rfl⟩
theorem mCore_sA5 (M : zMo) (f : Nat → Int32) : mCore M (M.sA 5 f) := by
  refine ⟨?_, ?_, ?_, ?_, ?_, ?_, ?_⟩ <;> simp [va_up]
theorem mTop {M : zMo} {S : zS} (h : mRep M S) {x : Int32} {ws : List Int32} (e : S.2.1 = x :: ws) : M.1 5 ws.length = x := by
  obtain ⟨-, ⟨-, h4⟩, -⟩ := h
  refine h4 ws.length x ?_
  rw [e, List.reverse_cons]
  simp
section
variable {E : zE} {σ : zH} {a : Nat} {M : zMo}
theorem k_firm (c : Int32) : zM E YM_firm 1 [.int c] (σ) (some (.int (pFirm c))) (σ) := by
  refine zM.of oM_firm (by decide +kernel) rfl rfl (fun n => ?_)
  refine zj_iload_n 0 rfl rfl rfl ?_
  refine zj_bipush 1 (11) rfl rfl (by decide) ?_
  refine zj_icmp_ne 2 rfl rfl (fun c3 => ?_) (fun c3 => ?_)
  · refine zj_iload_n 5 rfl rfl rfl ?_
    refine zj_bipush 6 (12) rfl rfl (by decide) ?_
    refine zj_icmp_ne 7 rfl rfl (fun c13 => ?_) (fun c13 => ?_)
    · refine zj_iload_n 10 rfl rfl rfl ?_
      refine zj_bipush 11 (16) rfl rfl (by decide) ?_
      refine zj_icmp_ge 12 rfl rfl (fun c23 => ?_) (fun c23 => ?_)
      · refine zj_iload_n 15 rfl rfl rfl ?_
        refine zj_bipush 16 (18) rfl rfl (by decide) ?_
        refine zj_icmp_ge 17 rfl rfl (fun c33 => ?_) (fun c33 => ?_)
        · refine zj_iload_n 20 rfl rfl rfl ?_
          refine zj_bipush 21 (20) rfl rfl (by decide) ?_
          refine zj_icmp_ge 22 rfl rfl (fun c43 => ?_) (fun c43 => ?_)
          · refine zj_iload_n 25 rfl rfl rfl ?_
            refine zj_bipush 26 (30) rfl rfl (by decide) ?_
            refine zj_icmp_ge 27 rfl rfl (fun c53 => ?_) (fun c53 => ?_)
            · refine zj_iconst 30 (0) rfl rfl (by decide) ?_
              refine zj_ireturn 31 rfl rfl rfl ?_
              refine ⟨zrt ?_, rfl, rfl⟩
              unfold pFirm
              repeat (first | rfl | rw [if_pos (by assumption)] | rw [if_neg (by assumption)] | rw [if_pos (Int32.not_le.mp (by assumption))] | rw [if_neg (Int32.not_lt.mpr (by assumption))])
            · refine zj_bipush 28 (6) rfl rfl (by decide) ?_
              refine zj_goto 29 rfl rfl ?_
              refine zj_ireturn 31 rfl rfl rfl ?_
              refine ⟨zrt ?_, rfl, rfl⟩
              unfold pFirm
              repeat (first | rfl | rw [if_pos (by assumption)] | rw [if_neg (by assumption)] | rw [if_pos (Int32.not_le.mp (by assumption))] | rw [if_neg (Int32.not_lt.mpr (by assumption))])
          · refine zj_iconst 23 (5) rfl rfl (by decide) ?_
            refine zj_goto 24 rfl rfl ?_
            refine zj_ireturn 31 rfl rfl rfl ?_
            refine ⟨zrt ?_, rfl, rfl⟩
            unfold pFirm
            repeat (first | rfl | rw [if_pos (by assumption)] | rw [if_neg (by assumption)] | rw [if_pos (Int32.not_le.mp (by assumption))] | rw [if_neg (Int32.not_lt.mpr (by assumption))])
        · refine zj_iconst 18 (4) rfl rfl (by decide) ?_
          refine zj_goto 19 rfl rfl ?_
          refine zj_ireturn 31 rfl rfl rfl ?_
          refine ⟨zrt ?_, rfl, rfl⟩
          unfold pFirm
          repeat (first | rfl | rw [if_pos (by assumption)] | rw [if_neg (by assumption)] | rw [if_pos (Int32.not_le.mp (by assumption))] | rw [if_neg (Int32.not_lt.mpr (by assumption))])
      · refine zj_iconst 13 (3) rfl rfl (by decide) ?_
        refine zj_goto 14 rfl rfl ?_
        refine zj_ireturn 31 rfl rfl rfl ?_
        refine ⟨zrt ?_, rfl, rfl⟩
        unfold pFirm
        repeat (first | rfl | rw [if_pos (by assumption)] | rw [if_neg (by assumption)] | rw [if_pos (Int32.not_le.mp (by assumption))] | rw [if_neg (Int32.not_lt.mpr (by assumption))])
    · refine zj_iconst 8 (2) rfl rfl (by decide) ?_
      refine zj_goto 9 rfl rfl ?_
      refine zj_ireturn 31 rfl rfl rfl ?_
      refine ⟨zrt ?_, rfl, rfl⟩
      unfold pFirm
      repeat (first | rfl | rw [if_pos (by assumption)] | rw [if_neg (by assumption)] | rw [if_pos (Int32.not_le.mp (by assumption))] | rw [if_neg (Int32.not_lt.mpr (by assumption))])
  · refine zj_iconst 3 (1) rfl rfl (by decide) ?_
    refine zj_goto 4 rfl rfl ?_
    refine zj_ireturn 31 rfl rfl rfl ?_
    refine ⟨zrt ?_, rfl, rfl⟩
    unfold pFirm
    repeat (first | rfl | rw [if_pos (by assumption)] | rw [if_neg (by assumption)] | rw [if_pos (Int32.not_le.mp (by assumption))] | rw [if_neg (Int32.not_lt.mpr (by assumption))])
theorem k_letterOf (c : Int32) : zM E YM_letterOf 1 [.int c] (σ) (some (.int (qLet c))) (σ) := by
  refine zM.of oM_letterOf (by decide +kernel) rfl rfl (fun n => ?_)
  refine zj_iload_n 0 rfl rfl rfl ?_
  refine zj_bipush 1 (97) rfl rfl (by decide) ?_
  refine zj_icmp_ne 2 rfl rfl (fun c3 => ?_) (fun c3 => ?_)
  · refine zj_iload_n 5 rfl rfl rfl ?_
    refine zj_bipush 6 (98) rfl rfl (by decide) ?_
    refine zj_icmp_ne 7 rfl rfl (fun c13 => ?_) (fun c13 => ?_)
    · refine zj_iload_n 10 rfl rfl rfl ?_
      refine zj_bipush 11 (100) rfl rfl (by decide) ?_
      refine zj_icmp_ne 12 rfl rfl (fun c23 => ?_) (fun c23 => ?_)
      · refine zj_iload_n 15 rfl rfl rfl ?_
        refine zj_bipush 16 (109) rfl rfl (by decide) ?_
        refine zj_icmp_ne 17 rfl rfl (fun c33 => ?_) (fun c33 => ?_)
        · refine zj_iload_n 20 rfl rfl rfl ?_
          refine zj_bipush 21 (107) rfl rfl (by decide) ?_
          refine zj_icmp_ne 22 rfl rfl (fun c43 => ?_) (fun c43 => ?_)
          · refine zj_iload_n 25 rfl rfl rfl ?_
            refine zj_bipush 26 (103) rfl rfl (by decide) ?_
            refine zj_icmp_ne 27 rfl rfl (fun c53 => ?_) (fun c53 => ?_)
            · refine zj_iconst 30 (-1) rfl rfl (by decide) ?_
              refine zj_ireturn 31 rfl rfl rfl ?_
              refine ⟨zrt ?_, rfl, rfl⟩
              unfold qLet
              repeat (first | rfl | rw [if_pos (by assumption)] | rw [if_neg (by assumption)] | rw [if_pos (Int32.not_le.mp (by assumption))] | rw [if_neg (Int32.not_lt.mpr (by assumption))])
            · refine zj_iconst 28 (5) rfl rfl (by decide) ?_
              refine zj_goto 29 rfl rfl ?_
              refine zj_ireturn 31 rfl rfl rfl ?_
              refine ⟨zrt ?_, rfl, rfl⟩
              unfold qLet
              repeat (first | rfl | rw [if_pos (by assumption)] | rw [if_neg (by assumption)] | rw [if_pos (Int32.not_le.mp (by assumption))] | rw [if_neg (Int32.not_lt.mpr (by assumption))])
          · refine zj_iconst 23 (4) rfl rfl (by decide) ?_
            refine zj_goto 24 rfl rfl ?_
            refine zj_ireturn 31 rfl rfl rfl ?_
            refine ⟨zrt ?_, rfl, rfl⟩
            unfold qLet
            repeat (first | rfl | rw [if_pos (by assumption)] | rw [if_neg (by assumption)] | rw [if_pos (Int32.not_le.mp (by assumption))] | rw [if_neg (Int32.not_lt.mpr (by assumption))])
        · refine zj_iconst 18 (3) rfl rfl (by decide) ?_
          refine zj_goto 19 rfl rfl ?_
          refine zj_ireturn 31 rfl rfl rfl ?_
          refine ⟨zrt ?_, rfl, rfl⟩
          unfold qLet
          repeat (first | rfl | rw [if_pos (by assumption)] | rw [if_neg (by assumption)] | rw [if_pos (Int32.not_le.mp (by assumption))] | rw [if_neg (Int32.not_lt.mpr (by assumption))])
      · refine zj_iconst 13 (2) rfl rfl (by decide) ?_
        refine zj_goto 14 rfl rfl ?_
        refine zj_ireturn 31 rfl rfl rfl ?_
        refine ⟨zrt ?_, rfl, rfl⟩
        unfold qLet
        repeat (first | rfl | rw [if_pos (by assumption)] | rw [if_neg (by assumption)] | rw [if_pos (Int32.not_le.mp (by assumption))] | rw [if_neg (Int32.not_lt.mpr (by assumption))])
    · refine zj_iconst 8 (1) rfl rfl (by decide) ?_
      refine zj_goto 9 rfl rfl ?_
      refine zj_ireturn 31 rfl rfl rfl ?_
      refine ⟨zrt ?_, rfl, rfl⟩
      unfold qLet
      repeat (first | rfl | rw [if_pos (by assumption)] | rw [if_neg (by assumption)] | rw [if_pos (Int32.not_le.mp (by assumption))] | rw [if_neg (Int32.not_lt.mpr (by assumption))])
  · refine zj_iconst 3 (0) rfl rfl (by decide) ?_
    refine zj_goto 4 rfl rfl ?_
    refine zj_ireturn 31 rfl rfl rfl ?_
    refine ⟨zrt ?_, rfl, rfl⟩
    unfold qLet
    repeat (first | rfl | rw [if_pos (by assumption)] | rw [if_neg (by assumption)] | rw [if_pos (Int32.not_le.mp (by assumption))] | rw [if_neg (Int32.not_lt.mpr (by assumption))])
theorem k_joint (c : Int32) : zM E YM_joint 1 [.int c] (σ) (some (.int (qJoint c))) (σ) := by
  refine zM.of oM_joint (by decide +kernel) rfl rfl (fun n => ?_)
  refine zj_iload_n 0 rfl rfl rfl ?_
  refine zj_bipush 1 (124) rfl rfl (by decide) ?_
  refine zj_icmp_ne 2 rfl rfl (fun c3 => ?_) (fun c3 => ?_)
  · refine zj_iload_n 5 rfl rfl rfl ?_
    refine zj_bipush 6 (38) rfl rfl (by decide) ?_
    refine zj_icmp_ne 7 rfl rfl (fun c14 => ?_) (fun c14 => ?_)
    · refine zj_iload_n 10 rfl rfl rfl ?_
      refine zj_bipush 11 (60) rfl rfl (by decide) ?_
      refine zj_icmp_ne 12 rfl rfl (fun c25 => ?_) (fun c25 => ?_)
      · refine zj_iload_n 15 rfl rfl rfl ?_
        refine zj_bipush 16 (62) rfl rfl (by decide) ?_
        refine zj_icmp_ne 17 rfl rfl (fun c36 => ?_) (fun c36 => ?_)
        · refine zj_iload_n 20 rfl rfl rfl ?_
          refine zj_bipush 21 (61) rfl rfl (by decide) ?_
          refine zj_icmp_ne 22 rfl rfl (fun c47 => ?_) (fun c47 => ?_)
          · refine zj_iload_n 25 rfl rfl rfl ?_
            refine zj_bipush 26 (43) rfl rfl (by decide) ?_
            refine zj_icmp_ne 27 rfl rfl (fun c58 => ?_) (fun c58 => ?_)
            · refine zj_iload_n 30 rfl rfl rfl ?_
              refine zj_bipush 31 (45) rfl rfl (by decide) ?_
              refine zj_icmp_ne 32 rfl rfl (fun c69 => ?_) (fun c69 => ?_)
              · refine zj_iload_n 35 rfl rfl rfl ?_
                refine zj_bipush 36 (42) rfl rfl (by decide) ?_
                refine zj_icmp_ne 37 rfl rfl (fun c80 => ?_) (fun c80 => ?_)
                · refine zj_iload_n 40 rfl rfl rfl ?_
                  refine zj_bipush 41 (47) rfl rfl (by decide) ?_
                  refine zj_icmp_ne 42 rfl rfl (fun c91 => ?_) (fun c91 => ?_)
                  · refine zj_iconst 45 (-1) rfl rfl (by decide) ?_
                    refine zj_ireturn 46 rfl rfl rfl ?_
                    refine ⟨zrt ?_, rfl, rfl⟩
                    unfold qJoint
                    repeat (first | rfl | rw [if_pos (by assumption)] | rw [if_neg (by assumption)] | rw [if_pos (Int32.not_le.mp (by assumption))] | rw [if_neg (Int32.not_lt.mpr (by assumption))])
                  · refine zj_bipush 43 (19) rfl rfl (by decide) ?_
                    refine zj_goto 44 rfl rfl ?_
                    refine zj_ireturn 46 rfl rfl rfl ?_
                    refine ⟨zrt ?_, rfl, rfl⟩
                    unfold qJoint
                    repeat (first | rfl | rw [if_pos (by assumption)] | rw [if_neg (by assumption)] | rw [if_pos (Int32.not_le.mp (by assumption))] | rw [if_neg (Int32.not_lt.mpr (by assumption))])
                · refine zj_bipush 38 (18) rfl rfl (by decide) ?_
                  refine zj_goto 39 rfl rfl ?_
                  refine zj_ireturn 46 rfl rfl rfl ?_
                  refine ⟨zrt ?_, rfl, rfl⟩
                  unfold qJoint
                  repeat (first | rfl | rw [if_pos (by assumption)] | rw [if_neg (by assumption)] | rw [if_pos (Int32.not_le.mp (by assumption))] | rw [if_neg (Int32.not_lt.mpr (by assumption))])
              · refine zj_bipush 33 (17) rfl rfl (by decide) ?_
                refine zj_goto 34 rfl rfl ?_
                refine zj_ireturn 46 rfl rfl rfl ?_
                refine ⟨zrt ?_, rfl, rfl⟩
                unfold qJoint
                repeat (first | rfl | rw [if_pos (by assumption)] | rw [if_neg (by assumption)] | rw [if_pos (Int32.not_le.mp (by assumption))] | rw [if_neg (Int32.not_lt.mpr (by assumption))])
            · refine zj_bipush 28 (16) rfl rfl (by decide) ?_
              refine zj_goto 29 rfl rfl ?_
              refine zj_ireturn 46 rfl rfl rfl ?_
              refine ⟨zrt ?_, rfl, rfl⟩
              unfold qJoint
              repeat (first | rfl | rw [if_pos (by assumption)] | rw [if_neg (by assumption)] | rw [if_pos (Int32.not_le.mp (by assumption))] | rw [if_neg (Int32.not_lt.mpr (by assumption))])
          · refine zj_bipush 23 (15) rfl rfl (by decide) ?_
            refine zj_goto 24 rfl rfl ?_
            refine zj_ireturn 46 rfl rfl rfl ?_
            refine ⟨zrt ?_, rfl, rfl⟩
            unfold qJoint
            repeat (first | rfl | rw [if_pos (by assumption)] | rw [if_neg (by assumption)] | rw [if_pos (Int32.not_le.mp (by assumption))] | rw [if_neg (Int32.not_lt.mpr (by assumption))])
        · refine zj_bipush 18 (14) rfl rfl (by decide) ?_
          refine zj_goto 19 rfl rfl ?_
          refine zj_ireturn 46 rfl rfl rfl ?_
          refine ⟨zrt ?_, rfl, rfl⟩
          unfold qJoint
          repeat (first | rfl | rw [if_pos (by assumption)] | rw [if_neg (by assumption)] | rw [if_pos (Int32.not_le.mp (by assumption))] | rw [if_neg (Int32.not_lt.mpr (by assumption))])
      · refine zj_bipush 13 (13) rfl rfl (by decide) ?_
        refine zj_goto 14 rfl rfl ?_
        refine zj_ireturn 46 rfl rfl rfl ?_
        refine ⟨zrt ?_, rfl, rfl⟩
        unfold qJoint
        repeat (first | rfl | rw [if_pos (by assumption)] | rw [if_neg (by assumption)] | rw [if_pos (Int32.not_le.mp (by assumption))] | rw [if_neg (Int32.not_lt.mpr (by assumption))])
    · refine zj_bipush 8 (12) rfl rfl (by decide) ?_
      refine zj_goto 9 rfl rfl ?_
      refine zj_ireturn 46 rfl rfl rfl ?_
      refine ⟨zrt ?_, rfl, rfl⟩
      unfold qJoint
      repeat (first | rfl | rw [if_pos (by assumption)] | rw [if_neg (by assumption)] | rw [if_pos (Int32.not_le.mp (by assumption))] | rw [if_neg (Int32.not_lt.mpr (by assumption))])
  · refine zj_bipush 3 (11) rfl rfl (by decide) ?_
    refine zj_goto 4 rfl rfl ?_
    refine zj_ireturn 46 rfl rfl rfl ?_
    refine ⟨zrt ?_, rfl, rfl⟩
    unfold qJoint
    repeat (first | rfl | rw [if_pos (by assumption)] | rw [if_neg (by assumption)] | rw [if_pos (Int32.not_le.mp (by assumption))] | rw [if_neg (Int32.not_lt.mpr (by assumption))])
theorem k_lay (code : Int32) (v : Int64) (c : Nat) (hc : M.2.2.1 0 = nI c) (hb : c < 40) : zM E YM_lay 1 [.ref a, .int code, .long v] (mw σ a M) (none) (mw σ a (mLay M c code v)) := by
  refine zM.of oM_lay (by decide +kernel) rfl rfl (fun n => ?_)
  refine zj_aload_n 0 rfl rfl rfl ?_
  refine zj_get 1 rfl rfl mw_0 rfl ?_
  refine zj_aload_n 2 rfl rfl rfl ?_
  refine zj_get 3 rfl rfl mw_0 rfl ?_
  refine zj_iload_n 4 rfl rfl rfl ?_
  refine zn_iast 5 (c) rfl rfl mw_5 hc (by omega) (by decide) mw_u5 ?_
  refine zj_aload_n 6 rfl rfl rfl ?_
  refine zj_get 7 rfl rfl mw_0 rfl ?_
  refine zj_aload_n 8 rfl rfl rfl ?_
  refine zj_get 9 rfl rfl mw_0 rfl ?_
  refine zj_lload_n 10 rfl rfl rfl ?_
  refine zn_last 11 (c) rfl rfl mw_6 hc (by omega) (by decide) mw_u6 ?_
  refine zj_aload_n 12 rfl rfl rfl ?_
  refine zj_dup 13 rfl rfl rfl ?_
  refine zj_get 14 rfl rfl mw_0 rfl ?_
  refine zj_iconst 15 (1) rfl rfl (by decide) ?_
  refine zn_iadd 16 (c) (1) rfl rfl hc rfl ?_
  refine zn_put 17 rfl rfl mw_0 rfl rfl rfl rfl mw_p_codeMany ?_
  refine zj_return 18 rfl rfl rfl ?_
  exact ⟨rfl, rfl, rfl⟩
theorem zXB_mono {Y : zY} {d n : Nat} {r : Option Value} {P Q : zH → Prop} {s : zH} {pc : Nat} {L : List (Option Value)} {st : List Value} (hPQ : ∀ s, P s → Q s) (h : zXB E Y d n r P s pc L st) : zXB E Y d n r Q s pc L st := by
  intro p e s0 m args below meth c H locs ls C hR hf hl T hT X
  obtain ⟨t, a1, o, b1, b2, ⟨r', n', s', e1, ⟨e2, e3, e4⟩, e5⟩, e6⟩ := h p e s0 m args below meth c H locs ls C hR hf hl T hT X
  exact ⟨t, a1, o, b1, b2, ⟨r', n', s', e1, ⟨e2, e3, hPQ _ e4⟩, e5⟩, e6⟩
theorem mP_core {M M1 : zMo} {S : zS} (h : mCore M M1) (s : zH) (g : mP σ a M1 S s) : mP σ a M S s := by
  obtain ⟨M', e, h1, h2⟩ := g
  exact ⟨M', e, h.trans h1, h2⟩
theorem zXB_core {Y : zY} {d n : Nat} {r : Option Value} {S : zS} {M M1 : zMo} {s : zH} {pc : Nat} {L : List (Option Value)} {st : List Value} (hc : mCore M M1) (h : zXB E Y d n r (mP σ a M1 S) s pc L st) : zXB E Y d n r (mP σ a M S) s pc L st := zXB_mono (mP_core hc) h
theorem l_layDown (least : Int32) : ∀ (m : Nat) (M : zMo) (S : zS), (S.2.1.length ≤ m) → (mRep M S) → (S.1.length + S.2.1.length ≤ 40) → ∀ n, zXB E YM_layDown 2 n (none) (mP σ a M (qLDS least S)) (mw σ a M) 0 [some (.ref a), some (.int least)] [] := by
  intro m
  induction m using Nat.strongRecOn with
  | ind m ih =>
  intro M S hm hr hb n
  refine zj_aload_n 0 rfl rfl rfl ?_
  refine zj_get 1 rfl rfl mw_0 rfl ?_
  refine zj_if_le 2 rfl rfl (fun c4 => ?_) (fun c4 => ?_)
  · refine zj_return 28 rfl rfl rfl ?_
    have e : qLDS least S = S := by
      unfold qLDS
      first
        | (have e0 : S.2.1 = [] := by
             cases hS : S.2.1 with
             | nil => rfl
             | cons x ws =>
               have h3 := hr.2.1.1
               rw [hS] at h3
               exact absurd (show M.2.2.1 1 ≤ 0 from c4) (by rw [h3]; exact nI_nle (by simp) (by rw [hS] at hb; simp at hb ⊢; omega))
           rw [e0]; simp only [qLD]; rw [← e0])
        | (rw [hws]; simp only [qLD]; rw [if_neg (Int32.not_le.mpr c22)]; rw [← hws])
    exact ⟨rfl, rfl, M, rfl, mCore.rfl, by rw [e]; exact hr⟩
  · obtain ⟨x, ws, hws⟩ : ∃ x ws, S.2.1 = x :: ws := by
      cases hS : S.2.1 with
      | nil =>
        have h3 := hr.2.1.1
        rw [hS] at h3
        exact absurd (show M.2.2.1 1 ≤ 0 by rw [h3]; decide) c4
      | cons x ws => exact ⟨x, ws, rfl⟩
    have hwl : S.2.1.length = ws.length + 1 := by rw [hws]; rfl
    have hwt : M.2.2.1 1 = nI (ws.length + 1) := by rw [hr.2.1.1, hwl]
    have htop := mTop hr hws
    refine zj_aload_n 3 rfl rfl rfl ?_
    refine zj_get 4 rfl rfl mw_0 rfl ?_
    refine zj_aload_n 5 rfl rfl rfl ?_
    refine zj_get 6 rfl rfl mw_0 rfl ?_
    refine zj_iconst 7 (1) rfl rfl (by decide) ?_
    refine zn_isub 8 (ws.length + 1) (1) rfl rfl hwt rfl (by omega) ?_
    refine zn_iald 9 ((ws.length + 1) - (1)) rfl rfl mw_7 rfl (by omega) (by decide) ?_
    rw [Nat.add_sub_cancel, htop]
    refine zj_csx 10 rfl rfl lk_8_106 ckM_firm (k_firm _) rfl rfl rfl rfl ?_
    refine zj_iload_n 11 rfl rfl rfl ?_
    refine zj_icmp_lt 12 rfl rfl (fun c22 => ?_) (fun c22 => ?_)
    · refine zj_return 28 rfl rfl rfl ?_
      have e : qLDS least S = S := by
        unfold qLDS
        first
          | (have e0 : S.2.1 = [] := by
               cases hS : S.2.1 with
               | nil => rfl
               | cons x ws =>
                 have h3 := hr.2.1.1
                 rw [hS] at h3
                 exact absurd (show M.2.2.1 1 ≤ 0 from c4) (by rw [h3]; exact nI_nle (by simp) (by rw [hS] at hb; simp at hb ⊢; omega))
             rw [e0]; simp only [qLD]; rw [← e0])
          | (rw [hws]; simp only [qLD]; rw [if_neg (Int32.not_le.mpr c22)]; rw [← hws])
      exact ⟨rfl, rfl, M, rfl, mCore.rfl, by rw [e]; exact hr⟩
    · have c22' : least ≤ pFirm x := Int32.not_lt.mp c22
      refine zj_aload_n 13 rfl rfl rfl ?_
      refine zj_dup 14 rfl rfl rfl ?_
      refine zj_get 15 rfl rfl mw_0 rfl ?_
      refine zj_iconst 16 (1) rfl rfl (by decide) ?_
      refine zn_isub 17 (ws.length + 1) (1) rfl rfl hwt rfl (by omega) ?_
      refine zn_put 18 rfl rfl mw_0 rfl rfl rfl rfl mw_p_waiting ?_
      refine zj_aload_n 19 rfl rfl rfl ?_
      refine zj_aload_n 20 rfl rfl rfl ?_
      refine zj_get 21 rfl rfl mw_0 rfl ?_
      refine zj_aload_n 22 rfl rfl rfl ?_
      refine zj_get 23 rfl rfl mw_0 rfl ?_
      refine zn_iald 24 (ws.length) rfl rfl mw_7 rfl (by omega) (by decide) ?_
      refine zj_lconst 25 (0) rfl rfl (by decide) ?_
      refine zj_cvv 26 rfl rfl lk_8_109 ckM_lay (k_lay _ _ S.1.length hr.1.1 (by omega)) rfl mw_0 rfl rfl rfl ?_
      refine zj_goto 27 rfl rfl ?_
      have hh := ih ws.length (by omega) (mLay (M.sI 1 (nI ws.length)) S.1.length x 0) (S.1 ++ [(x, 0)], ws, S.2.2) (Nat.le_refl _) (mRep_lay (mRep_pop hr hws) x 0) (by simp; omega) n
      have e : mP σ a M (qLDS least S) = mP σ a M (qLDS least (S.1 ++ [(x, 0)], ws, S.2.2)) := by
        have e1 : qLD least S.2.1 S.1 = qLD least ws (S.1 ++ [(x, 0)]) := by rw [hws]; simp only [qLD]; rw [if_pos c22']
        unfold qLDS; rw [e1]
      rw [e, show (M.sI 1 (nI (ws.length + 1 - 1))).1 5 ws.length = x from htop, Nat.add_sub_cancel]
      exact zXB_core (mCore.trans (mCore_sI M 1 _) (mCore_lay _ _ _ _)) hh
theorem k_layDown (least : Int32) (S : zS) (hr : mRep M S) (hb : S.1.length + S.2.1.length ≤ 40) : zX E YM_layDown 2 [.ref a, .int least] (mw σ a M) (none) (mP σ a M (qLDS least S)) := by
  refine zX.of oM_layDown (by decide +kernel) rfl rfl (fun n => ?_)
  exact l_layDown least S.2.1.length M S (Nat.le_refl _) hr hb n
def qJoin (code : Int32) (S : zS) : zS := ((qLDS (pFirm code) S).1, code :: (qLDS (pFirm code) S).2.1, S.2.2.1, S.2.2.2.1, false, S.2.2.2.2.2)
theorem mRep_bh {M : zMo} {S : zS} (h : mRep M S) (b : Bool) : mRep (M.sI 3 (zob b)) (S.1, S.2.1, S.2.2.1, S.2.2.2.1, b, S.2.2.2.2.2) := by
  obtain ⟨⟨h1, h2⟩, ⟨h3, h4⟩, ⟨h5, h6⟩, h7, h8, h9⟩ := h
  exact ⟨⟨by simpa [va_up] using h1, h2⟩, ⟨by simpa [va_up] using h3, h4⟩, ⟨by simpa [va_up] using h5, h6⟩, by simp [va_up], by simpa [va_up] using h8, fun hd => by simpa [va_up] using h9 hd⟩
theorem mRep_dg {M : zMo} {S : zS} (h : mRep M S) : mRep (M.sI 4 0) (S.1, S.2.1, S.2.2.1, S.2.2.2.1, S.2.2.2.2.1, 0, S.2.2.2.2.2.2) := by
  obtain ⟨⟨h1, h2⟩, ⟨h3, h4⟩, ⟨h5, h6⟩, h7, h8, h9⟩ := h
  exact ⟨⟨by simpa [va_up] using h1, h2⟩, ⟨by simpa [va_up] using h3, h4⟩, ⟨by simpa [va_up] using h5, h6⟩, by simpa [va_up] using h7, by simp [va_up]; rfl, fun hd => by simp at hd⟩
theorem mRep_num {M : zMo} {S : zS} (h : mRep M S) (k : Nat) : mRep (((M.sI 3 1).sI 4 1).sI 5 (nI k)) (S.1, S.2.1, S.2.2.1, S.2.2.2.1, true, 1, k) := by
  obtain ⟨⟨h1, h2⟩, ⟨h3, h4⟩, ⟨h5, h6⟩, h7, h8, h9⟩ := h
  exact ⟨⟨by simpa [va_up] using h1, h2⟩, ⟨by simpa [va_up] using h3, h4⟩, ⟨by simpa [va_up] using h5, h6⟩, by simp [va_up, zob], by simp [va_up]; rfl, fun hd => by simp [va_up]⟩
theorem k_join (code : Int32) (S : zS) (hr : mRep M S) (hb : S.1.length + S.2.1.length ≤ 39) : zX E YM_join 3 [.ref a, .int code] (mw σ a M) (none) (mP σ a M (qJoin code S)) := by
  refine zX.of oM_join (by decide +kernel) rfl rfl (fun n => ?_)
  refine zj_aload_n 0 rfl rfl rfl ?_
  refine zj_iload_n 1 rfl rfl rfl ?_
  refine zj_csx 2 rfl rfl lk_8_106 ckM_firm (k_firm _) rfl rfl rfl rfl ?_
  refine zj_cvvX 3 rfl rfl lk_8_113 ckM_layDown (k_layDown _ S hr (by omega)) rfl mw_0 rfl rfl rfl (fun s1 hP1 => ?_)
  obtain ⟨M1, rfl, hc1, hr1⟩ := hP1
  have hl1 := qLD_len (pFirm code) S.2.1 S.1
  have hw1 : M1.2.2.1 1 = nI (qLDS (pFirm code) S).2.1.length := hr1.2.1.1
  have hl2 : (qLDS (pFirm code) S).2.1.length + (qLDS (pFirm code) S).1.length = S.2.1.length + S.1.length := hl1
  refine zj_aload_n 4 rfl rfl rfl ?_
  refine zj_get 5 rfl rfl mw_0 rfl ?_
  refine zj_aload_n 6 rfl rfl rfl ?_
  refine zj_get 7 rfl rfl mw_0 rfl ?_
  refine zj_iload_n 8 rfl rfl rfl ?_
  refine zn_iast 9 ((qLDS (pFirm code) S).2.1.length) rfl rfl mw_7 hw1 (by omega) (by decide) mw_u7 ?_
  refine zj_aload_n 10 rfl rfl rfl ?_
  refine zj_dup 11 rfl rfl rfl ?_
  refine zj_get 12 rfl rfl mw_0 rfl ?_
  refine zj_iconst 13 (1) rfl rfl (by decide) ?_
  refine zn_iadd 14 ((qLDS (pFirm code) S).2.1.length) (1) rfl rfl hw1 rfl ?_
  refine zn_put 15 rfl rfl mw_0 rfl rfl rfl rfl mw_p_waiting ?_
  refine zj_aload_n 16 rfl rfl rfl ?_
  refine zj_iconst 17 (0) rfl rfl (by decide) ?_
  refine zn_put 18 rfl rfl mw_0 rfl rfl rfl rfl mw_p_isBehind ?_
  refine zj_return 19 rfl rfl rfl ?_
  exact ⟨rfl, rfl, _, rfl, hc1.trans ((mCore_sA5 M1 _).trans ((mCore_sI _ 1 _).trans (mCore_sI _ 3 _))), mRep_bh (mRep_push hr1 code) false⟩
end
