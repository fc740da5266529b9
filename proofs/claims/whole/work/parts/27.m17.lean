/-! the reference: a law's value -/
def pWk (c : Nat) (x y : Int64) : Int64 :=
  if c = 11 then (if x ≠ 0 ∨ y ≠ 0 then 1 else 0) else if c = 12 then (if x ≠ 0 ∧ y ≠ 0 then 1 else 0) else if c = 13 then (if x < y then 1 else 0) else if c = 14 then (if y < x then 1 else 0) else if c = 15 then (if x = y then 1 else 0)
  else if c = 16 then x + y else if c = 17 then x - y else if c = 18 then x * y else (if y = 0 then 0 else x / y)
def evC (lt : Nat → Int64) : List (Int32 × Int64) → List Int64 → Option (List Int64)
  | [], st => some st
  | (c, v) :: cs, st =>
    if c < 7 then evC lt cs ((if c < 6 then lt c.toNatClampNeg else v) :: st)
    else if 20 ≤ c then (match st with
      | x :: st' => evC lt cs ((if c = 21 then -x else if x = 0 then 1 else 0) :: st')
      | [] => none)
    else (match st with
      | y :: x :: st' => evC lt cs (pWk c.toNatClampNeg x y :: st')
      | _ => none)
/-- the codes that a reader lays -/
def qCode (c : Int32) : Prop := ∃ j : Nat, c = nI j ∧ (j ≤ 6 ∨ (11 ≤ j ∧ j ≤ 21))
def mStk (M : zMo) (st : List Int64) : Prop := ∀ i x, st.reverse[i]? = some x → M.2.1 2 i = x
theorem mStk_push {M : zMo} {st : List Int64} (h : mStk M st) (v : Int64) : mStk (M.sB 2 (va_up (M.2.1 2) st.length v)) (v :: st) := by
  intro i y hy
  rw [List.reverse_cons] at hy
  by_cases hi : i < st.length
  · rw [List.getElem?_append_left (by rw [List.length_reverse]; exact hi)] at hy
    have := h i y hy
    simpa [va_up, Nat.ne_of_lt hi] using this
  · rw [List.getElem?_append_right (by rw [List.length_reverse]; omega)] at hy
    have hl := (List.getElem?_eq_some_iff.mp hy).1
    simp only [List.length_cons, List.length_nil, List.length_reverse] at hl
    have e : i = st.length := by omega
    subst e
    simp at hy
    subst hy
    simp [va_up]
theorem mStk_tail {M : zMo} {x : Int64} {st : List Int64} (h : mStk M (x :: st)) : mStk M st := by
  intro i y hy
  refine h i y ?_
  rw [List.reverse_cons]
  have hl : i < st.reverse.length := (List.getElem?_eq_some_iff.mp hy).1
  rw [List.getElem?_append_left hl]
  exact hy
theorem mStk_top {M : zMo} {x : Int64} {st : List Int64} (h : mStk M (x :: st)) : M.2.1 2 st.length = x := by
  refine h st.length x ?_
  rw [List.reverse_cons]; simp
theorem sB_sB (M : zMo) (j : Nat) (f g : Nat → Int64) : (M.sB j f).sB j g = M.sB j g := by
  unfold zMo.sB; rw [va_up_up]
theorem sB_id (M : zMo) (j : Nat) : M.sB j (M.2.1 j) = M := by
  unfold zMo.sB; rw [zva_id]
section
variable {E : zE} {σ : zH} {a : Nat} {M : zMo}
theorem k_worked11 (x y : Int64) : zM E YM_worked 1 [.int (nI 11), .long x, .long y] (σ) (some (.long (pWk 11 x y))) (σ) := by
  refine zM.of oM_worked (by decide +kernel) rfl rfl (fun n => ?_)
  refine zj_iload_n 0 rfl rfl rfl ?_
  refine zj_tsw (t := 48) 1 rfl rfl (by decide +kernel) (by decide +kernel) ?_
  refine zj_lload_n 2 rfl rfl rfl ?_
  refine zj_lconst 3 (0) rfl rfl (by decide) ?_
  refine zj_lcmp 4 rfl rfl ?_
  refine zj_if_ne 5 rfl rfl (fun c51 => ?_) (fun c51 => ?_)
  · refine zj_lconst 10 (1) rfl rfl (by decide) ?_
    refine zj_goto 11 rfl rfl ?_
    refine zj_lreturn 13 rfl rfl rfl ?_
    refine ⟨zrl ?_, rfl, rfl⟩
    show _ = (if x ≠ 0 ∨ y ≠ 0 then (1 : Int64) else 0)
    rw [if_pos (Or.inl (fun e => c51 ((lg_cmp_eq _ _).mpr e)))]
  · refine zj_lload_n 6 rfl rfl rfl ?_
    refine zj_lconst 7 (0) rfl rfl (by decide) ?_
    refine zj_lcmp 8 rfl rfl ?_
    refine zj_if_eq 9 rfl rfl (fun c57 => ?_) (fun c57 => ?_)
    · refine zj_lconst 12 (0) rfl rfl (by decide) ?_
      refine zj_lreturn 13 rfl rfl rfl ?_
      refine ⟨zrl ?_, rfl, rfl⟩
      show _ = (if x ≠ 0 ∨ y ≠ 0 then (1 : Int64) else 0)
      rw [if_neg (fun g => g.elim (fun z => z ((lg_cmp_eq _ _).mp (Decidable.of_not_not (by simpa using c51)))) (fun z => z ((lg_cmp_eq _ _).mp c57)))]
    · refine zj_lconst 10 (1) rfl rfl (by decide) ?_
      refine zj_goto 11 rfl rfl ?_
      refine zj_lreturn 13 rfl rfl rfl ?_
      refine ⟨zrl ?_, rfl, rfl⟩
      show _ = (if x ≠ 0 ∨ y ≠ 0 then (1 : Int64) else 0)
      rw [if_pos (Or.inr (fun e => c57 ((lg_cmp_eq _ _).mpr e)))]
theorem k_worked12 (x y : Int64) : zM E YM_worked 1 [.int (nI 12), .long x, .long y] (σ) (some (.long (pWk 12 x y))) (σ) := by
  refine zM.of oM_worked (by decide +kernel) rfl rfl (fun n => ?_)
  refine zj_iload_n 0 rfl rfl rfl ?_
  refine zj_tsw (t := 66) 1 rfl rfl (by decide +kernel) (by decide +kernel) ?_
  refine zj_lload_n 14 rfl rfl rfl ?_
  refine zj_lconst 15 (0) rfl rfl (by decide) ?_
  refine zj_lcmp 16 rfl rfl ?_
  refine zj_if_eq 17 rfl rfl (fun c69 => ?_) (fun c69 => ?_)
  · refine zj_lconst 24 (0) rfl rfl (by decide) ?_
    refine zj_lreturn 25 rfl rfl rfl ?_
    refine ⟨zrl ?_, rfl, rfl⟩
    show _ = (if x ≠ 0 ∧ y ≠ 0 then (1 : Int64) else 0)
    rw [if_neg (fun g => g.1 ((lg_cmp_eq _ _).mp c69))]
  · refine zj_lload_n 18 rfl rfl rfl ?_
    refine zj_lconst 19 (0) rfl rfl (by decide) ?_
    refine zj_lcmp 20 rfl rfl ?_
    refine zj_if_eq 21 rfl rfl (fun c75 => ?_) (fun c75 => ?_)
    · refine zj_lconst 24 (0) rfl rfl (by decide) ?_
      refine zj_lreturn 25 rfl rfl rfl ?_
      refine ⟨zrl ?_, rfl, rfl⟩
      show _ = (if x ≠ 0 ∧ y ≠ 0 then (1 : Int64) else 0)
      rw [if_neg (fun g => g.2 ((lg_cmp_eq _ _).mp c75))]
    · refine zj_lconst 22 (1) rfl rfl (by decide) ?_
      refine zj_goto 23 rfl rfl ?_
      refine zj_lreturn 25 rfl rfl rfl ?_
      refine ⟨zrl ?_, rfl, rfl⟩
      show _ = (if x ≠ 0 ∧ y ≠ 0 then (1 : Int64) else 0)
      rw [if_pos ⟨fun e => c69 ((lg_cmp_eq _ _).mpr e), fun e => c75 ((lg_cmp_eq _ _).mpr e)⟩]
theorem k_worked13 (x y : Int64) : zM E YM_worked 1 [.int (nI 13), .long x, .long y] (σ) (some (.long (pWk 13 x y))) (σ) := by
  refine zM.of oM_worked (by decide +kernel) rfl rfl (fun n => ?_)
  refine zj_iload_n 0 rfl rfl rfl ?_
  refine zj_tsw (t := 84) 1 rfl rfl (by decide +kernel) (by decide +kernel) ?_
  refine zj_lload_n 26 rfl rfl rfl ?_
  refine zj_lload_n 27 rfl rfl rfl ?_
  refine zj_lcmp 28 rfl rfl ?_
  refine zj_if_ge 29 rfl rfl (fun c87 => ?_) (fun c87 => ?_)
  · refine zj_lconst 32 (0) rfl rfl (by decide) ?_
    refine zj_lreturn 33 rfl rfl rfl ?_
    refine ⟨zrl ?_, rfl, rfl⟩
    show _ = (if x < y then (1 : Int64) else 0)
    rw [if_neg (Int64.not_lt.mpr ((lg_cmp_ge _ _).mp c87))]
  · refine zj_lconst 30 (1) rfl rfl (by decide) ?_
    refine zj_goto 31 rfl rfl ?_
    refine zj_lreturn 33 rfl rfl rfl ?_
    refine ⟨zrl ?_, rfl, rfl⟩
    show _ = (if x < y then (1 : Int64) else 0)
    rw [if_pos (Int64.not_le.mp (fun g => c87 ((lg_cmp_ge _ _).mpr g)))]
theorem k_worked14 (x y : Int64) : zM E YM_worked 1 [.int (nI 14), .long x, .long y] (σ) (some (.long (pWk 14 x y))) (σ) := by
  refine zM.of oM_worked (by decide +kernel) rfl rfl (fun n => ?_)
  refine zj_iload_n 0 rfl rfl rfl ?_
  refine zj_tsw (t := 96) 1 rfl rfl (by decide +kernel) (by decide +kernel) ?_
  refine zj_lload_n 34 rfl rfl rfl ?_
  refine zj_lload_n 35 rfl rfl rfl ?_
  refine zj_lcmp 36 rfl rfl ?_
  refine zj_if_le 37 rfl rfl (fun c99 => ?_) (fun c99 => ?_)
  · refine zj_lconst 40 (0) rfl rfl (by decide) ?_
    refine zj_lreturn 41 rfl rfl rfl ?_
    refine ⟨zrl ?_, rfl, rfl⟩
    show _ = (if y < x then (1 : Int64) else 0)
    rw [if_neg (Int64.not_lt.mpr ((lg_cmp_le _ _).mp c99))]
  · refine zj_lconst 38 (1) rfl rfl (by decide) ?_
    refine zj_goto 39 rfl rfl ?_
    refine zj_lreturn 41 rfl rfl rfl ?_
    refine ⟨zrl ?_, rfl, rfl⟩
    show _ = (if y < x then (1 : Int64) else 0)
    rw [if_pos (Int64.not_le.mp (fun g => c99 ((lg_cmp_le _ _).mpr g)))]
theorem k_worked15 (x y : Int64) : zM E YM_worked 1 [.int (nI 15), .long x, .long y] (σ) (some (.long (pWk 15 x y))) (σ) := by
  refine zM.of oM_worked (by decide +kernel) rfl rfl (fun n => ?_)
  refine zj_iload_n 0 rfl rfl rfl ?_
  refine zj_tsw (t := 108) 1 rfl rfl (by decide +kernel) (by decide +kernel) ?_
  refine zj_lload_n 42 rfl rfl rfl ?_
  refine zj_lload_n 43 rfl rfl rfl ?_
  refine zj_lcmp 44 rfl rfl ?_
  refine zj_if_ne 45 rfl rfl (fun c111 => ?_) (fun c111 => ?_)
  · refine zj_lconst 48 (0) rfl rfl (by decide) ?_
    refine zj_lreturn 49 rfl rfl rfl ?_
    refine ⟨zrl ?_, rfl, rfl⟩
    show _ = (if x = y then (1 : Int64) else 0)
    rw [if_neg (fun e => c111 ((lg_cmp_eq _ _).mpr e))]
  · refine zj_lconst 46 (1) rfl rfl (by decide) ?_
    refine zj_goto 47 rfl rfl ?_
    refine zj_lreturn 49 rfl rfl rfl ?_
    refine ⟨zrl ?_, rfl, rfl⟩
    show _ = (if x = y then (1 : Int64) else 0)
    rw [if_pos ((lg_cmp_eq _ _).mp (Decidable.of_not_not (by simpa using c111)))]
theorem k_worked16 (x y : Int64) : zM E YM_worked 1 [.int (nI 16), .long x, .long y] (σ) (some (.long (pWk 16 x y))) (σ) := by
  refine zM.of oM_worked (by decide +kernel) rfl rfl (fun n => ?_)
  refine zj_iload_n 0 rfl rfl rfl ?_
  refine zj_tsw (t := 120) 1 rfl rfl (by decide +kernel) (by decide +kernel) ?_
  refine zj_lload_n 50 rfl rfl rfl ?_
  refine zj_lload_n 51 rfl rfl rfl ?_
  refine zj_ladd 52 rfl rfl ?_
  refine zj_lreturn 53 rfl rfl rfl ?_
  exact ⟨rfl, rfl, rfl⟩
theorem k_worked17 (x y : Int64) : zM E YM_worked 1 [.int (nI 17), .long x, .long y] (σ) (some (.long (pWk 17 x y))) (σ) := by
  refine zM.of oM_worked (by decide +kernel) rfl rfl (fun n => ?_)
  refine zj_iload_n 0 rfl rfl rfl ?_
  refine zj_tsw (t := 124) 1 rfl rfl (by decide +kernel) (by decide +kernel) ?_
  refine zj_lload_n 54 rfl rfl rfl ?_
  refine zj_lload_n 55 rfl rfl rfl ?_
  refine zj_lsub 56 rfl rfl ?_
  refine zj_lreturn 57 rfl rfl rfl ?_
  exact ⟨rfl, rfl, rfl⟩
theorem k_worked18 (x y : Int64) : zM E YM_worked 1 [.int (nI 18), .long x, .long y] (σ) (some (.long (pWk 18 x y))) (σ) := by
  refine zM.of oM_worked (by decide +kernel) rfl rfl (fun n => ?_)
  refine zj_iload_n 0 rfl rfl rfl ?_
  refine zj_tsw (t := 128) 1 rfl rfl (by decide +kernel) (by decide +kernel) ?_
  refine zj_lload_n 58 rfl rfl rfl ?_
  refine zj_lload_n 59 rfl rfl rfl ?_
  refine zj_lmul 60 rfl rfl ?_
  refine zj_lreturn 61 rfl rfl rfl ?_
  exact ⟨rfl, rfl, rfl⟩
theorem k_worked19 (x y : Int64) : zM E YM_worked 1 [.int (nI 19), .long x, .long y] (σ) (some (.long (pWk 19 x y))) (σ) := by
  refine zM.of oM_worked (by decide +kernel) rfl rfl (fun n => ?_)
  refine zj_iload_n 0 rfl rfl rfl ?_
  refine zj_tsw (t := 132) 1 rfl rfl (by decide +kernel) (by decide +kernel) ?_
  refine zj_lload_n 62 rfl rfl rfl ?_
  refine zj_lconst 63 (0) rfl rfl (by decide) ?_
  refine zj_lcmp 64 rfl rfl ?_
  refine zj_if_ne 65 rfl rfl (fun c135 => ?_) (fun c135 => ?_)
  · refine zj_lload_n 68 rfl rfl rfl ?_
    refine zj_lload_n 69 rfl rfl rfl ?_
    refine zj_ldiv 70 rfl rfl (by exact fun e => c135 ((lg_cmp_eq _ _).mpr e)) ?_
    refine zj_lreturn 71 rfl rfl rfl ?_
    refine ⟨zrl ?_, rfl, rfl⟩
    show _ = (if y = 0 then (0 : Int64) else x / y)
    rw [if_neg (fun e => c135 ((lg_cmp_eq _ _).mpr e))]
  · refine zj_lconst 66 (0) rfl rfl (by decide) ?_
    refine zj_goto 67 rfl rfl ?_
    refine zj_lreturn 71 rfl rfl rfl ?_
    refine ⟨zrl ?_, rfl, rfl⟩
    show _ = (if y = 0 then (0 : Int64) else x / y)
    rw [if_pos ((lg_cmp_eq _ _).mp (Decidable.of_not_not (by simpa using c135)))]
theorem k_worked (c : Nat) (h1 : 11 ≤ c) (h2 : c ≤ 19) (x y : Int64) : zM E YM_worked 1 [.int (nI c), .long x, .long y] σ (some (.long (pWk c x y))) σ := by
  rcases (by omega : c = 11 ∨ c = 12 ∨ c = 13 ∨ c = 14 ∨ c = 15 ∨ c = 16 ∨ c = 17 ∨ c = 18 ∨ c = 19) with rfl | rfl | rfl | rfl | rfl | rfl | rfl | rfl | rfl
  · exact k_worked11 x y
  · exact k_worked12 x y
  · exact k_worked13 x y
  · exact k_worked14 x y
  · exact k_worked15 x y
  · exact k_worked16 x y
  · exact k_worked17 x y
  · exact k_worked18 x y
  · exact k_worked19 x y
end
