/-! the component: helpers -/
/-- how many ways, as the component counts them -/
def pCc (b : Nat) : Nat → Nat
  | 0 => 1
  | i + 1 => pCc b i * (b + (i + 1)) / (i + 1)
theorem pCc_lt : ∀ b, b < 29 → ∀ i, i < 29 → b + i ≤ 28 → pCc b i < 2 ^ 27 := by decide +kernel
theorem pCc_pCh : ∀ n, n < 29 → ∀ k, k < 29 → k ≤ n → pCc (n - k) k = pCh n k := by decide +kernel
theorem pShare_z {one two t0 k : Nat} (h : two < t0 + k) : ∀ j, pShare one two t0 (k + j) = pShare one two t0 k
  | 0 => rfl
  | j + 1 => by
    rw [show k + (j + 1) = (k + j) + 1 from rfl]
    simp only [pShare]
    rw [pShare_z h j, show pChoose two (t0 + (k + j)) = 0 from if_neg (by omega), Nat.zero_mul, Nat.add_zero]
section
variable {E : zE} {σ : zH}
theorem k_joined11 (x y : Int64) : zM E YSp_joined 1 [.int (-(nI 11)), .long x, .long y] (σ) (some (.long (pWk 11 x y))) (σ) := by
  refine zM.of oSp_joined (by decide +kernel) rfl rfl (fun n => ?_)
  refine zj_iload_n 0 rfl rfl rfl ?_
  refine zj_tsw (t := 48) 1 rfl rfl (by decide +kernel) (by decide +kernel) ?_
  refine zj_lload_n 2 rfl rfl rfl ?_
  refine zj_lconst 3 (0) rfl rfl (by decide) ?_
  refine zj_lcmp 4 rfl rfl ?_
  refine zj_if_ne 5 rfl rfl (fun c51 => ?_) (fun c51 => ?_)
  · refine zj_lconst 10 (1) rfl rfl (by decide) ?_
    refine zj_goto 11 rfl rfl ?_
    refine zj_lreturn 13 rfl rfl rfl ?_
    refine ⟨zrl ?_, rfl, rfl⟩
    show _ = (if x ≠ 0 ∨ y ≠ 0 then (1 : Int64) else 0)
    rw [if_pos (Or.inl (fun e => c51 ((lg_cmp_eq _ _).mpr e)))]
  · refine zj_lload_n 6 rfl rfl rfl ?_
    refine zj_lconst 7 (0) rfl rfl (by decide) ?_
    refine zj_lcmp 8 rfl rfl ?_
    refine zj_if_eq 9 rfl rfl (fun c57 => ?_) (fun c57 => ?_)
    · refine zj_lconst 12 (0) rfl rfl (by decide) ?_
      refine zj_lreturn 13 rfl rfl rfl ?_
      refine ⟨zrl ?_, rfl, rfl⟩
      show _ = (if x ≠ 0 ∨ y ≠ 0 then (1 : Int64) else 0)
      rw [if_neg (fun g => g.elim (fun z => z ((lg_cmp_eq _ _).mp (Decidable.of_not_not (by simpa using c51)))) (fun z => z ((lg_cmp_eq _ _).mp c57)))]
    · refine zj_lconst 10 (1) rfl rfl (by decide) ?_
      refine zj_goto 11 rfl rfl ?_
      refine zj_lreturn 13 rfl rfl rfl ?_
      refine ⟨zrl ?_, rfl, rfl⟩
      show _ = (if x ≠ 0 ∨ y ≠ 0 then (1 : Int64) else 0)
      rw [if_pos (Or.inr (fun e => c57 ((lg_cmp_eq _ _).mpr e)))]
theorem k_joined12 (x y : Int64) : zM E YSp_joined 1 [.int (-(nI 12)), .long x, .long y] (σ) (some (.long (pWk 12 x y))) (σ) := by
  refine zM.of oSp_joined (by decide +kernel) rfl rfl (fun n => ?_)
  refine zj_iload_n 0 rfl rfl rfl ?_
  refine zj_tsw (t := 66) 1 rfl rfl (by decide +kernel) (by decide +kernel) ?_
  refine zj_lload_n 14 rfl rfl rfl ?_
  refine zj_lconst 15 (0) rfl rfl (by decide) ?_
  refine zj_lcmp 16 rfl rfl ?_
  refine zj_if_eq 17 rfl rfl (fun c69 => ?_) (fun c69 => ?_)
  · refine zj_lconst 24 (0) rfl rfl (by decide) ?_
    refine zj_lreturn 25 rfl rfl rfl ?_
    refine ⟨zrl ?_, rfl, rfl⟩
    show _ = (if x ≠ 0 ∧ y ≠ 0 then (1 : Int64) else 0)
    rw [if_neg (fun g => g.1 ((lg_cmp_eq _ _).mp c69))]
  · refine zj_lload_n 18 rfl rfl rfl ?_
    refine zj_lconst 19 (0) rfl rfl (by decide) ?_
    refine zj_lcmp 20 rfl rfl ?_
    refine zj_if_eq 21 rfl rfl (fun c75 => ?_) (fun c75 => ?_)
    · refine zj_lconst 24 (0) rfl rfl (by decide) ?_
      refine zj_lreturn 25 rfl rfl rfl ?_
      refine ⟨zrl ?_, rfl, rfl⟩
      show _ = (if x ≠ 0 ∧ y ≠ 0 then (1 : Int64) else 0)
      rw [if_neg (fun g => g.2 ((lg_cmp_eq _ _).mp c75))]
    · refine zj_lconst 22 (1) rfl rfl (by decide) ?_
      refine zj_goto 23 rfl rfl ?_
      refine zj_lreturn 25 rfl rfl rfl ?_
      refine ⟨zrl ?_, rfl, rfl⟩
      show _ = (if x ≠ 0 ∧ y ≠ 0 then (1 : Int64) else 0)
      rw [if_pos ⟨fun e => c69 ((lg_cmp_eq _ _).mpr e), fun e => c75 ((lg_cmp_eq _ _).mpr e)⟩]
theorem k_joined13 (x y : Int64) : zM E YSp_joined 1 [.int (-(nI 13)), .long x, .long y] (σ) (some (.long (pWk 13 x y))) (σ) := by
  refine zM.of oSp_joined (by decide +kernel) rfl rfl (fun n => ?_)
  refine zj_iload_n 0 rfl rfl rfl ?_
  refine zj_tsw (t := 84) 1 rfl rfl (by decide +kernel) (by decide +kernel) ?_
  refine zj_lload_n 26 rfl rfl rfl ?_
  refine zj_lload_n 27 rfl rfl rfl ?_
  refine zj_lcmp 28 rfl rfl ?_
  refine zj_if_ge 29 rfl rfl (fun c87 => ?_) (fun c87 => ?_)
  · refine zj_lconst 32 (0) rfl rfl (by decide) ?_
    refine zj_lreturn 33 rfl rfl rfl ?_
    refine ⟨zrl ?_, rfl, rfl⟩
    show _ = (if x < y then (1 : Int64) else 0)
    rw [if_neg (Int64.not_lt.mpr ((lg_cmp_ge _ _).mp c87))]
  · refine zj_lconst 30 (1) rfl rfl (by decide) ?_
    refine zj_goto 31 rfl rfl ?_
    refine zj_lreturn 33 rfl rfl rfl ?_
    refine ⟨zrl ?_, rfl, rfl⟩
    show _ = (if x < y then (1 : Int64) else 0)
    rw [if_pos (Int64.not_le.mp (fun g => c87 ((lg_cmp_ge _ _).mpr g)))]
theorem k_joined14 (x y : Int64) : zM E YSp_joined 1 [.int (-(nI 14)), .long x, .long y] (σ) (some (.long (pWk 14 x y))) (σ) := by
  refine zM.of oSp_joined (by decide +kernel) rfl rfl (fun n => ?_)
  refine zj_iload_n 0 rfl rfl rfl ?_
  refine zj_tsw (t := 96) 1 rfl rfl (by decide +kernel) (by decide +kernel) ?_
  refine zj_lload_n 34 rfl rfl rfl ?_
  refine zj_lload_n 35 rfl rfl rfl ?_
  refine zj_lcmp 36 rfl rfl ?_
  refine zj_if_le 37 rfl rfl (fun c99 => ?_) (fun c99 => ?_)
  · refine zj_lconst 40 (0) rfl rfl (by decide) ?_
    refine zj_lreturn 41 rfl rfl rfl ?_
    refine ⟨zrl ?_, rfl, rfl⟩
    show _ = (if y < x then (1 : Int64) else 0)
    rw [if_neg (Int64.not_lt.mpr ((lg_cmp_le _ _).mp c99))]
  · refine zj_lconst 38 (1) rfl rfl (by decide) ?_
    refine zj_goto 39 rfl rfl ?_
    refine zj_lreturn 41 rfl rfl rfl ?_
    refine ⟨zrl ?_, rfl, rfl⟩
    show _ = (if y < x then (1 : Int64) else 0)
    rw [if_pos (Int64.not_le.mp (fun g => c99 ((lg_cmp_le _ _).mpr g)))]
theorem k_joined15 (x y : Int64) : zM E YSp_joined 1 [.int (-(nI 15)), .long x, .long y] (σ) (some (.long (pWk 15 x y))) (σ) := by
  refine zM.of oSp_joined (by decide +kernel) rfl rfl (fun n => ?_)
  refine zj_iload_n 0 rfl rfl rfl ?_
  refine zj_tsw (t := 108) 1 rfl rfl (by decide +kernel) (by decide +kernel) ?_
  refine zj_lload_n 42 rfl rfl rfl ?_
  refine zj_lload_n 43 rfl rfl rfl ?_
  refine zj_lcmp 44 rfl rfl ?_
  refine zj_if_ne 45 rfl rfl (fun c111 => ?_) (fun c111 => ?_)
  · refine zj_lconst 48 (0) rfl rfl (by decide) ?_
    refine zj_lreturn 49 rfl rfl rfl ?_
    refine ⟨zrl ?_, rfl, rfl⟩
    show _ = (if x = y then (1 : Int64) else 0)
    rw [if_neg (fun e => c111 ((lg_cmp_eq _ _).mpr e))]
  · refine zj_lconst 46 (1) rfl rfl (by decide) ?_
    refine zj_goto 47 rfl rfl ?_
    refine zj_lreturn 49 rfl rfl rfl ?_
    refine ⟨zrl ?_, rfl, rfl⟩
    show _ = (if x = y then (1 : Int64) else 0)
    rw [if_pos ((lg_cmp_eq _ _).mp (Decidable.of_not_not (by simpa using c111)))]
theorem k_joined16 (x y : Int64) : zM E YSp_joined 1 [.int (-(nI 16)), .long x, .long y] (σ) (some (.long (pWk 16 x y))) (σ) := by
  refine zM.of oSp_joined (by decide +kernel) rfl rfl (fun n => ?_)
  refine zj_iload_n 0 rfl rfl rfl ?_
  refine zj_tsw (t := 120) 1 rfl rfl (by decide +kernel) (by decide +kernel) ?_
  refine zj_lload_n 50 rfl rfl rfl ?_
  refine zj_lload_n 51 rfl rfl rfl ?_
  refine zj_ladd 52 rfl rfl ?_
  refine zj_lreturn 53 rfl rfl rfl ?_
  exact ⟨rfl, rfl, rfl⟩
theorem k_joined17 (x y : Int64) : zM E YSp_joined 1 [.int (-(nI 17)), .long x, .long y] (σ) (some (.long (pWk 17 x y))) (σ) := by
  refine zM.of oSp_joined (by decide +kernel) rfl rfl (fun n => ?_)
  refine zj_iload_n 0 rfl rfl rfl ?_
  refine zj_tsw (t := 124) 1 rfl rfl (by decide +kernel) (by decide +kernel) ?_
  refine zj_lload_n 54 rfl rfl rfl ?_
  refine zj_lload_n 55 rfl rfl rfl ?_
  refine zj_lsub 56 rfl rfl ?_
  refine zj_lreturn 57 rfl rfl rfl ?_
  exact ⟨rfl, rfl, rfl⟩
theorem k_joined18 (x y : Int64) : zM E YSp_joined 1 [.int (-(nI 18)), .long x, .long y] (σ) (some (.long (pWk 18 x y))) (σ) := by
  refine zM.of oSp_joined (by decide +kernel) rfl rfl (fun n => ?_)
  refine zj_iload_n 0 rfl rfl rfl ?_
  refine zj_tsw (t := 128) 1 rfl rfl (by decide +kernel) (by decide +kernel) ?_
  refine zj_lload_n 58 rfl rfl rfl ?_
  refine zj_lload_n 59 rfl rfl rfl ?_
  refine zj_lmul 60 rfl rfl ?_
  refine zj_lreturn 61 rfl rfl rfl ?_
  exact ⟨rfl, rfl, rfl⟩
theorem k_joined19 (x y : Int64) : zM E YSp_joined 1 [.int (-(nI 19)), .long x, .long y] (σ) (some (.long (pWk 19 x y))) (σ) := by
  refine zM.of oSp_joined (by decide +kernel) rfl rfl (fun n => ?_)
  refine zj_iload_n 0 rfl rfl rfl ?_
  refine zj_tsw (t := 132) 1 rfl rfl (by decide +kernel) (by decide +kernel) ?_
  refine zj_lload_n 62 rfl rfl rfl ?_
  refine zj_lconst 63 (0) rfl rfl (by decide) ?_
  refine zj_lcmp 64 rfl rfl ?_
  refine zj_if_ne 65 rfl rfl (fun c135 => ?_) (fun c135 => ?_)
  · refine zj_lload_n 68 rfl rfl rfl ?_
    refine zj_lload_n 69 rfl rfl rfl ?_
    refine zj_ldiv 70 rfl rfl (by exact fun e => c135 ((lg_cmp_eq _ _).mpr e)) ?_
    refine zj_lreturn 71 rfl rfl rfl ?_
    refine ⟨zrl ?_, rfl, rfl⟩
    show _ = (if y = 0 then (0 : Int64) else x / y)
    rw [if_neg (fun e => c135 ((lg_cmp_eq _ _).mpr e))]
  · refine zj_lconst 66 (0) rfl rfl (by decide) ?_
    refine zj_goto 67 rfl rfl ?_
    refine zj_lreturn 71 rfl rfl rfl ?_
    refine ⟨zrl ?_, rfl, rfl⟩
    show _ = (if y = 0 then (0 : Int64) else x / y)
    rw [if_pos ((lg_cmp_eq _ _).mp (Decidable.of_not_not (by simpa using c135)))]
theorem k_joined (c : Nat) (h1 : 11 ≤ c) (h2 : c ≤ 19) (x y : Int64) : zM E YSp_joined 1 [.int (-(nI c)), .long x, .long y] σ (some (.long (pWk c x y))) σ := by
  rcases (by omega : c = 11 ∨ c = 12 ∨ c = 13 ∨ c = 14 ∨ c = 15 ∨ c = 16 ∨ c = 17 ∨ c = 18 ∨ c = 19) with rfl | rfl | rfl | rfl | rfl | rfl | rfl | rfl | rfl
  · exact k_joined11 x y
  · exact k_joined12 x y
  · exact k_joined13 x y
  · exact k_joined14 x y
  · exact k_joined15 x y
  · exact k_joined16 x y
  · exact k_joined17 x y
  · exact k_joined18 x y
  · exact k_joined19 x y
theorem k_turned (c : Int32) (x : Int64) : zM E YSp_turned 1 [.int c, .long x] (σ) (some (.long (uTurn c x))) (σ) := by
  refine zM.of oSp_turned (by decide +kernel) rfl rfl (fun n => ?_)
  refine zj_iload_n 0 rfl rfl rfl ?_
  refine zj_bipush 1 (-21) rfl rfl (by decide) ?_
  refine zj_icmp_ne 2 rfl rfl (fun c3 => ?_) (fun c3 => ?_)
  · refine zj_lload_n 11 rfl rfl rfl ?_
    refine zj_lneg 12 rfl rfl ?_
    refine zj_lreturn 13 rfl rfl rfl ?_
    refine ⟨zrl ?_, rfl, rfl⟩
    unfold uTurn
    rw [if_neg (by simpa using c3)]
  · refine zj_lload_n 3 rfl rfl rfl ?_
    refine zj_lconst 4 (0) rfl rfl (by decide) ?_
    refine zj_lcmp 5 rfl rfl ?_
    refine zj_if_ne 6 rfl rfl (fun c9 => ?_) (fun c9 => ?_)
    · refine zj_lconst 9 (0) rfl rfl (by decide) ?_
      refine zj_lreturn 10 rfl rfl rfl ?_
      refine ⟨zrl ?_, rfl, rfl⟩
      unfold uTurn
      rw [if_pos (Decidable.of_not_not (by simpa using c3)), if_neg (fun e => c9 ((lg_cmp_eq _ _).mpr e))]
    · refine zj_lconst 7 (1) rfl rfl (by decide) ?_
      refine zj_goto 8 rfl rfl ?_
      refine zj_lreturn 10 rfl rfl rfl ?_
      refine ⟨zrl ?_, rfl, rfl⟩
      unfold uTurn
      rw [if_pos (Decidable.of_not_not (by simpa using c3)), if_pos ((lg_cmp_eq _ _).mp (Decidable.of_not_not (by simpa using c9)))]
theorem k_isDigit (c : Int32) : zM E YLa_isDigit 1 [.int c] (σ) (some (.int (zo (48 ≤ c ∧ c ≤ 57)))) (σ) := by
  refine zM.of oLa_isDigit (by decide +kernel) rfl rfl (fun n => ?_)
  refine zj_iload_n 0 rfl rfl rfl ?_
  refine zj_bipush 1 (48) rfl rfl (by decide) ?_
  refine zj_icmp_lt 2 rfl rfl (fun c3 => ?_) (fun c3 => ?_)
  · refine zj_iconst 8 (0) rfl rfl (by decide) ?_
    refine zj_zreturn 9 rfl rfl rfl rfl ?_
    exact ⟨zrt (zo_f (fun h => absurd h.1 (Int32.not_le.mpr c3))), rfl, rfl⟩
  · refine zj_iload_n 3 rfl rfl rfl ?_
    refine zj_bipush 4 (57) rfl rfl (by decide) ?_
    refine zj_icmp_gt 5 rfl rfl (fun c9 => ?_) (fun c9 => ?_)
    · refine zj_iconst 8 (0) rfl rfl (by decide) ?_
      refine zj_zreturn 9 rfl rfl rfl rfl ?_
      exact ⟨zrt (zo_f (fun h => absurd h.2 (Int32.not_le.mpr c9))), rfl, rfl⟩
    · refine zj_iconst 6 (1) rfl rfl (by decide) ?_
      refine zj_goto 7 rfl rfl ?_
      refine zj_zreturn 9 rfl rfl rfl rfl ?_
      exact ⟨zrt (zo_t ⟨Int32.not_lt.mp c3, Int32.not_lt.mp c9⟩), rfl, rfl⟩
theorem k_isPrefix (c : Int32) : zM E YLa_isPrefix 1 [.int c] (σ) (some (.int (zo (c = 33 ∨ c = 45 ∨ c = 32)))) (σ) := by
  refine zM.of oLa_isPrefix (by decide +kernel) rfl rfl (fun n => ?_)
  refine zj_iload_n 0 rfl rfl rfl ?_
  refine zj_bipush 1 (33) rfl rfl (by decide) ?_
  refine zj_icmp_eq 2 rfl rfl (fun c3 => ?_) (fun c3 => ?_)
  · refine zj_iconst 9 (1) rfl rfl (by decide) ?_
    refine zj_goto 10 rfl rfl ?_
    refine zj_zreturn 12 rfl rfl rfl rfl ?_
    exact ⟨zrt (zo_t (Or.inl c3)), rfl, rfl⟩
  · refine zj_iload_n 3 rfl rfl rfl ?_
    refine zj_bipush 4 (45) rfl rfl (by decide) ?_
    refine zj_icmp_eq 5 rfl rfl (fun c9 => ?_) (fun c9 => ?_)
    · refine zj_iconst 9 (1) rfl rfl (by decide) ?_
      refine zj_goto 10 rfl rfl ?_
      refine zj_zreturn 12 rfl rfl rfl rfl ?_
      exact ⟨zrt (zo_t (Or.inr (Or.inl c9))), rfl, rfl⟩
    · refine zj_iload_n 6 rfl rfl rfl ?_
      refine zj_bipush 7 (32) rfl rfl (by decide) ?_
      refine zj_icmp_ne 8 rfl rfl (fun c15 => ?_) (fun c15 => ?_)
      · refine zj_iconst 11 (0) rfl rfl (by decide) ?_
        refine zj_zreturn 12 rfl rfl rfl rfl ?_
        exact ⟨zrt (zo_f (fun h => h.elim c3 (fun h => h.elim c9 (by simpa using c15)))), rfl, rfl⟩
      · refine zj_iconst 9 (1) rfl rfl (by decide) ?_
        refine zj_goto 10 rfl rfl ?_
        refine zj_zreturn 12 rfl rfl rfl rfl ?_
        exact ⟨zrt (zo_t (Or.inr (Or.inr (Decidable.of_not_not (by simpa using c15))))), rfl, rfl⟩
theorem l_leastOf (b : Int32) (s : Nat) (hs : s < 2 ^ 31) : ∀ (m : Nat) (k : Nat), (k + m = s) → (∀ i, i < k → ¬ zhas b (nI i)) → ∀ n, zB E YBk_leastOf 2 n (some (.int (nI (pLo b s s)))) (σ) (σ) 2 [some (.int b), some (.int (nI s)), some (.int (nI k))] [] := by
  intro m
  induction m using Nat.strongRecOn with
  | ind m ih =>
  intro k hk hn n
  refine zj_iload_n 2 rfl rfl rfl ?_
  refine zj_iload_n 3 rfl rfl rfl ?_
  refine zn_icmp_ge 4 (k) (s) rfl rfl rfl rfl (by omega) (by omega) (fun c4 => ?_) (fun c4 => ?_)
  · refine zj_iload_n 13 rfl rfl rfl ?_
    refine zj_ireturn 14 rfl rfl rfl ?_
    obtain rfl : k = s := by omega
    exact ⟨zrt (by rw [pLo_s b k k (Nat.le_refl _) hn, Nat.sub_self]; rfl), rfl, rfl⟩
  · refine zj_iload_n 5 rfl rfl rfl ?_
    refine zj_iload_n 6 rfl rfl rfl ?_
    refine zj_csx 7 rfl rfl lk_0_61 ckD_has (k_has _ _) rfl rfl rfl rfl ?_
    refine zj_if_eq 8 rfl rfl (fun c12 => ?_) (fun c12 => ?_)
    · refine zn_iinc 11 (k) rfl rfl rfl rfl ?_
      refine zj_goto 12 rfl rfl ?_
      refine ih (m - 1) (by omega) (k + 1) (by omega) (fun i hi => ?_) n
      by_cases e : i = k
      · subst e; exact zo_0.mp c12
      · exact hn i (by omega)
    · refine zj_iload_n 9 rfl rfl rfl ?_
      refine zj_ireturn 10 rfl rfl rfl ?_
      exact ⟨zrt (by rw [pLo_at b s k (by omega) hn (zo_n0.mp c12)]), rfl, rfl⟩
theorem k_leastOf (b : Int32) (s : Nat) (hs : s < 2 ^ 31) : zM E YBk_leastOf 2 [.int b, .int (nI s)] (σ) (some (.int (nI (pLo b s s)))) (σ) := by
  refine zM.of oBk_leastOf (by decide +kernel) rfl rfl (fun n => ?_)
  refine zj_iconst 0 (0) rfl rfl (by decide) ?_
  refine zj_istore_n 1 rfl rfl ?_
  exact l_leastOf b s hs s 0 (by omega) (fun i hi => by omega) n
theorem k_isView (x1 x2 x3 x4 : Int32) : zM E YD_isView 2 [.int x1, .int x2, .int x3, .int x4] (σ) (some (.int (zo (zr x1 4 ∧ zr x2 16 ∧ zr x3 4 ∧ zr x4 5)))) (σ) := by
  refine zM.of oD_isView (by decide +kernel) rfl rfl (fun n => ?_)
  refine zj_iload_n 0 rfl rfl rfl ?_
  refine zj_iconst 1 (4) rfl rfl (by decide) ?_
  refine zj_csx 2 rfl rfl lk_7_42 ckD_isOneOf (k_isOneOf _ _) rfl rfl rfl rfl ?_
  refine zj_if_eq 3 rfl rfl (fun c5 => ?_) (fun c5 => ?_)
  · refine zj_iconst 18 (0) rfl rfl (by decide) ?_
    refine zj_zreturn 19 rfl rfl rfl rfl ?_
    first | exact ⟨zrt (zo_t ⟨zo_n0.mp c5, zo_n0.mp c14, zo_n0.mp c22, zo_n0.mp c30⟩), rfl, rfl⟩ | exact ⟨zrt (zo_f (fun h => zo_0.mp c5 h.1)), rfl, rfl⟩ | exact ⟨zrt (zo_f (fun h => zo_0.mp c14 h.2.1)), rfl, rfl⟩ | exact ⟨zrt (zo_f (fun h => zo_0.mp c22 h.2.2.1)), rfl, rfl⟩ | exact ⟨zrt (zo_f (fun h => zo_0.mp c30 h.2.2.2)), rfl, rfl⟩
  · refine zj_iload_n 4 rfl rfl rfl ?_
    refine zj_bipush 5 (16) rfl rfl (by decide) ?_
    refine zj_csx 6 rfl rfl lk_7_42 ckD_isOneOf (k_isOneOf _ _) rfl rfl rfl rfl ?_
    refine zj_if_eq 7 rfl rfl (fun c14 => ?_) (fun c14 => ?_)
    · refine zj_iconst 18 (0) rfl rfl (by decide) ?_
      refine zj_zreturn 19 rfl rfl rfl rfl ?_
      first | exact ⟨zrt (zo_t ⟨zo_n0.mp c5, zo_n0.mp c14, zo_n0.mp c22, zo_n0.mp c30⟩), rfl, rfl⟩ | exact ⟨zrt (zo_f (fun h => zo_0.mp c5 h.1)), rfl, rfl⟩ | exact ⟨zrt (zo_f (fun h => zo_0.mp c14 h.2.1)), rfl, rfl⟩ | exact ⟨zrt (zo_f (fun h => zo_0.mp c22 h.2.2.1)), rfl, rfl⟩ | exact ⟨zrt (zo_f (fun h => zo_0.mp c30 h.2.2.2)), rfl, rfl⟩
    · refine zj_iload_n 8 rfl rfl rfl ?_
      refine zj_iconst 9 (4) rfl rfl (by decide) ?_
      refine zj_csx 10 rfl rfl lk_7_42 ckD_isOneOf (k_isOneOf _ _) rfl rfl rfl rfl ?_
      refine zj_if_eq 11 rfl rfl (fun c22 => ?_) (fun c22 => ?_)
      · refine zj_iconst 18 (0) rfl rfl (by decide) ?_
        refine zj_zreturn 19 rfl rfl rfl rfl ?_
        first | exact ⟨zrt (zo_t ⟨zo_n0.mp c5, zo_n0.mp c14, zo_n0.mp c22, zo_n0.mp c30⟩), rfl, rfl⟩ | exact ⟨zrt (zo_f (fun h => zo_0.mp c5 h.1)), rfl, rfl⟩ | exact ⟨zrt (zo_f (fun h => zo_0.mp c14 h.2.1)), rfl, rfl⟩ | exact ⟨zrt (zo_f (fun h => zo_0.mp c22 h.2.2.1)), rfl, rfl⟩ | exact ⟨zrt (zo_f (fun h => zo_0.mp c30 h.2.2.2)), rfl, rfl⟩
      · refine zj_iload_n 12 rfl rfl rfl ?_
        refine zj_iconst 13 (5) rfl rfl (by decide) ?_
        refine zj_csx 14 rfl rfl lk_7_42 ckD_isOneOf (k_isOneOf _ _) rfl rfl rfl rfl ?_
        refine zj_if_eq 15 rfl rfl (fun c30 => ?_) (fun c30 => ?_)
        · refine zj_iconst 18 (0) rfl rfl (by decide) ?_
          refine zj_zreturn 19 rfl rfl rfl rfl ?_
          first | exact ⟨zrt (zo_t ⟨zo_n0.mp c5, zo_n0.mp c14, zo_n0.mp c22, zo_n0.mp c30⟩), rfl, rfl⟩ | exact ⟨zrt (zo_f (fun h => zo_0.mp c5 h.1)), rfl, rfl⟩ | exact ⟨zrt (zo_f (fun h => zo_0.mp c14 h.2.1)), rfl, rfl⟩ | exact ⟨zrt (zo_f (fun h => zo_0.mp c22 h.2.2.1)), rfl, rfl⟩ | exact ⟨zrt (zo_f (fun h => zo_0.mp c30 h.2.2.2)), rfl, rfl⟩
        · refine zj_iconst 16 (1) rfl rfl (by decide) ?_
          refine zj_goto 17 rfl rfl ?_
          refine zj_zreturn 19 rfl rfl rfl rfl ?_
          first | exact ⟨zrt (zo_t ⟨zo_n0.mp c5, zo_n0.mp c14, zo_n0.mp c22, zo_n0.mp c30⟩), rfl, rfl⟩ | exact ⟨zrt (zo_f (fun h => zo_0.mp c5 h.1)), rfl, rfl⟩ | exact ⟨zrt (zo_f (fun h => zo_0.mp c14 h.2.1)), rfl, rfl⟩ | exact ⟨zrt (zo_f (fun h => zo_0.mp c22 h.2.2.1)), rfl, rfl⟩ | exact ⟨zrt (zo_f (fun h => zo_0.mp c30 h.2.2.2)), rfl, rfl⟩
theorem l_choices (n0 k0 : Nat) (hn : n0 < 29) (hk : k0 ≤ n0) : ∀ (m : Nat) (i : Nat), (i + m = k0) → ∀ n, zB E YD_choices 1 n (some (.long (lN (pCc (n0 - k0) k0)))) (σ) (σ) 16 [some (.int (nI n0)), some (.int (nI k0)), some (.long (lN (pCc (n0 - k0) i))), none, some (.int (nI (i + 1)))] [] := by
  intro m
  induction m using Nat.strongRecOn with
  | ind m ih =>
  intro i hi n
  refine zj_iload 11 rfl rfl rfl ?_
  refine zj_iload_n 12 rfl rfl rfl ?_
  refine zn_icmp_gt 13 (i + 1) (k0) rfl rfl rfl rfl (by omega) (by omega) (fun c19 => ?_) (fun c19 => ?_)
  · refine zj_lload_n 28 rfl rfl rfl ?_
    refine zj_lreturn 29 rfl rfl rfl ?_
    obtain rfl : i = k0 := by omega
    exact ⟨rfl, rfl, rfl⟩
  · refine zj_lload_n 14 rfl rfl rfl ?_
    refine zj_iload_n 15 rfl rfl rfl ?_
    refine zj_iload_n 16 rfl rfl rfl ?_
    refine zn_isub 17 (n0) (k0) rfl rfl rfl rfl (by omega) ?_
    refine zj_iload 18 rfl rfl rfl ?_
    refine zn_iadd 19 (n0 - k0) (i + 1) rfl rfl rfl rfl ?_
    refine zj_i2l 20 rfl rfl ?_
    refine zj_lmul 21 rfl rfl ?_
    refine zj_iload 22 rfl rfl rfl ?_
    refine zj_i2l 23 rfl rfl ?_
    refine zj_ldiv 24 rfl rfl (by (rw [nI_l (by omega)]; exact fun e => absurd ((pk_lEQ (by omega) (by decide)).mp (show lN (i + 1) = lN 0 from e)) (by omega))) ?_
    refine zj_lstore_n 25 rfl rfl ?_
    refine zn_iinc 26 (i + 1) rfl rfl rfl rfl ?_
    refine zj_goto 27 rfl rfl ?_
    have p1 := pCc_lt (n0 - k0) (by omega) i (by omega) (by omega)
    rw [nI_l (by omega), nI_l (by omega), lN_mul, pk_lDiv (by have : pCc (n0 - k0) i * (n0 - k0 + (i + 1)) ≤ 2 ^ 27 * 29 := Nat.mul_le_mul (by omega) (by omega); omega) (by omega) (by omega)]
    exact ih (m - 1) (by omega) (i + 1) (by omega) n
theorem k_choices_lo (n0 k0 : Nat) (hn : n0 < 29) (hk : k0 ≤ n0) : zM E YD_choices 1 [.int (nI n0), .int (nI k0)] (σ) (some (.long (lN (pCc (n0 - k0) k0)))) (σ) := by
  refine zM.of oD_choices (by decide +kernel) rfl rfl (fun n => ?_)
  refine zj_iload_n 0 rfl rfl rfl ?_
  refine zj_if_lt 1 rfl rfl (fun c1 => ?_) (fun c1 => ?_)
  · exact absurd c1 (nI_pos (by omega))
  · refine zj_iload_n 2 rfl rfl rfl ?_
    refine zj_iload_n 3 rfl rfl rfl ?_
    refine zn_icmp_le 4 (k0) (n0) rfl rfl rfl rfl (by omega) (by omega) (fun c6 => ?_) (fun c6 => ?_)
    · refine zj_lconst 7 (1) rfl rfl (by decide) ?_
      refine zj_lstore_n 8 rfl rfl ?_
      refine zj_iconst 9 (1) rfl rfl (by decide) ?_
      refine zj_istore 10 rfl rfl ?_
      exact l_choices n0 k0 hn hk k0 0 (by omega) n
    · exact absurd c6 (by omega)
theorem k_choices_hi (n0 k0 : Nat) (hn : n0 < 29) (hk : n0 < k0) (hk2 : k0 < 100) : zM E YD_choices 1 [.int (nI n0), .int (nI k0)] (σ) (some (.long 0)) (σ) := by
  refine zM.of oD_choices (by decide +kernel) rfl rfl (fun n => ?_)
  refine zj_iload_n 0 rfl rfl rfl ?_
  refine zj_if_lt 1 rfl rfl (fun c1 => ?_) (fun c1 => ?_)
  · exact absurd c1 (nI_pos (by omega))
  · refine zj_iload_n 2 rfl rfl rfl ?_
    refine zj_iload_n 3 rfl rfl rfl ?_
    refine zn_icmp_le 4 (k0) (n0) rfl rfl rfl rfl (by omega) (by omega) (fun c6 => ?_) (fun c6 => ?_)
    · exact absurd c6 (by omega)
    · refine zj_lconst 5 (0) rfl rfl (by decide) ?_
      refine zj_lreturn 6 rfl rfl rfl ?_
      exact ⟨rfl, rfl, rfl⟩
theorem k_choices (n0 k0 : Nat) (hn : n0 < 29) (hk2 : k0 < 100) : zM E YD_choices 1 [.int (nI n0), .int (nI k0)] σ (some (.long (lN (pChoose n0 k0)))) σ := by
  unfold pChoose
  by_cases hk : k0 ≤ n0
  · rw [if_pos hk, ← pCc_pCh n0 hn k0 (by omega) hk]; exact k_choices_lo n0 k0 hn hk
  · rw [if_neg hk]; exact k_choices_hi n0 k0 hn (by omega) hk2
theorem l_share (one two t0 : Nat) (h1 : one < 29) (h2 : two < 29) (ht : t0 ≤ one + 1) : ∀ (m : Nat) (k : Nat), (k + m = one + 1 - t0) → ∀ n, zB E YD_waysToShare 2 n (some (.long (lN (pShare one two t0 (one + 1 - t0))))) (σ) (σ) 5 [some (.int (nI one)), some (.int (nI two)), some (.int (nI t0)), some (.long (lN (pShare one two t0 k))), none, some (.int (nI (t0 + k)))] [] := by
  intro m
  induction m using Nat.strongRecOn with
  | ind m ih =>
  intro k hk n
  refine zj_iload 4 rfl rfl rfl ?_
  refine zj_iload_n 5 rfl rfl rfl ?_
  refine zn_icmp_gt 6 (t0 + k) (one) rfl rfl rfl rfl (by omega) (by omega) (fun c8 => ?_) (fun c8 => ?_)
  · refine zj_lload_n 26 rfl rfl rfl ?_
    refine zj_lreturn 27 rfl rfl rfl ?_
    obtain rfl : k = one + 1 - t0 := by omega
    exact ⟨rfl, rfl, rfl⟩
  · refine zj_iload 7 rfl rfl rfl ?_
    refine zj_iload_n 8 rfl rfl rfl ?_
    refine zn_icmp_gt 9 (t0 + k) (two) rfl rfl rfl rfl (by omega) (by omega) (fun c14 => ?_) (fun c14 => ?_)
    · refine zj_lload_n 26 rfl rfl rfl ?_
      refine zj_lreturn 27 rfl rfl rfl ?_
      refine ⟨zrl ?_, rfl, rfl⟩
      rw [show one + 1 - t0 = k + m by omega, pShare_z (by omega) m]
    · refine zj_lload_n 10 rfl rfl rfl ?_
      refine zj_iload_n 11 rfl rfl rfl ?_
      refine zj_iload 12 rfl rfl rfl ?_
      refine zj_csx 13 rfl rfl lk_7_181 ckD_choices (k_choices two (t0 + k) h2 (by omega)) rfl rfl rfl rfl ?_
      refine zj_bipush 14 (28) rfl rfl (by decide) ?_
      refine zj_iload_n 15 rfl rfl rfl ?_
      refine zn_isub 16 (28) (two) rfl rfl rfl rfl (by omega) ?_
      refine zj_iload_n 17 rfl rfl rfl ?_
      refine zj_iload 18 rfl rfl rfl ?_
      refine zn_isub 19 (one) (t0 + k) rfl rfl rfl rfl (by omega) ?_
      refine zj_csx 20 rfl rfl lk_7_181 ckD_choices (k_choices (28 - two) (one - (t0 + k)) (by omega) (by omega)) rfl rfl rfl rfl ?_
      refine zj_lmul 21 rfl rfl ?_
      refine zj_ladd 22 rfl rfl ?_
      refine zj_lstore_n 23 rfl rfl ?_
      refine zn_iinc 24 (t0 + k) rfl rfl rfl rfl ?_
      refine zj_goto 25 rfl rfl ?_
      rw [lN_mul, lN_add]
      exact ih (m - 1) (by omega) (k + 1) (by omega) n
theorem k_waysToShare (one two t0 : Nat) (h1 : one < 29) (h2 : two < 29) (ht : t0 ≤ one + 1) : zM E YD_waysToShare 2 [.int (nI one), .int (nI two), .int (nI t0)] (σ) (some (.long (lN (pShare one two t0 (one + 1 - t0))))) (σ) := by
  refine zM.of oD_waysToShare (by decide +kernel) rfl rfl (fun n => ?_)
  refine zj_lconst 0 (0) rfl rfl (by decide) ?_
  refine zj_lstore_n 1 rfl rfl ?_
  refine zj_iload_n 2 rfl rfl rfl ?_
  refine zj_istore 3 rfl rfl ?_
  exact l_share one two t0 h1 h2 ht (one + 1 - t0) 0 (by omega) n
theorem k_replace (r len : Nat) (f : Nat → Int32) (hr : σ r = some (.inl (0, len, .inl f))) (hlen : len < 2 ^ 31) (i : Nat) (v : Int32) (hi : i < len) : zM E YD_replace 2 [.ref r, .int (nI i), .int v] (σ) (some (.int (f i))) (zup σ r (.inl (0, len, .inl (va_up f i v)))) := by
  refine zM.of oD_replace (by decide +kernel) rfl rfl (fun n => ?_)
  refine zj_iload_n 0 rfl rfl rfl ?_
  refine zj_aload_n 1 rfl rfl rfl ?_
  refine zj_alen 2 rfl rfl hr (by decide) ?_
  refine zj_csx 3 rfl rfl lk_7_42 ckD_isOneOf (k_isOneOf _ _) rfl rfl rfl rfl ?_
  refine zj_if_ne 4 rfl rfl (fun c6 => ?_) (fun c6 => ?_)
  · refine zj_aload_n 7 rfl rfl rfl ?_
    refine zj_iload_n 8 rfl rfl rfl ?_
    refine zn_iald 9 (i) rfl rfl hr rfl (by omega) (by omega) ?_
    refine zj_istore_n 10 rfl rfl ?_
    refine zj_aload_n 11 rfl rfl rfl ?_
    refine zj_iload_n 12 rfl rfl rfl ?_
    refine zj_iload_n 13 rfl rfl rfl ?_
    refine zn_iast 14 (i) rfl rfl hr rfl (by omega) (by omega) rfl ?_
    refine zj_iload_n 15 rfl rfl rfl ?_
    refine zj_ireturn 16 rfl rfl rfl ?_
    exact ⟨rfl, rfl, rfl⟩
  · exact absurd (by unfold zr; rw [nI_toInt (by omega), show (Int32.ofNat len).toInt = (len : Int) from nI_toInt (by omega)]; omega) (zo_0.mp c6)
theorem l_mixRow (r len : Nat) (f : Nat → Int32) (hr : σ r = some (.inl (0, len, .inl f))) (hlen : len < 2 ^ 31) (h0 : Int64) (mm : Nat) (hm : mm ≤ len) : ∀ (m : Nat) (k : Nat), (k + m = mm) → ∀ n, zB E YD_mixRow 2 n (some (.long (pTR f h0 mm))) (σ) (σ) 6 [some (.long h0), none, some (.ref r), some (.int (nI mm)), some (.long (pTR f h0 k)), none, some (.int (nI k))] [] := by
  intro m
  induction m using Nat.strongRecOn with
  | ind m ih =>
  intro k hk n
  refine zj_iload 4 rfl rfl rfl ?_
  refine zj_iload_n 5 rfl rfl rfl ?_
  refine zn_icmp_ge 6 (k) (mm) rfl rfl rfl rfl (by omega) (by omega) (fun c9 => ?_) (fun c9 => ?_)
  · refine zj_lload 20 rfl rfl rfl ?_
    refine zj_lreturn 21 rfl rfl rfl ?_
    obtain rfl : k = mm := by omega
    exact ⟨rfl, rfl, rfl⟩
  · refine zj_iload 7 rfl rfl rfl ?_
    refine zj_aload_n 8 rfl rfl rfl ?_
    refine zj_alen 9 rfl rfl hr (by decide) ?_
    refine zn_icmp_ge 10 (k) (len) rfl rfl rfl rfl (by omega) (by omega) (fun c16 => ?_) (fun c16 => ?_)
    · refine zj_lload 20 rfl rfl rfl ?_
      refine zj_lreturn 21 rfl rfl rfl ?_
      obtain rfl : k = mm := by omega
      exact ⟨rfl, rfl, rfl⟩
    · refine zj_lload 11 rfl rfl rfl ?_
      refine zj_aload_n 12 rfl rfl rfl ?_
      refine zj_iload 13 rfl rfl rfl ?_
      refine zn_iald 14 (k) rfl rfl hr rfl (by omega) (by omega) ?_
      refine zj_i2l 15 rfl rfl ?_
      refine zj_csx 16 rfl rfl lk_7_272 ckD_mix (k_mix _ _) rfl rfl rfl rfl ?_
      refine zj_lstore 17 rfl rfl ?_
      refine zn_iinc 18 (k) rfl rfl rfl rfl ?_
      refine zj_goto 19 rfl rfl ?_
      exact ih (m - 1) (by omega) (k + 1) (by omega) n
theorem k_mixRow (r len : Nat) (f : Nat → Int32) (hr : σ r = some (.inl (0, len, .inl f))) (hlen : len < 2 ^ 31) (h0 : Int64) (mm : Nat) (hm : mm ≤ len) : zM E YD_mixRow 2 [.long h0, .ref r, .int (nI mm)] (σ) (some (.long (pTR f h0 mm))) (σ) := by
  refine zM.of oD_mixRow (by decide +kernel) rfl rfl (fun n => ?_)
  refine zj_lload_n 0 rfl rfl rfl ?_
  refine zj_lstore 1 rfl rfl ?_
  refine zj_iconst 2 (0) rfl rfl (by decide) ?_
  refine zj_istore 3 rfl rfl ?_
  exact l_mixRow r len f hr hlen h0 mm hm mm 0 (by omega) n
end
