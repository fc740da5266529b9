/-! the reference: the digest, ways, the fraction -/
def pCh (n : Nat) : Nat → Nat
  | 0 => 1
  | i + 1 => pCh n i * (n - i) / (i + 1)
theorem pCh_ok : ∀ n, n < 29 → ∀ i, i < 30 → (i ≤ n → 0 < pCh n i) ∧ pCh n i < 2 ^ 27 := by decide +kernel
def pChoose (n k : Nat) : Nat := if k ≤ n then pCh n k else 0
theorem pChoose_lt {n k : Nat} (h : n < 29) : pChoose n k < 2 ^ 27 := by
  unfold pChoose
  split
  · exact (pCh_ok n h k (by omega)).2
  · decide
def pShare (one two : Nat) (t0 : Nat) : Nat → Nat
  | 0 => 0
  | k + 1 => pShare one two t0 k + pChoose two (t0 + k) * pChoose (28 - two) (one - (t0 + k))
theorem pShare_lt (one two t0 : Nat) (h : two < 29) : ∀ k, pShare one two t0 k ≤ k * 2 ^ 54
  | 0 => by simp [pShare]
  | k + 1 => by
    have ih := pShare_lt one two t0 h k
    have h1 : pChoose two (t0 + k) < 2 ^ 27 := pChoose_lt h
    have h2 : pChoose (28 - two) (one - (t0 + k)) < 2 ^ 27 := pChoose_lt (by omega)
    have h3 : pChoose two (t0 + k) * pChoose (28 - two) (one - (t0 + k)) ≤ 2 ^ 27 * 2 ^ 27 := Nat.mul_le_mul (by omega) (by omega)
    simp only [pShare]
    omega
theorem zgcd_step {x y : Nat} (h : 0 < x) : Nat.gcd (y % x) x = Nat.gcd x y := (Nat.gcd_rec x y).symm
section
variable {E : zE} {σ : zH} {a : Nat} {M : zMo}
theorem l_choose (n0 k0 : Nat) (hn : n0 < 29) (hk : k0 ≤ n0) : ∀ (m : Nat) (i : Nat), (i + m = k0) → ∀ n, zB E YM_choose 1 n (some (.long (lN (pCh n0 k0)))) (σ) (σ) 18 [some (.int (nI n0)), some (.int (nI k0)), some (.long (lN (pCh n0 i))), none, some (.int (nI i))] [] := by
  intro m
  induction m using Nat.strongRecOn with
  | ind m ih =>
  intro i hi n
  refine zj_iload 11 rfl rfl rfl ?_
  refine zj_iload_n 12 rfl rfl rfl ?_
  refine zn_icmp_ge 13 (i) (k0) rfl rfl rfl rfl (by omega) (by omega) (fun c21 => ?_) (fun c21 => ?_)
  · refine zj_lload_n 32 rfl rfl rfl ?_
    refine zj_lreturn 33 rfl rfl rfl ?_
    obtain rfl : i = k0 := by omega
    exact ⟨rfl, rfl, rfl⟩
  · refine zj_lload_n 14 rfl rfl rfl ?_
    refine zj_lconst 15 (0) rfl rfl (by decide) ?_
    refine zj_lcmp 16 rfl rfl ?_
    refine zj_if_le 17 rfl rfl (fun c27 => ?_) (fun c27 => ?_)
    · exact absurd ((lg_cmp_le _ _).mp c27) (by have p1 := pCh_ok n0 hn i (by omega); exact fun e => absurd ((pk_lLE (by omega) (by decide)).mp (show lN (pCh n0 i) ≤ lN 0 from e)) (by omega))
    · refine zj_lload_n 18 rfl rfl rfl ?_
      refine zj_iload_n 19 rfl rfl rfl ?_
      refine zj_iload 20 rfl rfl rfl ?_
      refine zn_isub 21 (n0) (i) rfl rfl rfl rfl (by omega) ?_
      refine zj_i2l 22 rfl rfl ?_
      refine zj_lmul 23 rfl rfl ?_
      refine zj_iload 24 rfl rfl rfl ?_
      refine zj_iconst 25 (1) rfl rfl (by decide) ?_
      refine zn_iadd 26 (i) (1) rfl rfl rfl rfl ?_
      refine zj_i2l 27 rfl rfl ?_
      refine zj_ldiv 28 rfl rfl (by (rw [nI_l (by omega)]; exact fun e => absurd ((pk_lEQ (by omega) (by decide)).mp (show lN (i + 1) = lN 0 from e)) (by omega))) ?_
      refine zj_lstore_n 29 rfl rfl ?_
      refine zn_iinc 30 (i) rfl rfl rfl rfl ?_
      refine zj_goto 31 rfl rfl ?_
      have p1 := pCh_ok n0 hn i (by omega)
      rw [nI_l (by omega), nI_l (by omega), lN_mul, pk_lDiv (by have : pCh n0 i * (n0 - i) ≤ 2 ^ 27 * 29 := Nat.mul_le_mul (by omega) (by omega); omega) (by omega) (by omega)]
      exact ih (m - 1) (by omega) (i + 1) (by omega) n
theorem k_choose_lo (n0 k0 : Nat) (hn : n0 < 29) (hk : k0 ≤ n0) : zM E YM_choose 1 [.int (nI n0), .int (nI k0)] (σ) (some (.long (lN (pCh n0 k0)))) (σ) := by
  refine zM.of oM_choose (by decide +kernel) rfl rfl (fun n => ?_)
  refine zj_iload_n 0 rfl rfl rfl ?_
  refine zj_if_lt 1 rfl rfl (fun c1 => ?_) (fun c1 => ?_)
  · exact absurd c1 (nI_pos (by omega))
  · refine zj_iload_n 2 rfl rfl rfl ?_
    refine zj_iload_n 3 rfl rfl rfl ?_
    refine zn_icmp_le 4 (k0) (n0) rfl rfl rfl rfl (by omega) (by omega) (fun c6 => ?_) (fun c6 => ?_)
    · refine zj_lconst 7 (1) rfl rfl (by decide) ?_
      refine zj_lstore_n 8 rfl rfl ?_
      refine zj_iconst 9 (0) rfl rfl (by decide) ?_
      refine zj_istore 10 rfl rfl ?_
      exact l_choose n0 k0 hn hk k0 0 (by omega) n
    · exact absurd c6 (by omega)
theorem k_choose_hi (n0 k0 : Nat) (hn : n0 < 29) (hk : n0 < k0) (hk2 : k0 < 100) : zM E YM_choose 1 [.int (nI n0), .int (nI k0)] (σ) (some (.long 0)) (σ) := by
  refine zM.of oM_choose (by decide +kernel) rfl rfl (fun n => ?_)
  refine zj_iload_n 0 rfl rfl rfl ?_
  refine zj_if_lt 1 rfl rfl (fun c1 => ?_) (fun c1 => ?_)
  · exact absurd c1 (nI_pos (by omega))
  · refine zj_iload_n 2 rfl rfl rfl ?_
    refine zj_iload_n 3 rfl rfl rfl ?_
    refine zn_icmp_le 4 (k0) (n0) rfl rfl rfl rfl (by omega) (by omega) (fun c6 => ?_) (fun c6 => ?_)
    · exact absurd c6 (by omega)
    · refine zj_lconst 5 (0) rfl rfl (by decide) ?_
      refine zj_goto 6 rfl rfl ?_
      refine zj_lstore_n 8 rfl rfl ?_
      refine zj_iconst 9 (0) rfl rfl (by decide) ?_
      refine zj_istore 10 rfl rfl ?_
      refine zj_iload 11 rfl rfl rfl ?_
      refine zj_iload_n 12 rfl rfl rfl ?_
      refine zn_icmp_ge 13 (0) (k0) rfl rfl rfl rfl (by omega) (by omega) (fun c21 => ?_) (fun c21 => ?_)
      · exact absurd c21 (by omega)
      · refine zj_lload_n 14 rfl rfl rfl ?_
        refine zj_lconst 15 (0) rfl rfl (by decide) ?_
        refine zj_lcmp 16 rfl rfl ?_
        refine zj_if_le 17 rfl rfl (fun c27 => ?_) (fun c27 => ?_)
        · refine zj_lload_n 32 rfl rfl rfl ?_
          refine zj_lreturn 33 rfl rfl rfl ?_
          exact ⟨rfl, rfl, rfl⟩
        · exact absurd ((lg_cmp_le 0 0).mpr (by decide)) c27
theorem k_choose (n0 k0 : Nat) (hn : n0 < 29) (hk2 : k0 < 100) : zM E YM_choose 1 [.int (nI n0), .int (nI k0)] σ (some (.long (lN (pChoose n0 k0)))) σ := by
  unfold pChoose
  by_cases hk : k0 ≤ n0
  · rw [if_pos hk]; exact k_choose_lo n0 k0 hn hk
  · rw [if_neg hk]; exact k_choose_hi n0 k0 hn (by omega) hk2
theorem l_common (x0 y0 : Int64) (g : Nat) : ∀ (m : Nat) (x y : Nat) (o8 : Option Value), (x ≤ m) → (x < 2 ^ 62) → (y < 2 ^ 62) → (Nat.gcd x y = g) → ∀ n, zB E YM_common 1 n (some (.long (lN g))) (σ) (σ) 6 [some (.long x0), none, some (.long y0), none, some (.long (lN x)), none, some (.long (lN y)), none, o8, none] [] := by
  intro m
  induction m using Nat.strongRecOn with
  | ind m ih =>
  intro x y o8 hx hx2 hy hg n
  refine zj_lload 4 rfl rfl rfl ?_
  refine zj_lconst 5 (0) rfl rfl (by decide) ?_
  refine zj_lcmp 6 rfl rfl ?_
  refine zj_if_eq 7 rfl rfl (fun c10 => ?_) (fun c10 => ?_)
  · refine zj_lload 17 rfl rfl rfl ?_
    refine zj_lreturn 18 rfl rfl rfl ?_
    have hx0 : x = 0 := (pk_lEQ (by omega) (by decide)).mp (show lN x = lN 0 from (lg_cmp_eq _ _).mp c10)
    subst hx0
    rw [Nat.gcd_zero_left] at hg
    exact ⟨zrl (by rw [hg]), rfl, rfl⟩
  · refine zj_lload 8 rfl rfl rfl ?_
    refine zj_lload 9 rfl rfl rfl ?_
    refine zj_lrem 10 rfl rfl (by exact fun e => c10 ((lg_cmp_eq _ _).mpr e)) ?_
    refine zj_lstore 11 rfl rfl ?_
    refine zj_lload 12 rfl rfl rfl ?_
    refine zj_lstore 13 rfl rfl ?_
    refine zj_lload 14 rfl rfl rfl ?_
    refine zj_lstore 15 rfl rfl ?_
    refine zj_goto 16 rfl rfl ?_
    have hx0 : 0 < x := by
      rcases Nat.eq_zero_or_pos x with e | e
      · subst e; exact absurd ((lg_cmp_eq (lN 0) 0).mpr rfl) c10
      · exact e
    rw [pk_lRem (by omega) hx0 (by omega)]
    have hlt := Nat.mod_lt y hx0
    exact ih (y % x) (by omega) (y % x) x _ (by omega) (by omega) (by omega) (by rw [zgcd_step hx0, hg]) n
theorem k_common (x y : Nat) (hx : x < 2 ^ 62) (hy : y < 2 ^ 62) : zM E YM_common 1 [.long (lN x), .long (lN y)] (σ) (some (.long (lN (Nat.gcd x y)))) (σ) := by
  refine zM.of oM_common (by decide +kernel) rfl rfl (fun n => ?_)
  refine zj_lload_n 0 rfl rfl rfl ?_
  refine zj_lstore 1 rfl rfl ?_
  refine zj_lload_n 2 rfl rfl rfl ?_
  refine zj_lstore 3 rfl rfl ?_
  exact l_common _ _ _ x x y none (Nat.le_refl _) hx hy rfl n
end
