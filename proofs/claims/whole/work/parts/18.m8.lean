/-! the reference: weighed, oldest, took, ways, images, counts, the digest -/
/-- the least number of a bit below n, else n -/
def pLo (b : Int32) (n : Nat) : Nat → Nat
  | 0 => n
  | f + 1 => if zhas b (nI (n - (f + 1))) then n - (f + 1) else pLo b n f
/-- the oldest: by taking from the least, f times at most -/
def pOld (mh : Nat → Int32) : Nat → Nat → Nat
  | 0, s => s
  | f + 1, s => if (mh s) >>> ((16 : Int32) &&& 31) = 0 then pOld mh f (pLo (mh s) s s) else s
def pWays (mh : Nat → Int32) : Nat → Int64
  | 0 => 1
  | s + 1 => pWays mh s * (zb28 (mh s) 28).toInt64
def pLc (M : zMo) (nh : Nat) : Nat → Int32
  | 0 => M.2.2.1 6
  | k + 1 => (mMH (M.1 0) nh k).2
section
variable {E : zE} {σ : zH} {a : Nat} {M : zMo}
theorem k_Mweighed_line (l : Nat) (hl : l < 28) (ns : Nat) (h2 : M.1 0 549 = nI ns) (hb2 : ns ≤ 16) (hz : ∀ s, s < ns → zr (rSo (M.1 0) s) 8) : zM E YM_weighed 4 [.ref a, .int (nI (l + 10))] (mw σ a M) (some (.int (pW (rSl (M.1 0)) (mWt (M.1 0))  (nI l) ns))) (mw σ a M) := by
  refine zM.of oM_weighed (by decide +kernel) rfl rfl (fun n => ?_)
  refine zj_iload_n 0 rfl rfl rfl ?_
  refine zj_i2l 1 rfl rfl ?_
  refine zj_ldc2 2 (10) rfl rfl (by decide) ?_
  refine zj_ldc2 3 (37) rfl rfl (by decide) ?_
  refine zj_csx 4 rfl rfl lk_8_51 ckM_in (k_in _ _ _) rfl rfl rfl rfl ?_
  refine zj_if_eq 5 rfl rfl (fun c11 => ?_) (fun c11 => ?_)
  · exact absurd (by rw [zl0, nI_toInt (by omega)]; simp; omega) (zo_0.mp c11)
  · refine zj_aload_n 6 rfl rfl rfl ?_
    refine zj_iload_n 7 rfl rfl rfl ?_
    refine zj_bipush 8 (10) rfl rfl (by decide) ?_
    refine zn_isub 9 (l + 10) (10) rfl rfl rfl rfl (by omega) ?_
    refine zj_cvx 10 rfl rfl lk_8_274 ckM_weight (k_weight _ ns h2 hb2 hz) rfl mw_0 rfl rfl rfl ?_
    refine zj_ireturn 11 rfl rfl rfl ?_
    exact ⟨zrt (by rw [Nat.add_sub_cancel]), rfl, rfl⟩
theorem k_Mweighed_bad (x : Int32) (hb1 : ¬ zr x 2) (hb2 : ¬ (10 ≤ x.toInt ∧ x.toInt ≤ 37)) : zM E YM_weighed 4 [.ref a, .int x] (mw σ a M) (some (.int (-1000))) (mw σ a M) := by
  refine zM.of oM_weighed (by decide +kernel) rfl rfl (fun n => ?_)
  refine zj_iload_n 0 rfl rfl rfl ?_
  refine zj_i2l 1 rfl rfl ?_
  refine zj_ldc2 2 (10) rfl rfl (by decide) ?_
  refine zj_ldc2 3 (37) rfl rfl (by decide) ?_
  refine zj_csx 4 rfl rfl lk_8_51 ckM_in (k_in _ _ _) rfl rfl rfl rfl ?_
  refine zj_if_eq 5 rfl rfl (fun c11 => ?_) (fun c11 => ?_)
  · refine zj_iload_n 12 rfl rfl rfl ?_
    refine zj_i2l 13 rfl rfl ?_
    refine zj_lconst 14 (0) rfl rfl (by decide) ?_
    refine zj_lconst 15 (1) rfl rfl (by decide) ?_
    refine zj_csx 16 rfl rfl lk_8_51 ckM_in (k_in0 _ _ 2 (by decide)) rfl rfl rfl rfl ?_
    refine zj_if_ne 17 rfl rfl (fun c30 => ?_) (fun c30 => ?_)
    · exact absurd (zo_n0.mp c30) hb1
    · refine zj_sipush 18 (-1000) rfl rfl (by decide) ?_
      refine zj_ireturn 19 rfl rfl rfl ?_
      exact ⟨rfl, rfl, rfl⟩
  · exact absurd (by have := zo_n0.mp c11; rw [zl0] at this; simpa using this) hb2
theorem l_weighed_b0 (ns : Nat) (h2 : M.1 0 549 = nI ns) (hb2 : ns ≤ 16) (hz : ∀ s, s < ns → zr (rSo (M.1 0) s) 8) : ∀ (m : Nat) (k : Nat), (k + m = 28) → ∀ n, zB E YM_weighed 4 n (some (.int (pWB (fun k => pW (rSl (M.1 0)) (mWt (M.1 0))  (nI k) ns) (pWA (mWt (M.1 0)) ns) 0  28))) (mw σ a M) (mw σ a M) 72 [some (.ref a), some (.int (nI 0)), some (.int (pWA (mWt (M.1 0)) ns)), some (.int (pWB (fun k => pW (rSl (M.1 0)) (mWt (M.1 0))  (nI k) ns) (pWA (mWt (M.1 0)) ns) 0  k)), some (.int (nI k))] [] := by
  intro m
  induction m using Nat.strongRecOn with
  | ind m ih =>
  intro k hk n
  refine zj_iload 42 rfl rfl rfl ?_
  refine zj_bipush 43 (28) rfl rfl (by decide) ?_
  refine zn_icmp_ge 44 (k) (28) rfl rfl rfl rfl (by omega) (by omega) (fun c76 => ?_) (fun c76 => ?_)
  · refine zj_iload_n 68 rfl rfl rfl ?_
    refine zj_ireturn 69 rfl rfl rfl ?_
    obtain rfl : k = 28 := by omega
    exact ⟨rfl, rfl, rfl⟩
  · refine zj_iload_n 45 rfl rfl rfl ?_
    refine zj_aload_n 46 rfl rfl rfl ?_
    refine zj_iload 47 rfl rfl rfl ?_
    refine zj_cvx 48 rfl rfl lk_8_274 ckM_weight (k_weight _ ns h2 hb2 hz) rfl mw_0 rfl rfl rfl ?_
    refine zj_if_le 49 rfl rfl (fun c86 => ?_) (fun c86 => ?_)
    · refine zj_iconst 63 (0) rfl rfl (by decide) ?_
      refine zj_ior 64 rfl rfl ?_
      refine zj_istore_n 65 rfl rfl ?_
      refine zn_iinc 66 (k) rfl rfl rfl rfl ?_
      refine zj_goto 67 rfl rfl ?_
      have e : pWB (fun k => pW (rSl (M.1 0)) (mWt (M.1 0))  (nI k) ns) (pWA (mWt (M.1 0)) ns) 0  (k + 1) = pWB (fun k => pW (rSl (M.1 0)) (mWt (M.1 0))  (nI k) ns) (pWA (mWt (M.1 0)) ns) 0  k ||| (if 0 < pW (rSl (M.1 0)) (mWt (M.1 0))  (nI k) ns ∧ ((0 : Nat) = 0 ∨ pWA (mWt (M.1 0)) ns ≤ 2 * pW (rSl (M.1 0)) (mWt (M.1 0))  (nI k) ns) then 1 <<< (nI k &&& 31) else 0) := rfl
      have hh := ih (m - 1) (by omega) (k + 1) (by omega) n
      rw [e] at hh
      first
        | (rw [if_pos ⟨Int32.not_le.mp c86, Or.inl rfl⟩] at hh; exact hh)
        | (rw [if_pos ⟨Int32.not_le.mp c86, Or.inr (Int32.not_lt.mp c102)⟩] at hh; exact hh)
        | (rw [if_neg (fun g => absurd g.1 (Int32.not_lt.mpr c86))] at hh; exact hh)
        | (rw [if_neg (fun g => g.2.elim (fun z => absurd z (by decide)) (fun z => absurd z (Int32.not_le.mpr c102)))] at hh; exact hh)
    · refine zj_iload_n 50 rfl rfl rfl ?_
      refine zj_if_eq 51 rfl rfl (fun c90 => ?_) (fun c90 => ?_)
      · refine zj_iconst 59 (1) rfl rfl (by decide) ?_
        refine zj_iload 60 rfl rfl rfl ?_
        refine zj_ishl 61 rfl rfl ?_
        refine zj_goto 62 rfl rfl ?_
        refine zj_ior 64 rfl rfl ?_
        refine zj_istore_n 65 rfl rfl ?_
        refine zn_iinc 66 (k) rfl rfl rfl rfl ?_
        refine zj_goto 67 rfl rfl ?_
        have e : pWB (fun k => pW (rSl (M.1 0)) (mWt (M.1 0))  (nI k) ns) (pWA (mWt (M.1 0)) ns) 0  (k + 1) = pWB (fun k => pW (rSl (M.1 0)) (mWt (M.1 0))  (nI k) ns) (pWA (mWt (M.1 0)) ns) 0  k ||| (if 0 < pW (rSl (M.1 0)) (mWt (M.1 0))  (nI k) ns ∧ ((0 : Nat) = 0 ∨ pWA (mWt (M.1 0)) ns ≤ 2 * pW (rSl (M.1 0)) (mWt (M.1 0))  (nI k) ns) then 1 <<< (nI k &&& 31) else 0) := rfl
        have hh := ih (m - 1) (by omega) (k + 1) (by omega) n
        rw [e] at hh
        first
          | (rw [if_pos ⟨Int32.not_le.mp c86, Or.inl rfl⟩] at hh; exact hh)
          | (rw [if_pos ⟨Int32.not_le.mp c86, Or.inr (Int32.not_lt.mp c102)⟩] at hh; exact hh)
          | (rw [if_neg (fun g => absurd g.1 (Int32.not_lt.mpr c86))] at hh; exact hh)
          | (rw [if_neg (fun g => g.2.elim (fun z => absurd z (by decide)) (fun z => absurd z (Int32.not_le.mpr c102)))] at hh; exact hh)
      · exact absurd c90 (by decide)
theorem l_weighed_a0 (ns : Nat) (h2 : M.1 0 549 = nI ns) (hb2 : ns ≤ 16) (hz : ∀ s, s < ns → zr (rSo (M.1 0) s) 8) : ∀ (m : Nat) (k : Nat), (k + m = ns) → ∀ n, zB E YM_weighed 4 n (some (.int (pWB (fun k => pW (rSl (M.1 0)) (mWt (M.1 0))  (nI k) ns) (pWA (mWt (M.1 0)) ns) 0  28))) (mw σ a M) (mw σ a M) 41 [some (.ref a), some (.int (nI 0)), some (.int (pWA (mWt (M.1 0)) k)), some (.int (nI k)), none] [] := by
  intro m
  induction m using Nat.strongRecOn with
  | ind m ih =>
  intro k hk n
  refine zj_iload_n 24 rfl rfl rfl ?_
  refine zj_aload_n 25 rfl rfl rfl ?_
  refine zj_get 26 rfl rfl mw_0 rfl ?_
  refine zj_sipush 27 (549) rfl rfl (by decide) ?_
  refine zn_iald 28 (549) rfl rfl mw_1 rfl (by omega) (by decide) ?_
  refine zn_icmp_ge 29 (k) (ns) rfl rfl rfl h2 (by omega) (by omega) (fun c50 => ?_) (fun c50 => ?_)
  · refine zj_iconst 38 (0) rfl rfl (by decide) ?_
    refine zj_istore_n 39 rfl rfl ?_
    refine zj_iconst 40 (0) rfl rfl (by decide) ?_
    refine zj_istore 41 rfl rfl ?_
    obtain rfl : k = ns := by omega
    exact l_weighed_b0 k h2 hb2 hz 28 0 (by omega) n
  · refine zj_iload_n 30 rfl rfl rfl ?_
    refine zj_aload_n 31 rfl rfl rfl ?_
    refine zj_iload_n 32 rfl rfl rfl ?_
    refine zj_cvx 33 rfl rfl lk_8_269 ckM_weightOf (k_weightOf _ (by omega) (hz _ (by omega))) rfl mw_0 rfl rfl rfl ?_
    refine zj_iadd 34 rfl rfl ?_
    refine zj_istore_n 35 rfl rfl ?_
    refine zn_iinc 36 (k) rfl rfl rfl rfl ?_
    refine zj_goto 37 rfl rfl ?_
    exact ih (m - 1) (by omega) (k + 1) (by omega) n
theorem k_Mweighed0 (ns : Nat) (h2 : M.1 0 549 = nI ns) (hb2 : ns ≤ 16) (hz : ∀ s, s < ns → zr (rSo (M.1 0) s) 8) : zM E YM_weighed 4 [.ref a, .int (nI 0)] (mw σ a M) (some (.int (pWB (fun k => pW (rSl (M.1 0)) (mWt (M.1 0))  (nI k) ns) (pWA (mWt (M.1 0)) ns) 0  28))) (mw σ a M) := by
  refine zM.of oM_weighed (by decide +kernel) rfl rfl (fun n => ?_)
  refine zj_iload_n 0 rfl rfl rfl ?_
  refine zj_i2l 1 rfl rfl ?_
  refine zj_ldc2 2 (10) rfl rfl (by decide) ?_
  refine zj_ldc2 3 (37) rfl rfl (by decide) ?_
  refine zj_csx 4 rfl rfl lk_8_51 ckM_in (k_in _ _ _) rfl rfl rfl rfl ?_
  refine zj_if_eq 5 rfl rfl (fun c11 => ?_) (fun c11 => ?_)
  · refine zj_iload_n 12 rfl rfl rfl ?_
    refine zj_i2l 13 rfl rfl ?_
    refine zj_lconst 14 (0) rfl rfl (by decide) ?_
    refine zj_lconst 15 (1) rfl rfl (by decide) ?_
    refine zj_csx 16 rfl rfl lk_8_51 ckM_in (k_in0 _ _ 2 (by decide)) rfl rfl rfl rfl ?_
    refine zj_if_ne 17 rfl rfl (fun c30 => ?_) (fun c30 => ?_)
    · refine zj_iconst 20 (0) rfl rfl (by decide) ?_
      refine zj_istore_n 21 rfl rfl ?_
      refine zj_iconst 22 (0) rfl rfl (by decide) ?_
      refine zj_istore_n 23 rfl rfl ?_
      exact l_weighed_a0 ns h2 hb2 hz ns 0 (by omega) n
    · exact absurd (zr_of (n := 2) (by omega) (by decide)) (zo_0.mp c30)
  · exact absurd (zo_n0.mp c11) (by decide)
theorem l_weighed_b1 (ns : Nat) (h2 : M.1 0 549 = nI ns) (hb2 : ns ≤ 16) (hz : ∀ s, s < ns → zr (rSo (M.1 0) s) 8) : ∀ (m : Nat) (k : Nat), (k + m = 28) → ∀ n, zB E YM_weighed 4 n (some (.int (pWB (fun k => pW (rSl (M.1 0)) (mWt (M.1 0))  (nI k) ns) (pWA (mWt (M.1 0)) ns) 1  28))) (mw σ a M) (mw σ a M) 72 [some (.ref a), some (.int (nI 1)), some (.int (pWA (mWt (M.1 0)) ns)), some (.int (pWB (fun k => pW (rSl (M.1 0)) (mWt (M.1 0))  (nI k) ns) (pWA (mWt (M.1 0)) ns) 1  k)), some (.int (nI k))] [] := by
  intro m
  induction m using Nat.strongRecOn with
  | ind m ih =>
  intro k hk n
  refine zj_iload 42 rfl rfl rfl ?_
  refine zj_bipush 43 (28) rfl rfl (by decide) ?_
  refine zn_icmp_ge 44 (k) (28) rfl rfl rfl rfl (by omega) (by omega) (fun c76 => ?_) (fun c76 => ?_)
  · refine zj_iload_n 68 rfl rfl rfl ?_
    refine zj_ireturn 69 rfl rfl rfl ?_
    obtain rfl : k = 28 := by omega
    exact ⟨rfl, rfl, rfl⟩
  · refine zj_iload_n 45 rfl rfl rfl ?_
    refine zj_aload_n 46 rfl rfl rfl ?_
    refine zj_iload 47 rfl rfl rfl ?_
    refine zj_cvx 48 rfl rfl lk_8_274 ckM_weight (k_weight _ ns h2 hb2 hz) rfl mw_0 rfl rfl rfl ?_
    refine zj_if_le 49 rfl rfl (fun c86 => ?_) (fun c86 => ?_)
    · refine zj_iconst 63 (0) rfl rfl (by decide) ?_
      refine zj_ior 64 rfl rfl ?_
      refine zj_istore_n 65 rfl rfl ?_
      refine zn_iinc 66 (k) rfl rfl rfl rfl ?_
      refine zj_goto 67 rfl rfl ?_
      have e : pWB (fun k => pW (rSl (M.1 0)) (mWt (M.1 0))  (nI k) ns) (pWA (mWt (M.1 0)) ns) 1  (k + 1) = pWB (fun k => pW (rSl (M.1 0)) (mWt (M.1 0))  (nI k) ns) (pWA (mWt (M.1 0)) ns) 1  k ||| (if 0 < pW (rSl (M.1 0)) (mWt (M.1 0))  (nI k) ns ∧ ((1 : Nat) = 0 ∨ pWA (mWt (M.1 0)) ns ≤ 2 * pW (rSl (M.1 0)) (mWt (M.1 0))  (nI k) ns) then 1 <<< (nI k &&& 31) else 0) := rfl
      have hh := ih (m - 1) (by omega) (k + 1) (by omega) n
      rw [e] at hh
      first
        | (rw [if_pos ⟨Int32.not_le.mp c86, Or.inl rfl⟩] at hh; exact hh)
        | (rw [if_pos ⟨Int32.not_le.mp c86, Or.inr (Int32.not_lt.mp c102)⟩] at hh; exact hh)
        | (rw [if_neg (fun g => absurd g.1 (Int32.not_lt.mpr c86))] at hh; exact hh)
        | (rw [if_neg (fun g => g.2.elim (fun z => absurd z (by decide)) (fun z => absurd z (Int32.not_le.mpr c102)))] at hh; exact hh)
    · refine zj_iload_n 50 rfl rfl rfl ?_
      refine zj_if_eq 51 rfl rfl (fun c90 => ?_) (fun c90 => ?_)
      · exact absurd c90 (by decide)
      · refine zj_iconst 52 (2) rfl rfl (by decide) ?_
        refine zj_aload_n 53 rfl rfl rfl ?_
        refine zj_iload 54 rfl rfl rfl ?_
        refine zj_cvx 55 rfl rfl lk_8_274 ckM_weight (k_weight _ ns h2 hb2 hz) rfl mw_0 rfl rfl rfl ?_
        refine zj_imul 56 rfl rfl ?_
        refine zj_iload_n 57 rfl rfl rfl ?_
        refine zj_icmp_lt 58 rfl rfl (fun c102 => ?_) (fun c102 => ?_)
        · refine zj_iconst 63 (0) rfl rfl (by decide) ?_
          refine zj_ior 64 rfl rfl ?_
          refine zj_istore_n 65 rfl rfl ?_
          refine zn_iinc 66 (k) rfl rfl rfl rfl ?_
          refine zj_goto 67 rfl rfl ?_
          have e : pWB (fun k => pW (rSl (M.1 0)) (mWt (M.1 0))  (nI k) ns) (pWA (mWt (M.1 0)) ns) 1  (k + 1) = pWB (fun k => pW (rSl (M.1 0)) (mWt (M.1 0))  (nI k) ns) (pWA (mWt (M.1 0)) ns) 1  k ||| (if 0 < pW (rSl (M.1 0)) (mWt (M.1 0))  (nI k) ns ∧ ((1 : Nat) = 0 ∨ pWA (mWt (M.1 0)) ns ≤ 2 * pW (rSl (M.1 0)) (mWt (M.1 0))  (nI k) ns) then 1 <<< (nI k &&& 31) else 0) := rfl
          have hh := ih (m - 1) (by omega) (k + 1) (by omega) n
          rw [e] at hh
          first
            | (rw [if_pos ⟨Int32.not_le.mp c86, Or.inl rfl⟩] at hh; exact hh)
            | (rw [if_pos ⟨Int32.not_le.mp c86, Or.inr (Int32.not_lt.mp c102)⟩] at hh; exact hh)
            | (rw [if_neg (fun g => absurd g.1 (Int32.not_lt.mpr c86))] at hh; exact hh)
            | (rw [if_neg (fun g => g.2.elim (fun z => absurd z (by decide)) (fun z => absurd z (Int32.not_le.mpr c102)))] at hh; exact hh)
        · refine zj_iconst 59 (1) rfl rfl (by decide) ?_
          refine zj_iload 60 rfl rfl rfl ?_
          refine zj_ishl 61 rfl rfl ?_
          refine zj_goto 62 rfl rfl ?_
          refine zj_ior 64 rfl rfl ?_
          refine zj_istore_n 65 rfl rfl ?_
          refine zn_iinc 66 (k) rfl rfl rfl rfl ?_
          refine zj_goto 67 rfl rfl ?_
          have e : pWB (fun k => pW (rSl (M.1 0)) (mWt (M.1 0))  (nI k) ns) (pWA (mWt (M.1 0)) ns) 1  (k + 1) = pWB (fun k => pW (rSl (M.1 0)) (mWt (M.1 0))  (nI k) ns) (pWA (mWt (M.1 0)) ns) 1  k ||| (if 0 < pW (rSl (M.1 0)) (mWt (M.1 0))  (nI k) ns ∧ ((1 : Nat) = 0 ∨ pWA (mWt (M.1 0)) ns ≤ 2 * pW (rSl (M.1 0)) (mWt (M.1 0))  (nI k) ns) then 1 <<< (nI k &&& 31) else 0) := rfl
          have hh := ih (m - 1) (by omega) (k + 1) (by omega) n
          rw [e] at hh
          first
            | (rw [if_pos ⟨Int32.not_le.mp c86, Or.inl rfl⟩] at hh; exact hh)
            | (rw [if_pos ⟨Int32.not_le.mp c86, Or.inr (Int32.not_lt.mp c102)⟩] at hh; exact hh)
            | (rw [if_neg (fun g => absurd g.1 (Int32.not_lt.mpr c86))] at hh; exact hh)
            | (rw [if_neg (fun g => g.2.elim (fun z => absurd z (by decide)) (fun z => absurd z (Int32.not_le.mpr c102)))] at hh; exact hh)
theorem l_weighed_a1 (ns : Nat) (h2 : M.1 0 549 = nI ns) (hb2 : ns ≤ 16) (hz : ∀ s, s < ns → zr (rSo (M.1 0) s) 8) : ∀ (m : Nat) (k : Nat), (k + m = ns) → ∀ n, zB E YM_weighed 4 n (some (.int (pWB (fun k => pW (rSl (M.1 0)) (mWt (M.1 0))  (nI k) ns) (pWA (mWt (M.1 0)) ns) 1  28))) (mw σ a M) (mw σ a M) 41 [some (.ref a), some (.int (nI 1)), some (.int (pWA (mWt (M.1 0)) k)), some (.int (nI k)), none] [] := by
  intro m
  induction m using Nat.strongRecOn with
  | ind m ih =>
  intro k hk n
  refine zj_iload_n 24 rfl rfl rfl ?_
  refine zj_aload_n 25 rfl rfl rfl ?_
  refine zj_get 26 rfl rfl mw_0 rfl ?_
  refine zj_sipush 27 (549) rfl rfl (by decide) ?_
  refine zn_iald 28 (549) rfl rfl mw_1 rfl (by omega) (by decide) ?_
  refine zn_icmp_ge 29 (k) (ns) rfl rfl rfl h2 (by omega) (by omega) (fun c50 => ?_) (fun c50 => ?_)
  · refine zj_iconst 38 (0) rfl rfl (by decide) ?_
    refine zj_istore_n 39 rfl rfl ?_
    refine zj_iconst 40 (0) rfl rfl (by decide) ?_
    refine zj_istore 41 rfl rfl ?_
    obtain rfl : k = ns := by omega
    exact l_weighed_b1 k h2 hb2 hz 28 0 (by omega) n
  · refine zj_iload_n 30 rfl rfl rfl ?_
    refine zj_aload_n 31 rfl rfl rfl ?_
    refine zj_iload_n 32 rfl rfl rfl ?_
    refine zj_cvx 33 rfl rfl lk_8_269 ckM_weightOf (k_weightOf _ (by omega) (hz _ (by omega))) rfl mw_0 rfl rfl rfl ?_
    refine zj_iadd 34 rfl rfl ?_
    refine zj_istore_n 35 rfl rfl ?_
    refine zn_iinc 36 (k) rfl rfl rfl rfl ?_
    refine zj_goto 37 rfl rfl ?_
    exact ih (m - 1) (by omega) (k + 1) (by omega) n
theorem k_Mweighed1 (ns : Nat) (h2 : M.1 0 549 = nI ns) (hb2 : ns ≤ 16) (hz : ∀ s, s < ns → zr (rSo (M.1 0) s) 8) : zM E YM_weighed 4 [.ref a, .int (nI 1)] (mw σ a M) (some (.int (pWB (fun k => pW (rSl (M.1 0)) (mWt (M.1 0))  (nI k) ns) (pWA (mWt (M.1 0)) ns) 1  28))) (mw σ a M) := by
  refine zM.of oM_weighed (by decide +kernel) rfl rfl (fun n => ?_)
  refine zj_iload_n 0 rfl rfl rfl ?_
  refine zj_i2l 1 rfl rfl ?_
  refine zj_ldc2 2 (10) rfl rfl (by decide) ?_
  refine zj_ldc2 3 (37) rfl rfl (by decide) ?_
  refine zj_csx 4 rfl rfl lk_8_51 ckM_in (k_in _ _ _) rfl rfl rfl rfl ?_
  refine zj_if_eq 5 rfl rfl (fun c11 => ?_) (fun c11 => ?_)
  · refine zj_iload_n 12 rfl rfl rfl ?_
    refine zj_i2l 13 rfl rfl ?_
    refine zj_lconst 14 (0) rfl rfl (by decide) ?_
    refine zj_lconst 15 (1) rfl rfl (by decide) ?_
    refine zj_csx 16 rfl rfl lk_8_51 ckM_in (k_in0 _ _ 2 (by decide)) rfl rfl rfl rfl ?_
    refine zj_if_ne 17 rfl rfl (fun c30 => ?_) (fun c30 => ?_)
    · refine zj_iconst 20 (0) rfl rfl (by decide) ?_
      refine zj_istore_n 21 rfl rfl ?_
      refine zj_iconst 22 (0) rfl rfl (by decide) ?_
      refine zj_istore_n 23 rfl rfl ?_
      exact l_weighed_a1 ns h2 hb2 hz ns 0 (by omega) n
    · exact absurd (zr_of (n := 2) (by omega) (by decide)) (zo_0.mp c30)
  · exact absurd (zo_n0.mp c11) (by decide)
theorem l_image (i : Nat) (hi : i < 2) : ∀ (m : Nat) (k : Nat), (k + m = 818) → ∀ n, zB E YM_image 2 n (some (.int 1)) (mw σ a ((M.sA 1 (zcp (M.1 0) (M.1 1) (818 * i) 818)).sA 2 (va_up (M.1 2) i 1))) (mw σ a (M.sA 1 (zcp (M.1 0) (M.1 1) (818 * i) k))) 15 [some (.ref a), some (.int (nI i)), some (.int (nI k))] [] := by
  intro m
  induction m using Nat.strongRecOn with
  | ind m ih =>
  intro k hk n
  refine zj_iload_n 10 rfl rfl rfl ?_
  refine zj_sipush 11 (818) rfl rfl (by decide) ?_
  refine zn_icmp_ge 12 (k) (818) rfl rfl rfl rfl (by omega) (by omega) (fun c19 => ?_) (fun c19 => ?_)
  · refine zj_aload_n 27 rfl rfl rfl ?_
    refine zj_get 28 rfl rfl mw_0 rfl ?_
    refine zj_iload_n 29 rfl rfl rfl ?_
    refine zj_iconst 30 (1) rfl rfl (by decide) ?_
    refine zn_zast 31 (i) rfl rfl mw_3 rfl (by omega) (by decide) rfl mw_u3 ?_
    refine zj_iconst 32 (1) rfl rfl (by decide) ?_
    refine zj_ireturn 33 rfl rfl rfl ?_
    obtain rfl : k = 818 := by omega
    exact ⟨rfl, rfl, rfl⟩
  · refine zj_aload_n 13 rfl rfl rfl ?_
    refine zj_get 14 rfl rfl mw_0 rfl ?_
    refine zj_sipush 15 (818) rfl rfl (by decide) ?_
    refine zj_iload_n 16 rfl rfl rfl ?_
    refine zn_imul 17 (818) (i) rfl rfl rfl rfl ?_
    refine zj_iload_n 18 rfl rfl rfl ?_
    refine zn_iadd 19 (818 * i) (k) rfl rfl rfl rfl ?_
    refine zj_aload_n 20 rfl rfl rfl ?_
    refine zj_get 21 rfl rfl mw_0 rfl ?_
    refine zj_iload_n 22 rfl rfl rfl ?_
    refine zn_iald 23 (k) rfl rfl mw_1 rfl (by omega) (by decide) ?_
    refine zn_iast 24 ((818 * i) + (k)) rfl rfl mw_2 rfl (by omega) (by decide) mw_u2 ?_
    refine zn_iinc 25 (k) rfl rfl rfl rfl ?_
    refine zj_goto 26 rfl rfl ?_
    have e : mw σ a ((M.sA 1 (zcp (M.1 0) (M.1 1) (818 * i) k)).sA 1 (va_up (zcp (M.1 0) (M.1 1) (818 * i) k) (818 * i + k) (M.1 0 k))) = mw σ a (M.sA 1 (zcp (M.1 0) (M.1 1) (818 * i) (k + 1))) := by rw [zMo.sA_sA, zcp_up]
    exact e ▸ ih (m - 1) (by omega) (k + 1) (by omega) n
theorem k_Mimage (i : Nat) (hi : i < 2) : zM E YM_image 2 [.ref a, .int (nI i)] (mw σ a M) (some (.int 1)) (mw σ a ((M.sA 1 (zcp (M.1 0) (M.1 1) (818 * i) 818)).sA 2 (va_up (M.1 2) i 1))) := by
  refine zM.of oM_image (by decide +kernel) rfl rfl (fun n => ?_)
  refine zj_iload_n 0 rfl rfl rfl ?_
  refine zj_i2l 1 rfl rfl ?_
  refine zj_lconst 2 (0) rfl rfl (by decide) ?_
  refine zj_lconst 3 (1) rfl rfl (by decide) ?_
  refine zj_csx 4 rfl rfl lk_8_51 ckM_in (k_in0 _ _ 2 (by decide)) rfl rfl rfl rfl ?_
  refine zj_if_ne 5 rfl rfl (fun c7 => ?_) (fun c7 => ?_)
  · refine zj_iconst 8 (0) rfl rfl (by decide) ?_
    refine zj_istore_n 9 rfl rfl ?_
    have e : mw σ a M = mw σ a (M.sA 1 (zcp (M.1 0) (M.1 1) (818 * i) 0)) := by rw [zcp_0, zMo.sA_self]
    rw [e]
    exact l_image i hi 818 0 (by omega) n
  · exact absurd (zr_of (n := 2) (by omega) (by decide)) (zo_0.mp c7)
theorem k_Mimage_bad (x : Int32) (hb : ¬ zr x 2) : zM E YM_image 2 [.ref a, .int x] (mw σ a M) (some (.int (-2))) (mw σ a M) := by
  refine zM.of oM_image (by decide +kernel) rfl rfl (fun n => ?_)
  refine zj_iload_n 0 rfl rfl rfl ?_
  refine zj_i2l 1 rfl rfl ?_
  refine zj_lconst 2 (0) rfl rfl (by decide) ?_
  refine zj_lconst 3 (1) rfl rfl (by decide) ?_
  refine zj_csx 4 rfl rfl lk_8_51 ckM_in (k_in0 _ _ 2 (by decide)) rfl rfl rfl rfl ?_
  refine zj_if_ne 5 rfl rfl (fun c7 => ?_) (fun c7 => ?_)
  · exact absurd (zo_n0.mp c7) hb
  · refine zj_bipush 6 (-2) rfl rfl (by decide) ?_
    refine zj_ireturn 7 rfl rfl rfl ?_
    exact ⟨rfl, rfl, rfl⟩
theorem l_from (i : Nat) (hi : i < 2) : ∀ (m : Nat) (k : Nat), (k + m = 818) → ∀ n, zB E YM_from 2 n (some (.int 1)) (mw σ a (M.sA 0 (zfl (fun j => M.1 1 (818 * i + j)) (M.1 0) 818))) (mw σ a (M.sA 0 (zfl (fun j => M.1 1 (818 * i + j)) (M.1 0) k))) 27 [some (.ref a), some (.int (nI i)), some (.int (nI k))] [] := by
  intro m
  induction m using Nat.strongRecOn with
  | ind m ih =>
  intro k hk n
  refine zj_iload_n 17 rfl rfl rfl ?_
  refine zj_sipush 18 (818) rfl rfl (by decide) ?_
  refine zn_icmp_ge 19 (k) (818) rfl rfl rfl rfl (by omega) (by omega) (fun c31 => ?_) (fun c31 => ?_)
  · refine zj_iconst 34 (1) rfl rfl (by decide) ?_
    refine zj_ireturn 35 rfl rfl rfl ?_
    obtain rfl : k = 818 := by omega
    exact ⟨rfl, rfl, rfl⟩
  · refine zj_aload_n 20 rfl rfl rfl ?_
    refine zj_get 21 rfl rfl mw_0 rfl ?_
    refine zj_iload_n 22 rfl rfl rfl ?_
    refine zj_aload_n 23 rfl rfl rfl ?_
    refine zj_get 24 rfl rfl mw_0 rfl ?_
    refine zj_sipush 25 (818) rfl rfl (by decide) ?_
    refine zj_iload_n 26 rfl rfl rfl ?_
    refine zn_imul 27 (818) (i) rfl rfl rfl rfl ?_
    refine zj_iload_n 28 rfl rfl rfl ?_
    refine zn_iadd 29 (818 * i) (k) rfl rfl rfl rfl ?_
    refine zn_iald 30 ((818 * i) + (k)) rfl rfl mw_2 rfl (by omega) (by decide) ?_
    refine zn_iast 31 (k) rfl rfl mw_1 rfl (by omega) (by decide) mw_u1 ?_
    refine zn_iinc 32 (k) rfl rfl rfl rfl ?_
    refine zj_goto 33 rfl rfl ?_
    have e : mw σ a ((M.sA 0 (zfl (fun j => M.1 1 (818 * i + j)) (M.1 0) k)).sA 0 (va_up (zfl (fun j => M.1 1 (818 * i + j)) (M.1 0) k) k (M.1 1 (818 * i + k)))) = mw σ a (M.sA 0 (zfl (fun j => M.1 1 (818 * i + j)) (M.1 0) (k + 1))) := by rw [zMo.sA_sA, zfl_up' rfl]
    exact e ▸ ih (m - 1) (by omega) (k + 1) (by omega) n
theorem k_Mfrom (i : Nat) (hi : i < 2) (hk : ¬ M.1 2 i = 0) : zM E YM_from 2 [.ref a, .int (nI i)] (mw σ a M) (some (.int 1)) (mw σ a (M.sA 0 (zfl (fun j => M.1 1 (818 * i + j)) (M.1 0) 818))) := by
  refine zM.of oM_from (by decide +kernel) rfl rfl (fun n => ?_)
  refine zj_iload_n 0 rfl rfl rfl ?_
  refine zj_i2l 1 rfl rfl ?_
  refine zj_lconst 2 (0) rfl rfl (by decide) ?_
  refine zj_lconst 3 (1) rfl rfl (by decide) ?_
  refine zj_csx 4 rfl rfl lk_8_51 ckM_in (k_in0 _ _ 2 (by decide)) rfl rfl rfl rfl ?_
  refine zj_if_ne 5 rfl rfl (fun c7 => ?_) (fun c7 => ?_)
  · refine zj_aload_n 8 rfl rfl rfl ?_
    refine zj_get 9 rfl rfl mw_0 rfl ?_
    refine zj_iload_n 10 rfl rfl rfl ?_
    refine zn_zald 11 (i) rfl rfl mw_3 rfl (by omega) (by decide) ?_
    refine zj_if_ne 12 rfl rfl (fun c19 => ?_) (fun c19 => ?_)
    · refine zj_iconst 15 (0) rfl rfl (by decide) ?_
      refine zj_istore_n 16 rfl rfl ?_
      have e : mw σ a M = mw σ a (M.sA 0 (zfl (fun j => M.1 1 (818 * i + j)) (M.1 0) 0)) := by rw [zfl_0, zMo.sA_self]
      rw [e]
      exact l_from i hi 818 0 (by omega) n
    · exact absurd c19 hk
  · exact absurd (zr_of (n := 2) (by omega) (by decide)) (zo_0.mp c7)
theorem k_Mfrom_no (i : Nat) (hi : i < 2) (hk : M.1 2 i = 0) : zM E YM_from 2 [.ref a, .int (nI i)] (mw σ a M) (some (.int (-3))) (mw σ a M) := by
  refine zM.of oM_from (by decide +kernel) rfl rfl (fun n => ?_)
  refine zj_iload_n 0 rfl rfl rfl ?_
  refine zj_i2l 1 rfl rfl ?_
  refine zj_lconst 2 (0) rfl rfl (by decide) ?_
  refine zj_lconst 3 (1) rfl rfl (by decide) ?_
  refine zj_csx 4 rfl rfl lk_8_51 ckM_in (k_in0 _ _ 2 (by decide)) rfl rfl rfl rfl ?_
  refine zj_if_ne 5 rfl rfl (fun c7 => ?_) (fun c7 => ?_)
  · refine zj_aload_n 8 rfl rfl rfl ?_
    refine zj_get 9 rfl rfl mw_0 rfl ?_
    refine zj_iload_n 10 rfl rfl rfl ?_
    refine zn_zald 11 (i) rfl rfl mw_3 rfl (by omega) (by decide) ?_
    refine zj_if_ne 12 rfl rfl (fun c19 => ?_) (fun c19 => ?_)
    · exact absurd hk c19
    · refine zj_bipush 13 (-3) rfl rfl (by decide) ?_
      refine zj_ireturn 14 rfl rfl rfl ?_
      exact ⟨rfl, rfl, rfl⟩
  · exact absurd (zr_of (n := 2) (by omega) (by decide)) (zo_0.mp c7)
theorem k_Mfrom_bad (x : Int32) (hb : ¬ zr x 2) : zM E YM_from 2 [.ref a, .int x] (mw σ a M) (some (.int (-2))) (mw σ a M) := by
  refine zM.of oM_from (by decide +kernel) rfl rfl (fun n => ?_)
  refine zj_iload_n 0 rfl rfl rfl ?_
  refine zj_i2l 1 rfl rfl ?_
  refine zj_lconst 2 (0) rfl rfl (by decide) ?_
  refine zj_lconst 3 (1) rfl rfl (by decide) ?_
  refine zj_csx 4 rfl rfl lk_8_51 ckM_in (k_in0 _ _ 2 (by decide)) rfl rfl rfl rfl ?_
  refine zj_if_ne 5 rfl rfl (fun c7 => ?_) (fun c7 => ?_)
  · exact absurd (zo_n0.mp c7) hb
  · refine zj_bipush 6 (-2) rfl rfl (by decide) ?_
    refine zj_ireturn 7 rfl rfl rfl ?_
    exact ⟨rfl, rfl, rfl⟩
theorem k_countOf0  : zM E YM_countOf 1 [.ref a, .int (nI 0)] (mw σ a M) (some (.int (M.1 0 532))) (mw σ a M) := by
  refine zM.of oM_countOf (by decide +kernel) rfl rfl (fun n => ?_)
  refine zj_iload_n 0 rfl rfl rfl ?_
  refine zj_if_ne 1 rfl rfl (fun c1 => ?_) (fun c1 => ?_)
  · exact absurd c1 (by decide)
  · refine zj_aload_n 2 rfl rfl rfl ?_
    refine zj_get 3 rfl rfl mw_0 rfl ?_
    refine zj_sipush 4 (532) rfl rfl (by decide) ?_
    refine zn_iald 5 (532) rfl rfl mw_1 rfl (by omega) (by decide) ?_
    refine zj_goto 6 rfl rfl ?_
    refine zj_ireturn 27 rfl rfl rfl ?_
    exact ⟨rfl, rfl, rfl⟩
theorem k_Mcount0  : zM E YM_count 2 [.ref a, .int (nI 0)] (mw σ a M) (some (.int (M.1 0 532))) (mw σ a M) := by
  refine zM.of oM_count (by decide +kernel) rfl rfl (fun n => ?_)
  refine zj_iload_n 0 rfl rfl rfl ?_
  refine zj_i2l 1 rfl rfl ?_
  refine zj_lconst 2 (0) rfl rfl (by decide) ?_
  refine zj_ldc2 3 (3) rfl rfl (by decide) ?_
  refine zj_csx 4 rfl rfl lk_8_51 ckM_in (k_in0 _ _ 4 (by decide)) rfl rfl rfl rfl ?_
  refine zj_if_eq 5 rfl rfl (fun c9 => ?_) (fun c9 => ?_)
  · exact absurd (zr_of (n := 4) (by omega) (by decide)) (zo_0.mp c9)
  · refine zj_aload_n 6 rfl rfl rfl ?_
    refine zj_iload_n 7 rfl rfl rfl ?_
    refine zj_cvx 8 rfl rfl lk_8_277 ckM_countOf k_countOf0 rfl mw_0 rfl rfl rfl ?_
    refine zj_goto 9 rfl rfl ?_
    refine zj_ireturn 11 rfl rfl rfl ?_
    exact ⟨rfl, rfl, rfl⟩
theorem k_countOf1  : zM E YM_countOf 1 [.ref a, .int (nI 1)] (mw σ a M) (some (.int (M.1 0 549))) (mw σ a M) := by
  refine zM.of oM_countOf (by decide +kernel) rfl rfl (fun n => ?_)
  refine zj_iload_n 0 rfl rfl rfl ?_
  refine zj_if_ne 1 rfl rfl (fun c1 => ?_) (fun c1 => ?_)
  · refine zj_iload_n 7 rfl rfl rfl ?_
    refine zj_iconst 8 (1) rfl rfl (by decide) ?_
    refine zn_icmp_ne 9 (1) (1) rfl rfl rfl rfl (by omega) (by omega) (fun c17 => ?_) (fun c17 => ?_)
    · exact absurd c17 (by decide)
    · refine zj_aload_n 10 rfl rfl rfl ?_
      refine zj_get 11 rfl rfl mw_0 rfl ?_
      refine zj_sipush 12 (549) rfl rfl (by decide) ?_
      refine zn_iald 13 (549) rfl rfl mw_1 rfl (by omega) (by decide) ?_
      refine zj_goto 14 rfl rfl ?_
      refine zj_ireturn 27 rfl rfl rfl ?_
      exact ⟨rfl, rfl, rfl⟩
  · exact absurd c1 (by decide)
theorem k_Mcount1  : zM E YM_count 2 [.ref a, .int (nI 1)] (mw σ a M) (some (.int (M.1 0 549))) (mw σ a M) := by
  refine zM.of oM_count (by decide +kernel) rfl rfl (fun n => ?_)
  refine zj_iload_n 0 rfl rfl rfl ?_
  refine zj_i2l 1 rfl rfl ?_
  refine zj_lconst 2 (0) rfl rfl (by decide) ?_
  refine zj_ldc2 3 (3) rfl rfl (by decide) ?_
  refine zj_csx 4 rfl rfl lk_8_51 ckM_in (k_in0 _ _ 4 (by decide)) rfl rfl rfl rfl ?_
  refine zj_if_eq 5 rfl rfl (fun c9 => ?_) (fun c9 => ?_)
  · exact absurd (zr_of (n := 4) (by omega) (by decide)) (zo_0.mp c9)
  · refine zj_aload_n 6 rfl rfl rfl ?_
    refine zj_iload_n 7 rfl rfl rfl ?_
    refine zj_cvx 8 rfl rfl lk_8_277 ckM_countOf k_countOf1 rfl mw_0 rfl rfl rfl ?_
    refine zj_goto 9 rfl rfl ?_
    refine zj_ireturn 11 rfl rfl rfl ?_
    exact ⟨rfl, rfl, rfl⟩
theorem k_countOf2  : zM E YM_countOf 1 [.ref a, .int (nI 2)] (mw σ a M) (some (.int (M.1 0 598))) (mw σ a M) := by
  refine zM.of oM_countOf (by decide +kernel) rfl rfl (fun n => ?_)
  refine zj_iload_n 0 rfl rfl rfl ?_
  refine zj_if_ne 1 rfl rfl (fun c1 => ?_) (fun c1 => ?_)
  · refine zj_iload_n 7 rfl rfl rfl ?_
    refine zj_iconst 8 (1) rfl rfl (by decide) ?_
    refine zn_icmp_ne 9 (2) (1) rfl rfl rfl rfl (by omega) (by omega) (fun c17 => ?_) (fun c17 => ?_)
    · refine zj_iload_n 15 rfl rfl rfl ?_
      refine zj_iconst 16 (2) rfl rfl (by decide) ?_
      refine zn_icmp_ne 17 (2) (2) rfl rfl rfl rfl (by omega) (by omega) (fun c33 => ?_) (fun c33 => ?_)
      · exact absurd c33 (by decide)
      · refine zj_aload_n 18 rfl rfl rfl ?_
        refine zj_get 19 rfl rfl mw_0 rfl ?_
        refine zj_sipush 20 (598) rfl rfl (by decide) ?_
        refine zn_iald 21 (598) rfl rfl mw_1 rfl (by omega) (by decide) ?_
        refine zj_goto 22 rfl rfl ?_
        refine zj_ireturn 27 rfl rfl rfl ?_
        exact ⟨rfl, rfl, rfl⟩
    · exact absurd c17 (by decide)
  · exact absurd c1 (by decide)
theorem k_Mcount2  : zM E YM_count 2 [.ref a, .int (nI 2)] (mw σ a M) (some (.int (M.1 0 598))) (mw σ a M) := by
  refine zM.of oM_count (by decide +kernel) rfl rfl (fun n => ?_)
  refine zj_iload_n 0 rfl rfl rfl ?_
  refine zj_i2l 1 rfl rfl ?_
  refine zj_lconst 2 (0) rfl rfl (by decide) ?_
  refine zj_ldc2 3 (3) rfl rfl (by decide) ?_
  refine zj_csx 4 rfl rfl lk_8_51 ckM_in (k_in0 _ _ 4 (by decide)) rfl rfl rfl rfl ?_
  refine zj_if_eq 5 rfl rfl (fun c9 => ?_) (fun c9 => ?_)
  · exact absurd (zr_of (n := 4) (by omega) (by decide)) (zo_0.mp c9)
  · refine zj_aload_n 6 rfl rfl rfl ?_
    refine zj_iload_n 7 rfl rfl rfl ?_
    refine zj_cvx 8 rfl rfl lk_8_277 ckM_countOf k_countOf2 rfl mw_0 rfl rfl rfl ?_
    refine zj_goto 9 rfl rfl ?_
    refine zj_ireturn 11 rfl rfl rfl ?_
    exact ⟨rfl, rfl, rfl⟩
theorem k_countOf3  : zM E YM_countOf 1 [.ref a, .int (nI 3)] (mw σ a M) (some (.int (M.1 0 780))) (mw σ a M) := by
  refine zM.of oM_countOf (by decide +kernel) rfl rfl (fun n => ?_)
  refine zj_iload_n 0 rfl rfl rfl ?_
  refine zj_if_ne 1 rfl rfl (fun c1 => ?_) (fun c1 => ?_)
  · refine zj_iload_n 7 rfl rfl rfl ?_
    refine zj_iconst 8 (1) rfl rfl (by decide) ?_
    refine zn_icmp_ne 9 (3) (1) rfl rfl rfl rfl (by omega) (by omega) (fun c17 => ?_) (fun c17 => ?_)
    · refine zj_iload_n 15 rfl rfl rfl ?_
      refine zj_iconst 16 (2) rfl rfl (by decide) ?_
      refine zn_icmp_ne 17 (3) (2) rfl rfl rfl rfl (by omega) (by omega) (fun c33 => ?_) (fun c33 => ?_)
      · refine zj_aload_n 23 rfl rfl rfl ?_
        refine zj_get 24 rfl rfl mw_0 rfl ?_
        refine zj_sipush 25 (780) rfl rfl (by decide) ?_
        refine zn_iald 26 (780) rfl rfl mw_1 rfl (by omega) (by decide) ?_
        refine zj_ireturn 27 rfl rfl rfl ?_
        exact ⟨rfl, rfl, rfl⟩
      · exact absurd c33 (by decide)
    · exact absurd c17 (by decide)
  · exact absurd c1 (by decide)
theorem k_Mcount3  : zM E YM_count 2 [.ref a, .int (nI 3)] (mw σ a M) (some (.int (M.1 0 780))) (mw σ a M) := by
  refine zM.of oM_count (by decide +kernel) rfl rfl (fun n => ?_)
  refine zj_iload_n 0 rfl rfl rfl ?_
  refine zj_i2l 1 rfl rfl ?_
  refine zj_lconst 2 (0) rfl rfl (by decide) ?_
  refine zj_ldc2 3 (3) rfl rfl (by decide) ?_
  refine zj_csx 4 rfl rfl lk_8_51 ckM_in (k_in0 _ _ 4 (by decide)) rfl rfl rfl rfl ?_
  refine zj_if_eq 5 rfl rfl (fun c9 => ?_) (fun c9 => ?_)
  · exact absurd (zr_of (n := 4) (by omega) (by decide)) (zo_0.mp c9)
  · refine zj_aload_n 6 rfl rfl rfl ?_
    refine zj_iload_n 7 rfl rfl rfl ?_
    refine zj_cvx 8 rfl rfl lk_8_277 ckM_countOf k_countOf3 rfl mw_0 rfl rfl rfl ?_
    refine zj_goto 9 rfl rfl ?_
    refine zj_ireturn 11 rfl rfl rfl ?_
    exact ⟨rfl, rfl, rfl⟩
theorem k_Mcount_bad (x : Int32) (hb : ¬ zr x 4) : zM E YM_count 2 [.ref a, .int x] (mw σ a M) (some (.int (-2))) (mw σ a M) := by
  refine zM.of oM_count (by decide +kernel) rfl rfl (fun n => ?_)
  refine zj_iload_n 0 rfl rfl rfl ?_
  refine zj_i2l 1 rfl rfl ?_
  refine zj_lconst 2 (0) rfl rfl (by decide) ?_
  refine zj_ldc2 3 (3) rfl rfl (by decide) ?_
  refine zj_csx 4 rfl rfl lk_8_51 ckM_in (k_in0 _ _ 4 (by decide)) rfl rfl rfl rfl ?_
  refine zj_if_eq 5 rfl rfl (fun c9 => ?_) (fun c9 => ?_)
  · refine zj_bipush 10 (-2) rfl rfl (by decide) ?_
    refine zj_ireturn 11 rfl rfl rfl ?_
    exact ⟨rfl, rfl, rfl⟩
  · exact absurd (zo_n0.mp c9) hb
theorem k_tell (v : Int64) : zM E YM_tell 1 [.ref a, .long v] (mw σ a M) (none) (mw σ a (M.sL 2 (31 * M.2.2.2 2 + v))) := by
  refine zM.of oM_tell (by decide +kernel) rfl rfl (fun n => ?_)
  refine zj_aload_n 0 rfl rfl rfl ?_
  refine zj_ldc2 1 (31) rfl rfl (by decide) ?_
  refine zj_aload_n 2 rfl rfl rfl ?_
  refine zj_get 3 rfl rfl mw_0 rfl ?_
  refine zj_lmul 4 rfl rfl ?_
  refine zj_lload_n 5 rfl rfl rfl ?_
  refine zj_ladd 6 rfl rfl ?_
  refine zn_put 7 rfl rfl mw_0 rfl rfl rfl rfl mw_p_hash ?_
  refine zj_return 8 rfl rfl rfl ?_
  exact ⟨rfl, rfl, rfl⟩
theorem l_tellRow (b mm : Nat) (hb : b + mm ≤ 818) (h0 : Int64) : ∀ (m : Nat) (k : Nat), (k + m = mm) → ∀ n, zB E YM_tellRow 2 n (none) (mw σ a (M.sL 2 (pTR (fun j => M.1 0 (b + j)) h0 mm))) (mw σ a (M.sL 2 (pTR (fun j => M.1 0 (b + j)) h0 k))) 2 [some (.ref a), some (.int (nI b)), some (.int (nI mm)), some (.int (nI k))] [] := by
  intro m
  induction m using Nat.strongRecOn with
  | ind m ih =>
  intro k hk n
  refine zj_iload_n 2 rfl rfl rfl ?_
  refine zj_iload_n 3 rfl rfl rfl ?_
  refine zn_icmp_ge 4 (k) (mm) rfl rfl rfl rfl (by omega) (by omega) (fun c4 => ?_) (fun c4 => ?_)
  · refine zj_return 16 rfl rfl rfl ?_
    obtain rfl : k = mm := by omega
    exact ⟨rfl, rfl, rfl⟩
  · refine zj_aload_n 5 rfl rfl rfl ?_
    refine zj_aload_n 6 rfl rfl rfl ?_
    refine zj_get 7 rfl rfl mw_0 rfl ?_
    refine zj_iload_n 8 rfl rfl rfl ?_
    refine zj_iload_n 9 rfl rfl rfl ?_
    refine zn_iadd 10 (b) (k) rfl rfl rfl rfl ?_
    refine zn_iald 11 (b + k) rfl rfl mw_1 rfl (by omega) (by decide) ?_
    refine zj_i2l 12 rfl rfl ?_
    refine zj_cvv 13 rfl rfl lk_8_285 ckM_tell (k_tell _) rfl mw_0 rfl rfl rfl ?_
    refine zn_iinc 14 (k) rfl rfl rfl rfl ?_
    refine zj_goto 15 rfl rfl ?_
    rw [sL_sL]
    exact ih (m - 1) (by omega) (k + 1) (by omega) n
theorem k_tellRow (b mm : Nat) (hb : b + mm ≤ 818) (h0 : Int64) : zM E YM_tellRow 2 [.ref a, .int (nI b), .int (nI mm)] (mw σ a (M.sL 2 h0)) (none) (mw σ a (M.sL 2 (pTR (fun j => M.1 0 (b + j)) h0 mm))) := by
  refine zM.of oM_tellRow (by decide +kernel) rfl rfl (fun n => ?_)
  refine zj_iconst 0 (0) rfl rfl (by decide) ?_
  refine zj_istore_n 1 rfl rfl ?_
  exact l_tellRow b mm hb h0 mm 0 (by omega) n
end
