/-! the component: a law worked -/
section
variable {lt : Nat → Int64} {rest : List (Int32 × Int64)} {st : List Int64} {v : Int64}
theorem evC_u {j : Nat} (hj : j ≤ 5) : evC lt ((nI j, v) :: rest) st = evC lt rest (lt j :: st) := by
  have h1 : nI j < 7 := (nI_ltI (b := 7) (by omega) (by omega)).mpr (by omega)
  have h2 : nI j < 6 := (nI_ltI (b := 6) (by omega) (by omega)).mpr (by omega)
  simp only [evC]
  rw [if_pos h1, if_pos h2, nI_clamp (by omega)]
theorem evC_num : evC lt ((nI 6, v) :: rest) st = evC lt rest (v :: st) := by
  simp only [evC]
  rw [if_pos (by decide), if_neg (by decide)]
theorem evC_j {j : Nat} (h1 : 11 ≤ j) (h2 : j ≤ 19) : evC lt ((nI j, v) :: rest) st = match st with
    | y :: x :: st' => evC lt rest (pWk j x y :: st')
    | _ => none := by
  have e1 : ¬ nI j < 7 := fun g => absurd ((nI_ltI (b := 7) (by omega) (by omega)).mp g) (by omega)
  have e2 : ¬ (20 : Int32) ≤ nI j := fun g => absurd ((nI_leI (a := 20) (by omega) (by omega)).mp g) (by omega)
  simp only [evC]
  rw [if_neg e1, if_neg e2, nI_clamp (by omega)]
  cases st with
  | nil => rfl
  | cons y t => cases t <;> rfl
theorem evC_t0 : evC lt ((nI 20, v) :: rest) st = match st with
    | x :: st' => evC lt rest ((if x = 0 then 1 else 0) :: st')
    | [] => none := by
  simp only [evC]
  rw [if_neg (by decide), if_pos (by decide)]
  cases st with
  | nil => rfl
  | cons x st' => dsimp only; rw [if_neg (by decide)]
theorem evC_t1 : evC lt ((nI 21, v) :: rest) st = match st with
    | x :: st' => evC lt rest (-x :: st')
    | [] => none := by
  simp only [evC]
  rw [if_neg (by decide), if_pos (by decide)]
  cases st with
  | nil => rfl
  | cons x st' => dsimp only; rw [if_pos (by decide)]
end
theorem cst_u : ∀ j, j ≤ 5 → ∀ v, cst (nI j, v) = -(nI (j + 1)) := by
  intro j hj v
  match j, hj with
  | 0, _ => rfl
  | 1, _ => rfl
  | 2, _ => rfl
  | 3, _ => rfl
  | 4, _ => rfl
  | 5, _ => rfl
  | j + 6, h => omega
theorem cst_j : ∀ j, 11 ≤ j → j ≤ 19 → ∀ v, cst (nI j, v) = -(nI j) := by
  intro j h1 h2 v
  rcases (by omega : j = 11 ∨ j = 12 ∨ j = 13 ∨ j = 14 ∨ j = 15 ∨ j = 16 ∨ j = 17 ∨ j = 18 ∨ j = 19) with rfl | rfl | rfl | rfl | rfl | rfl | rfl | rfl | rfl <;> rfl
/-- codes that the component's steps can stand for -/
def cCode (p : Int32 × Int64) : Prop := ∃ j : Nat, p.1 = nI j ∧ (j ≤ 5 ∨ (j = 6 ∧ ∃ k : Nat, k < 2 ^ 31 ∧ p.2 = (nI k).toInt64) ∨ (11 ≤ j ∧ j ≤ 21))
section
variable {E : zE} {σ : zH} {a b : Nat} {M N : zMo}
theorem w_unit0X (n0 : Nat) (hn : n0 < 40) (i n : Nat) (f : Nat → Int64) (res : Option Value) (τ : zH → Prop) (kk : zXB E YEy_work 2 n res τ (zke σ a (M.sB 1 (va_up f n0 (M.2.1 0 1)))) 139 [some (.ref a), some (.ref b), some (.int (nI (n0 + 1))), some (.int (nI i)), some (.int (-(nI 1)))] []) : zXB E YEy_work 2 n res τ (zke σ a (M.sB 1 f)) 26 [some (.ref a), some (.ref b), some (.int (nI (n0))), some (.int (nI i)), some (.int (-(nI 1)))] [] := by
  refine zj_iload 16 rfl rfl rfl ?_
  refine zj_bipush 17 (-11) rfl rfl (by decide) ?_
  refine zj_icmp_le 18 rfl rfl (fun c30 => ?_) (fun c30 => ?_)
  · exact absurd c30 (by decide)
  · refine zj_iload_n 19 rfl rfl rfl ?_
    refine zj_bipush 20 (40) rfl rfl (by decide) ?_
    refine zn_icmp_ge 21 (n0) (40) rfl rfl rfl rfl (by omega) (by omega) (fun c36 => ?_) (fun c36 => ?_)
    · exact absurd c36 (by omega)
    · refine zj_aload_n 22 rfl rfl rfl ?_
      refine zj_get 23 rfl rfl zke_0 rfl ?_
      refine zj_iload_n 24 rfl rfl rfl ?_
      refine zj_iload 25 rfl rfl rfl ?_
      refine zj_if_lt 26 rfl rfl (fun c46 => ?_) (fun c46 => ?_)
      · refine zj_aload_n 30 rfl rfl rfl ?_
        refine zj_iload 31 rfl rfl rfl ?_
        refine zj_ineg 32 rfl rfl ?_
        rw [show -(-(nI 1)) = nI 1 by decide]
        refine zj_cvx 33 rfl rfl lk_1_82 ckEy_unitAt (k_unitAt zke_at 1 (by decide)) rfl zke_0 rfl rfl rfl ?_
        refine zn_last 34 (n0) rfl rfl zke_6 rfl (by omega) (by decide) zke_u6 ?_
        refine zn_iinc 35 (n0) rfl rfl rfl rfl ?_
        refine zj_goto 36 rfl rfl ?_
        simp only [sB_sB]
        exact kk
      · exact absurd (by decide) c46
theorem w_unit1X (n0 : Nat) (hn : n0 < 40) (i n : Nat) (f : Nat → Int64) (res : Option Value) (τ : zH → Prop) (kk : zXB E YEy_work 2 n res τ (zke σ a (M.sB 1 (va_up f n0 (M.2.1 0 2)))) 139 [some (.ref a), some (.ref b), some (.int (nI (n0 + 1))), some (.int (nI i)), some (.int (-(nI 2)))] []) : zXB E YEy_work 2 n res τ (zke σ a (M.sB 1 f)) 26 [some (.ref a), some (.ref b), some (.int (nI (n0))), some (.int (nI i)), some (.int (-(nI 2)))] [] := by
  refine zj_iload 16 rfl rfl rfl ?_
  refine zj_bipush 17 (-11) rfl rfl (by decide) ?_
  refine zj_icmp_le 18 rfl rfl (fun c30 => ?_) (fun c30 => ?_)
  · exact absurd c30 (by decide)
  · refine zj_iload_n 19 rfl rfl rfl ?_
    refine zj_bipush 20 (40) rfl rfl (by decide) ?_
    refine zn_icmp_ge 21 (n0) (40) rfl rfl rfl rfl (by omega) (by omega) (fun c36 => ?_) (fun c36 => ?_)
    · exact absurd c36 (by omega)
    · refine zj_aload_n 22 rfl rfl rfl ?_
      refine zj_get 23 rfl rfl zke_0 rfl ?_
      refine zj_iload_n 24 rfl rfl rfl ?_
      refine zj_iload 25 rfl rfl rfl ?_
      refine zj_if_lt 26 rfl rfl (fun c46 => ?_) (fun c46 => ?_)
      · refine zj_aload_n 30 rfl rfl rfl ?_
        refine zj_iload 31 rfl rfl rfl ?_
        refine zj_ineg 32 rfl rfl ?_
        rw [show -(-(nI 2)) = nI 2 by decide]
        refine zj_cvx 33 rfl rfl lk_1_82 ckEy_unitAt (k_unitAt zke_at 2 (by decide)) rfl zke_0 rfl rfl rfl ?_
        refine zn_last 34 (n0) rfl rfl zke_6 rfl (by omega) (by decide) zke_u6 ?_
        refine zn_iinc 35 (n0) rfl rfl rfl rfl ?_
        refine zj_goto 36 rfl rfl ?_
        simp only [sB_sB]
        exact kk
      · exact absurd (by decide) c46
theorem w_unit2X (n0 : Nat) (hn : n0 < 40) (i n : Nat) (f : Nat → Int64) (res : Option Value) (τ : zH → Prop) (kk : zXB E YEy_work 2 n res τ (zke σ a (M.sB 1 (va_up f n0 (M.2.1 0 3)))) 139 [some (.ref a), some (.ref b), some (.int (nI (n0 + 1))), some (.int (nI i)), some (.int (-(nI 3)))] []) : zXB E YEy_work 2 n res τ (zke σ a (M.sB 1 f)) 26 [some (.ref a), some (.ref b), some (.int (nI (n0))), some (.int (nI i)), some (.int (-(nI 3)))] [] := by
  refine zj_iload 16 rfl rfl rfl ?_
  refine zj_bipush 17 (-11) rfl rfl (by decide) ?_
  refine zj_icmp_le 18 rfl rfl (fun c30 => ?_) (fun c30 => ?_)
  · exact absurd c30 (by decide)
  · refine zj_iload_n 19 rfl rfl rfl ?_
    refine zj_bipush 20 (40) rfl rfl (by decide) ?_
    refine zn_icmp_ge 21 (n0) (40) rfl rfl rfl rfl (by omega) (by omega) (fun c36 => ?_) (fun c36 => ?_)
    · exact absurd c36 (by omega)
    · refine zj_aload_n 22 rfl rfl rfl ?_
      refine zj_get 23 rfl rfl zke_0 rfl ?_
      refine zj_iload_n 24 rfl rfl rfl ?_
      refine zj_iload 25 rfl rfl rfl ?_
      refine zj_if_lt 26 rfl rfl (fun c46 => ?_) (fun c46 => ?_)
      · refine zj_aload_n 30 rfl rfl rfl ?_
        refine zj_iload 31 rfl rfl rfl ?_
        refine zj_ineg 32 rfl rfl ?_
        rw [show -(-(nI 3)) = nI 3 by decide]
        refine zj_cvx 33 rfl rfl lk_1_82 ckEy_unitAt (k_unitAt zke_at 3 (by decide)) rfl zke_0 rfl rfl rfl ?_
        refine zn_last 34 (n0) rfl rfl zke_6 rfl (by omega) (by decide) zke_u6 ?_
        refine zn_iinc 35 (n0) rfl rfl rfl rfl ?_
        refine zj_goto 36 rfl rfl ?_
        simp only [sB_sB]
        exact kk
      · exact absurd (by decide) c46
theorem w_unit3X (n0 : Nat) (hn : n0 < 40) (i n : Nat) (f : Nat → Int64) (res : Option Value) (τ : zH → Prop) (kk : zXB E YEy_work 2 n res τ (zke σ a (M.sB 1 (va_up f n0 (M.2.1 0 4)))) 139 [some (.ref a), some (.ref b), some (.int (nI (n0 + 1))), some (.int (nI i)), some (.int (-(nI 4)))] []) : zXB E YEy_work 2 n res τ (zke σ a (M.sB 1 f)) 26 [some (.ref a), some (.ref b), some (.int (nI (n0))), some (.int (nI i)), some (.int (-(nI 4)))] [] := by
  refine zj_iload 16 rfl rfl rfl ?_
  refine zj_bipush 17 (-11) rfl rfl (by decide) ?_
  refine zj_icmp_le 18 rfl rfl (fun c30 => ?_) (fun c30 => ?_)
  · exact absurd c30 (by decide)
  · refine zj_iload_n 19 rfl rfl rfl ?_
    refine zj_bipush 20 (40) rfl rfl (by decide) ?_
    refine zn_icmp_ge 21 (n0) (40) rfl rfl rfl rfl (by omega) (by omega) (fun c36 => ?_) (fun c36 => ?_)
    · exact absurd c36 (by omega)
    · refine zj_aload_n 22 rfl rfl rfl ?_
      refine zj_get 23 rfl rfl zke_0 rfl ?_
      refine zj_iload_n 24 rfl rfl rfl ?_
      refine zj_iload 25 rfl rfl rfl ?_
      refine zj_if_lt 26 rfl rfl (fun c46 => ?_) (fun c46 => ?_)
      · refine zj_aload_n 30 rfl rfl rfl ?_
        refine zj_iload 31 rfl rfl rfl ?_
        refine zj_ineg 32 rfl rfl ?_
        rw [show -(-(nI 4)) = nI 4 by decide]
        refine zj_cvx 33 rfl rfl lk_1_82 ckEy_unitAt (k_unitAt zke_at 4 (by decide)) rfl zke_0 rfl rfl rfl ?_
        refine zn_last 34 (n0) rfl rfl zke_6 rfl (by omega) (by decide) zke_u6 ?_
        refine zn_iinc 35 (n0) rfl rfl rfl rfl ?_
        refine zj_goto 36 rfl rfl ?_
        simp only [sB_sB]
        exact kk
      · exact absurd (by decide) c46
theorem w_unit4X (n0 : Nat) (hn : n0 < 40) (i n : Nat) (f : Nat → Int64) (res : Option Value) (τ : zH → Prop) (kk : zXB E YEy_work 2 n res τ (zke σ a (M.sB 1 (va_up f n0 (M.2.1 0 5)))) 139 [some (.ref a), some (.ref b), some (.int (nI (n0 + 1))), some (.int (nI i)), some (.int (-(nI 5)))] []) : zXB E YEy_work 2 n res τ (zke σ a (M.sB 1 f)) 26 [some (.ref a), some (.ref b), some (.int (nI (n0))), some (.int (nI i)), some (.int (-(nI 5)))] [] := by
  refine zj_iload 16 rfl rfl rfl ?_
  refine zj_bipush 17 (-11) rfl rfl (by decide) ?_
  refine zj_icmp_le 18 rfl rfl (fun c30 => ?_) (fun c30 => ?_)
  · exact absurd c30 (by decide)
  · refine zj_iload_n 19 rfl rfl rfl ?_
    refine zj_bipush 20 (40) rfl rfl (by decide) ?_
    refine zn_icmp_ge 21 (n0) (40) rfl rfl rfl rfl (by omega) (by omega) (fun c36 => ?_) (fun c36 => ?_)
    · exact absurd c36 (by omega)
    · refine zj_aload_n 22 rfl rfl rfl ?_
      refine zj_get 23 rfl rfl zke_0 rfl ?_
      refine zj_iload_n 24 rfl rfl rfl ?_
      refine zj_iload 25 rfl rfl rfl ?_
      refine zj_if_lt 26 rfl rfl (fun c46 => ?_) (fun c46 => ?_)
      · refine zj_aload_n 30 rfl rfl rfl ?_
        refine zj_iload 31 rfl rfl rfl ?_
        refine zj_ineg 32 rfl rfl ?_
        rw [show -(-(nI 5)) = nI 5 by decide]
        refine zj_cvx 33 rfl rfl lk_1_82 ckEy_unitAt (k_unitAt zke_at 5 (by decide)) rfl zke_0 rfl rfl rfl ?_
        refine zn_last 34 (n0) rfl rfl zke_6 rfl (by omega) (by decide) zke_u6 ?_
        refine zn_iinc 35 (n0) rfl rfl rfl rfl ?_
        refine zj_goto 36 rfl rfl ?_
        simp only [sB_sB]
        exact kk
      · exact absurd (by decide) c46
theorem w_unit5X (n0 : Nat) (hn : n0 < 40) (i n : Nat) (f : Nat → Int64) (res : Option Value) (τ : zH → Prop) (kk : zXB E YEy_work 2 n res τ (zke σ a (M.sB 1 (va_up f n0 (M.2.1 0 6)))) 139 [some (.ref a), some (.ref b), some (.int (nI (n0 + 1))), some (.int (nI i)), some (.int (-(nI 6)))] []) : zXB E YEy_work 2 n res τ (zke σ a (M.sB 1 f)) 26 [some (.ref a), some (.ref b), some (.int (nI (n0))), some (.int (nI i)), some (.int (-(nI 6)))] [] := by
  refine zj_iload 16 rfl rfl rfl ?_
  refine zj_bipush 17 (-11) rfl rfl (by decide) ?_
  refine zj_icmp_le 18 rfl rfl (fun c30 => ?_) (fun c30 => ?_)
  · exact absurd c30 (by decide)
  · refine zj_iload_n 19 rfl rfl rfl ?_
    refine zj_bipush 20 (40) rfl rfl (by decide) ?_
    refine zn_icmp_ge 21 (n0) (40) rfl rfl rfl rfl (by omega) (by omega) (fun c36 => ?_) (fun c36 => ?_)
    · exact absurd c36 (by omega)
    · refine zj_aload_n 22 rfl rfl rfl ?_
      refine zj_get 23 rfl rfl zke_0 rfl ?_
      refine zj_iload_n 24 rfl rfl rfl ?_
      refine zj_iload 25 rfl rfl rfl ?_
      refine zj_if_lt 26 rfl rfl (fun c46 => ?_) (fun c46 => ?_)
      · refine zj_aload_n 30 rfl rfl rfl ?_
        refine zj_iload 31 rfl rfl rfl ?_
        refine zj_ineg 32 rfl rfl ?_
        rw [show -(-(nI 6)) = nI 6 by decide]
        refine zj_cvx 33 rfl rfl lk_1_82 ckEy_unitAt (k_unitAt zke_at 6 (by decide)) rfl zke_0 rfl rfl rfl ?_
        refine zn_last 34 (n0) rfl rfl zke_6 rfl (by omega) (by decide) zke_u6 ?_
        refine zn_iinc 35 (n0) rfl rfl rfl rfl ?_
        refine zj_goto 36 rfl rfl ?_
        simp only [sB_sB]
        exact kk
      · exact absurd (by decide) c46
theorem w_numX (n0 k0 : Nat) (hn : n0 < 40) (hk0 : k0 < 2 ^ 31) (i n : Nat) (f : Nat → Int64) (res : Option Value) (τ : zH → Prop) (kk : zXB E YEy_work 2 n res τ (zke σ a (M.sB 1 (va_up f n0 (nI k0).toInt64))) 139 [some (.ref a), some (.ref b), some (.int (nI (n0 + 1))), some (.int (nI i)), some (.int (nI k0))] []) : zXB E YEy_work 2 n res τ (zke σ a (M.sB 1 f)) 26 [some (.ref a), some (.ref b), some (.int (nI (n0))), some (.int (nI i)), some (.int (nI k0))] [] := by
  refine zj_iload 16 rfl rfl rfl ?_
  refine zj_bipush 17 (-11) rfl rfl (by decide) ?_
  refine zj_icmp_le 18 rfl rfl (fun c30 => ?_) (fun c30 => ?_)
  · exact absurd (Int32.lt_of_le_of_lt c30 (by decide)) (nI_pos hk0)
  · refine zj_iload_n 19 rfl rfl rfl ?_
    refine zj_bipush 20 (40) rfl rfl (by decide) ?_
    refine zn_icmp_ge 21 (n0) (40) rfl rfl rfl rfl (by omega) (by omega) (fun c36 => ?_) (fun c36 => ?_)
    · exact absurd c36 (by omega)
    · refine zj_aload_n 22 rfl rfl rfl ?_
      refine zj_get 23 rfl rfl zke_0 rfl ?_
      refine zj_iload_n 24 rfl rfl rfl ?_
      refine zj_iload 25 rfl rfl rfl ?_
      refine zj_if_lt 26 rfl rfl (fun c46 => ?_) (fun c46 => ?_)
      · exact absurd c46 (nI_pos hk0)
      · refine zj_iload 27 rfl rfl rfl ?_
        refine zj_i2l 28 rfl rfl ?_
        refine zj_goto 29 rfl rfl ?_
        refine zn_last 34 (n0) rfl rfl zke_6 rfl (by omega) (by decide) zke_u6 ?_
        refine zn_iinc 35 (n0) rfl rfl rfl rfl ?_
        refine zj_goto 36 rfl rfl ?_
        simp only [sB_sB]
        exact kk
theorem w_join11X (n0 : Nat) (hn : n0 + 2 ≤ 40) (i n : Nat) (f : Nat → Int64) (res : Option Value) (τ : zH → Prop) (kk : zXB E YEy_work 2 n res τ (zke σ a (M.sB 1 (va_up f n0 (pWk 11 (f n0) (f (n0 + 1)))))) 139 [some (.ref a), some (.ref b), some (.int (nI (n0 + 1))), some (.int (nI i)), some (.int (-(nI 11)))] []) : zXB E YEy_work 2 n res τ (zke σ a (M.sB 1 f)) 26 [some (.ref a), some (.ref b), some (.int (nI (n0 + 2))), some (.int (nI i)), some (.int (-(nI 11)))] [] := by
  refine zj_iload 16 rfl rfl rfl ?_
  refine zj_bipush 17 (-11) rfl rfl (by decide) ?_
  refine zj_icmp_le 18 rfl rfl (fun c30 => ?_) (fun c30 => ?_)
  · refine zj_iload 37 rfl rfl rfl ?_
    refine zj_bipush 38 (-21) rfl rfl (by decide) ?_
    refine zj_icmp_le 39 rfl rfl (fun c73 => ?_) (fun c73 => ?_)
    · exact absurd c73 (by decide)
    · refine zj_iload_n 40 rfl rfl rfl ?_
      refine zj_iconst 41 (1) rfl rfl (by decide) ?_
      refine zn_icmp_le 42 (n0 + 2) (1) rfl rfl rfl rfl (by omega) (by omega) (fun c78 => ?_) (fun c78 => ?_)
      · exact absurd c78 (by omega)
      · refine zj_iinc 43 (-1) rfl rfl rfl (by decide) ?_
        rw [show nI (n0 + 2) + (-1) = nI (n0 + 1) from pk_m1 (n0 + 1)]
        refine zj_aload_n 44 rfl rfl rfl ?_
        refine zj_get 45 rfl rfl zke_0 rfl ?_
        refine zj_iload_n 46 rfl rfl rfl ?_
        refine zj_iconst 47 (1) rfl rfl (by decide) ?_
        refine zn_isub 48 (n0 + 1) (1) rfl rfl rfl rfl (by omega) ?_
        refine zj_iload 49 rfl rfl rfl ?_
        refine zj_aload_n 50 rfl rfl rfl ?_
        refine zj_get 51 rfl rfl zke_0 rfl ?_
        refine zj_iload_n 52 rfl rfl rfl ?_
        refine zj_iconst 53 (1) rfl rfl (by decide) ?_
        refine zn_isub 54 (n0 + 1) (1) rfl rfl rfl rfl (by omega) ?_
        refine zn_lald 55 ((n0 + 1) - (1)) rfl rfl zke_6 rfl (by omega) (by decide) ?_
        refine zj_aload_n 56 rfl rfl rfl ?_
        refine zj_get 57 rfl rfl zke_0 rfl ?_
        refine zj_iload_n 58 rfl rfl rfl ?_
        refine zn_lald 59 (n0 + 1) rfl rfl zke_6 rfl (by omega) (by decide) ?_
        refine zj_csx 60 rfl rfl lk_1_86 ckSp_joined (k_joined 11 (by decide) (by decide) _ _) rfl rfl rfl rfl ?_
        refine zn_last 61 ((n0 + 1) - (1)) rfl rfl zke_6 rfl (by omega) (by decide) zke_u6 ?_
        refine zj_goto 62 rfl rfl ?_
        simp only [sB_sB]
        exact kk
  · exact absurd (by decide) c30
theorem w_join12X (n0 : Nat) (hn : n0 + 2 ≤ 40) (i n : Nat) (f : Nat → Int64) (res : Option Value) (τ : zH → Prop) (kk : zXB E YEy_work 2 n res τ (zke σ a (M.sB 1 (va_up f n0 (pWk 12 (f n0) (f (n0 + 1)))))) 139 [some (.ref a), some (.ref b), some (.int (nI (n0 + 1))), some (.int (nI i)), some (.int (-(nI 12)))] []) : zXB E YEy_work 2 n res τ (zke σ a (M.sB 1 f)) 26 [some (.ref a), some (.ref b), some (.int (nI (n0 + 2))), some (.int (nI i)), some (.int (-(nI 12)))] [] := by
  refine zj_iload 16 rfl rfl rfl ?_
  refine zj_bipush 17 (-11) rfl rfl (by decide) ?_
  refine zj_icmp_le 18 rfl rfl (fun c30 => ?_) (fun c30 => ?_)
  · refine zj_iload 37 rfl rfl rfl ?_
    refine zj_bipush 38 (-21) rfl rfl (by decide) ?_
    refine zj_icmp_le 39 rfl rfl (fun c73 => ?_) (fun c73 => ?_)
    · exact absurd c73 (by decide)
    · refine zj_iload_n 40 rfl rfl rfl ?_
      refine zj_iconst 41 (1) rfl rfl (by decide) ?_
      refine zn_icmp_le 42 (n0 + 2) (1) rfl rfl rfl rfl (by omega) (by omega) (fun c78 => ?_) (fun c78 => ?_)
      · exact absurd c78 (by omega)
      · refine zj_iinc 43 (-1) rfl rfl rfl (by decide) ?_
        rw [show nI (n0 + 2) + (-1) = nI (n0 + 1) from pk_m1 (n0 + 1)]
        refine zj_aload_n 44 rfl rfl rfl ?_
        refine zj_get 45 rfl rfl zke_0 rfl ?_
        refine zj_iload_n 46 rfl rfl rfl ?_
        refine zj_iconst 47 (1) rfl rfl (by decide) ?_
        refine zn_isub 48 (n0 + 1) (1) rfl rfl rfl rfl (by omega) ?_
        refine zj_iload 49 rfl rfl rfl ?_
        refine zj_aload_n 50 rfl rfl rfl ?_
        refine zj_get 51 rfl rfl zke_0 rfl ?_
        refine zj_iload_n 52 rfl rfl rfl ?_
        refine zj_iconst 53 (1) rfl rfl (by decide) ?_
        refine zn_isub 54 (n0 + 1) (1) rfl rfl rfl rfl (by omega) ?_
        refine zn_lald 55 ((n0 + 1) - (1)) rfl rfl zke_6 rfl (by omega) (by decide) ?_
        refine zj_aload_n 56 rfl rfl rfl ?_
        refine zj_get 57 rfl rfl zke_0 rfl ?_
        refine zj_iload_n 58 rfl rfl rfl ?_
        refine zn_lald 59 (n0 + 1) rfl rfl zke_6 rfl (by omega) (by decide) ?_
        refine zj_csx 60 rfl rfl lk_1_86 ckSp_joined (k_joined 12 (by decide) (by decide) _ _) rfl rfl rfl rfl ?_
        refine zn_last 61 ((n0 + 1) - (1)) rfl rfl zke_6 rfl (by omega) (by decide) zke_u6 ?_
        refine zj_goto 62 rfl rfl ?_
        simp only [sB_sB]
        exact kk
  · exact absurd (by decide) c30
theorem w_join13X (n0 : Nat) (hn : n0 + 2 ≤ 40) (i n : Nat) (f : Nat → Int64) (res : Option Value) (τ : zH → Prop) (kk : zXB E YEy_work 2 n res τ (zke σ a (M.sB 1 (va_up f n0 (pWk 13 (f n0) (f (n0 + 1)))))) 139 [some (.ref a), some (.ref b), some (.int (nI (n0 + 1))), some (.int (nI i)), some (.int (-(nI 13)))] []) : zXB E YEy_work 2 n res τ (zke σ a (M.sB 1 f)) 26 [some (.ref a), some (.ref b), some (.int (nI (n0 + 2))), some (.int (nI i)), some (.int (-(nI 13)))] [] := by
  refine zj_iload 16 rfl rfl rfl ?_
  refine zj_bipush 17 (-11) rfl rfl (by decide) ?_
  refine zj_icmp_le 18 rfl rfl (fun c30 => ?_) (fun c30 => ?_)
  · refine zj_iload 37 rfl rfl rfl ?_
    refine zj_bipush 38 (-21) rfl rfl (by decide) ?_
    refine zj_icmp_le 39 rfl rfl (fun c73 => ?_) (fun c73 => ?_)
    · exact absurd c73 (by decide)
    · refine zj_iload_n 40 rfl rfl rfl ?_
      refine zj_iconst 41 (1) rfl rfl (by decide) ?_
      refine zn_icmp_le 42 (n0 + 2) (1) rfl rfl rfl rfl (by omega) (by omega) (fun c78 => ?_) (fun c78 => ?_)
      · exact absurd c78 (by omega)
      · refine zj_iinc 43 (-1) rfl rfl rfl (by decide) ?_
        rw [show nI (n0 + 2) + (-1) = nI (n0 + 1) from pk_m1 (n0 + 1)]
        refine zj_aload_n 44 rfl rfl rfl ?_
        refine zj_get 45 rfl rfl zke_0 rfl ?_
        refine zj_iload_n 46 rfl rfl rfl ?_
        refine zj_iconst 47 (1) rfl rfl (by decide) ?_
        refine zn_isub 48 (n0 + 1) (1) rfl rfl rfl rfl (by omega) ?_
        refine zj_iload 49 rfl rfl rfl ?_
        refine zj_aload_n 50 rfl rfl rfl ?_
        refine zj_get 51 rfl rfl zke_0 rfl ?_
        refine zj_iload_n 52 rfl rfl rfl ?_
        refine zj_iconst 53 (1) rfl rfl (by decide) ?_
        refine zn_isub 54 (n0 + 1) (1) rfl rfl rfl rfl (by omega) ?_
        refine zn_lald 55 ((n0 + 1) - (1)) rfl rfl zke_6 rfl (by omega) (by decide) ?_
        refine zj_aload_n 56 rfl rfl rfl ?_
        refine zj_get 57 rfl rfl zke_0 rfl ?_
        refine zj_iload_n 58 rfl rfl rfl ?_
        refine zn_lald 59 (n0 + 1) rfl rfl zke_6 rfl (by omega) (by decide) ?_
        refine zj_csx 60 rfl rfl lk_1_86 ckSp_joined (k_joined 13 (by decide) (by decide) _ _) rfl rfl rfl rfl ?_
        refine zn_last 61 ((n0 + 1) - (1)) rfl rfl zke_6 rfl (by omega) (by decide) zke_u6 ?_
        refine zj_goto 62 rfl rfl ?_
        simp only [sB_sB]
        exact kk
  · exact absurd (by decide) c30
theorem w_join14X (n0 : Nat) (hn : n0 + 2 ≤ 40) (i n : Nat) (f : Nat → Int64) (res : Option Value) (τ : zH → Prop) (kk : zXB E YEy_work 2 n res τ (zke σ a (M.sB 1 (va_up f n0 (pWk 14 (f n0) (f (n0 + 1)))))) 139 [some (.ref a), some (.ref b), some (.int (nI (n0 + 1))), some (.int (nI i)), some (.int (-(nI 14)))] []) : zXB E YEy_work 2 n res τ (zke σ a (M.sB 1 f)) 26 [some (.ref a), some (.ref b), some (.int (nI (n0 + 2))), some (.int (nI i)), some (.int (-(nI 14)))] [] := by
  refine zj_iload 16 rfl rfl rfl ?_
  refine zj_bipush 17 (-11) rfl rfl (by decide) ?_
  refine zj_icmp_le 18 rfl rfl (fun c30 => ?_) (fun c30 => ?_)
  · refine zj_iload 37 rfl rfl rfl ?_
    refine zj_bipush 38 (-21) rfl rfl (by decide) ?_
    refine zj_icmp_le 39 rfl rfl (fun c73 => ?_) (fun c73 => ?_)
    · exact absurd c73 (by decide)
    · refine zj_iload_n 40 rfl rfl rfl ?_
      refine zj_iconst 41 (1) rfl rfl (by decide) ?_
      refine zn_icmp_le 42 (n0 + 2) (1) rfl rfl rfl rfl (by omega) (by omega) (fun c78 => ?_) (fun c78 => ?_)
      · exact absurd c78 (by omega)
      · refine zj_iinc 43 (-1) rfl rfl rfl (by decide) ?_
        rw [show nI (n0 + 2) + (-1) = nI (n0 + 1) from pk_m1 (n0 + 1)]
        refine zj_aload_n 44 rfl rfl rfl ?_
        refine zj_get 45 rfl rfl zke_0 rfl ?_
        refine zj_iload_n 46 rfl rfl rfl ?_
        refine zj_iconst 47 (1) rfl rfl (by decide) ?_
        refine zn_isub 48 (n0 + 1) (1) rfl rfl rfl rfl (by omega) ?_
        refine zj_iload 49 rfl rfl rfl ?_
        refine zj_aload_n 50 rfl rfl rfl ?_
        refine zj_get 51 rfl rfl zke_0 rfl ?_
        refine zj_iload_n 52 rfl rfl rfl ?_
        refine zj_iconst 53 (1) rfl rfl (by decide) ?_
        refine zn_isub 54 (n0 + 1) (1) rfl rfl rfl rfl (by omega) ?_
        refine zn_lald 55 ((n0 + 1) - (1)) rfl rfl zke_6 rfl (by omega) (by decide) ?_
        refine zj_aload_n 56 rfl rfl rfl ?_
        refine zj_get 57 rfl rfl zke_0 rfl ?_
        refine zj_iload_n 58 rfl rfl rfl ?_
        refine zn_lald 59 (n0 + 1) rfl rfl zke_6 rfl (by omega) (by decide) ?_
        refine zj_csx 60 rfl rfl lk_1_86 ckSp_joined (k_joined 14 (by decide) (by decide) _ _) rfl rfl rfl rfl ?_
        refine zn_last 61 ((n0 + 1) - (1)) rfl rfl zke_6 rfl (by omega) (by decide) zke_u6 ?_
        refine zj_goto 62 rfl rfl ?_
        simp only [sB_sB]
        exact kk
  · exact absurd (by decide) c30
theorem w_join15X (n0 : Nat) (hn : n0 + 2 ≤ 40) (i n : Nat) (f : Nat → Int64) (res : Option Value) (τ : zH → Prop) (kk : zXB E YEy_work 2 n res τ (zke σ a (M.sB 1 (va_up f n0 (pWk 15 (f n0) (f (n0 + 1)))))) 139 [some (.ref a), some (.ref b), some (.int (nI (n0 + 1))), some (.int (nI i)), some (.int (-(nI 15)))] []) : zXB E YEy_work 2 n res τ (zke σ a (M.sB 1 f)) 26 [some (.ref a), some (.ref b), some (.int (nI (n0 + 2))), some (.int (nI i)), some (.int (-(nI 15)))] [] := by
  refine zj_iload 16 rfl rfl rfl ?_
  refine zj_bipush 17 (-11) rfl rfl (by decide) ?_
  refine zj_icmp_le 18 rfl rfl (fun c30 => ?_) (fun c30 => ?_)
  · refine zj_iload 37 rfl rfl rfl ?_
    refine zj_bipush 38 (-21) rfl rfl (by decide) ?_
    refine zj_icmp_le 39 rfl rfl (fun c73 => ?_) (fun c73 => ?_)
    · exact absurd c73 (by decide)
    · refine zj_iload_n 40 rfl rfl rfl ?_
      refine zj_iconst 41 (1) rfl rfl (by decide) ?_
      refine zn_icmp_le 42 (n0 + 2) (1) rfl rfl rfl rfl (by omega) (by omega) (fun c78 => ?_) (fun c78 => ?_)
      · exact absurd c78 (by omega)
      · refine zj_iinc 43 (-1) rfl rfl rfl (by decide) ?_
        rw [show nI (n0 + 2) + (-1) = nI (n0 + 1) from pk_m1 (n0 + 1)]
        refine zj_aload_n 44 rfl rfl rfl ?_
        refine zj_get 45 rfl rfl zke_0 rfl ?_
        refine zj_iload_n 46 rfl rfl rfl ?_
        refine zj_iconst 47 (1) rfl rfl (by decide) ?_
        refine zn_isub 48 (n0 + 1) (1) rfl rfl rfl rfl (by omega) ?_
        refine zj_iload 49 rfl rfl rfl ?_
        refine zj_aload_n 50 rfl rfl rfl ?_
        refine zj_get 51 rfl rfl zke_0 rfl ?_
        refine zj_iload_n 52 rfl rfl rfl ?_
        refine zj_iconst 53 (1) rfl rfl (by decide) ?_
        refine zn_isub 54 (n0 + 1) (1) rfl rfl rfl rfl (by omega) ?_
        refine zn_lald 55 ((n0 + 1) - (1)) rfl rfl zke_6 rfl (by omega) (by decide) ?_
        refine zj_aload_n 56 rfl rfl rfl ?_
        refine zj_get 57 rfl rfl zke_0 rfl ?_
        refine zj_iload_n 58 rfl rfl rfl ?_
        refine zn_lald 59 (n0 + 1) rfl rfl zke_6 rfl (by omega) (by decide) ?_
        refine zj_csx 60 rfl rfl lk_1_86 ckSp_joined (k_joined 15 (by decide) (by decide) _ _) rfl rfl rfl rfl ?_
        refine zn_last 61 ((n0 + 1) - (1)) rfl rfl zke_6 rfl (by omega) (by decide) zke_u6 ?_
        refine zj_goto 62 rfl rfl ?_
        simp only [sB_sB]
        exact kk
  · exact absurd (by decide) c30
theorem w_join16X (n0 : Nat) (hn : n0 + 2 ≤ 40) (i n : Nat) (f : Nat → Int64) (res : Option Value) (τ : zH → Prop) (kk : zXB E YEy_work 2 n res τ (zke σ a (M.sB 1 (va_up f n0 (pWk 16 (f n0) (f (n0 + 1)))))) 139 [some (.ref a), some (.ref b), some (.int (nI (n0 + 1))), some (.int (nI i)), some (.int (-(nI 16)))] []) : zXB E YEy_work 2 n res τ (zke σ a (M.sB 1 f)) 26 [some (.ref a), some (.ref b), some (.int (nI (n0 + 2))), some (.int (nI i)), some (.int (-(nI 16)))] [] := by
  refine zj_iload 16 rfl rfl rfl ?_
  refine zj_bipush 17 (-11) rfl rfl (by decide) ?_
  refine zj_icmp_le 18 rfl rfl (fun c30 => ?_) (fun c30 => ?_)
  · refine zj_iload 37 rfl rfl rfl ?_
    refine zj_bipush 38 (-21) rfl rfl (by decide) ?_
    refine zj_icmp_le 39 rfl rfl (fun c73 => ?_) (fun c73 => ?_)
    · exact absurd c73 (by decide)
    · refine zj_iload_n 40 rfl rfl rfl ?_
      refine zj_iconst 41 (1) rfl rfl (by decide) ?_
      refine zn_icmp_le 42 (n0 + 2) (1) rfl rfl rfl rfl (by omega) (by omega) (fun c78 => ?_) (fun c78 => ?_)
      · exact absurd c78 (by omega)
      · refine zj_iinc 43 (-1) rfl rfl rfl (by decide) ?_
        rw [show nI (n0 + 2) + (-1) = nI (n0 + 1) from pk_m1 (n0 + 1)]
        refine zj_aload_n 44 rfl rfl rfl ?_
        refine zj_get 45 rfl rfl zke_0 rfl ?_
        refine zj_iload_n 46 rfl rfl rfl ?_
        refine zj_iconst 47 (1) rfl rfl (by decide) ?_
        refine zn_isub 48 (n0 + 1) (1) rfl rfl rfl rfl (by omega) ?_
        refine zj_iload 49 rfl rfl rfl ?_
        refine zj_aload_n 50 rfl rfl rfl ?_
        refine zj_get 51 rfl rfl zke_0 rfl ?_
        refine zj_iload_n 52 rfl rfl rfl ?_
        refine zj_iconst 53 (1) rfl rfl (by decide) ?_
        refine zn_isub 54 (n0 + 1) (1) rfl rfl rfl rfl (by omega) ?_
        refine zn_lald 55 ((n0 + 1) - (1)) rfl rfl zke_6 rfl (by omega) (by decide) ?_
        refine zj_aload_n 56 rfl rfl rfl ?_
        refine zj_get 57 rfl rfl zke_0 rfl ?_
        refine zj_iload_n 58 rfl rfl rfl ?_
        refine zn_lald 59 (n0 + 1) rfl rfl zke_6 rfl (by omega) (by decide) ?_
        refine zj_csx 60 rfl rfl lk_1_86 ckSp_joined (k_joined 16 (by decide) (by decide) _ _) rfl rfl rfl rfl ?_
        refine zn_last 61 ((n0 + 1) - (1)) rfl rfl zke_6 rfl (by omega) (by decide) zke_u6 ?_
        refine zj_goto 62 rfl rfl ?_
        simp only [sB_sB]
        exact kk
  · exact absurd (by decide) c30
theorem w_join17X (n0 : Nat) (hn : n0 + 2 ≤ 40) (i n : Nat) (f : Nat → Int64) (res : Option Value) (τ : zH → Prop) (kk : zXB E YEy_work 2 n res τ (zke σ a (M.sB 1 (va_up f n0 (pWk 17 (f n0) (f (n0 + 1)))))) 139 [some (.ref a), some (.ref b), some (.int (nI (n0 + 1))), some (.int (nI i)), some (.int (-(nI 17)))] []) : zXB E YEy_work 2 n res τ (zke σ a (M.sB 1 f)) 26 [some (.ref a), some (.ref b), some (.int (nI (n0 + 2))), some (.int (nI i)), some (.int (-(nI 17)))] [] := by
  refine zj_iload 16 rfl rfl rfl ?_
  refine zj_bipush 17 (-11) rfl rfl (by decide) ?_
  refine zj_icmp_le 18 rfl rfl (fun c30 => ?_) (fun c30 => ?_)
  · refine zj_iload 37 rfl rfl rfl ?_
    refine zj_bipush 38 (-21) rfl rfl (by decide) ?_
    refine zj_icmp_le 39 rfl rfl (fun c73 => ?_) (fun c73 => ?_)
    · exact absurd c73 (by decide)
    · refine zj_iload_n 40 rfl rfl rfl ?_
      refine zj_iconst 41 (1) rfl rfl (by decide) ?_
      refine zn_icmp_le 42 (n0 + 2) (1) rfl rfl rfl rfl (by omega) (by omega) (fun c78 => ?_) (fun c78 => ?_)
      · exact absurd c78 (by omega)
      · refine zj_iinc 43 (-1) rfl rfl rfl (by decide) ?_
        rw [show nI (n0 + 2) + (-1) = nI (n0 + 1) from pk_m1 (n0 + 1)]
        refine zj_aload_n 44 rfl rfl rfl ?_
        refine zj_get 45 rfl rfl zke_0 rfl ?_
        refine zj_iload_n 46 rfl rfl rfl ?_
        refine zj_iconst 47 (1) rfl rfl (by decide) ?_
        refine zn_isub 48 (n0 + 1) (1) rfl rfl rfl rfl (by omega) ?_
        refine zj_iload 49 rfl rfl rfl ?_
        refine zj_aload_n 50 rfl rfl rfl ?_
        refine zj_get 51 rfl rfl zke_0 rfl ?_
        refine zj_iload_n 52 rfl rfl rfl ?_
        refine zj_iconst 53 (1) rfl rfl (by decide) ?_
        refine zn_isub 54 (n0 + 1) (1) rfl rfl rfl rfl (by omega) ?_
        refine zn_lald 55 ((n0 + 1) - (1)) rfl rfl zke_6 rfl (by omega) (by decide) ?_
        refine zj_aload_n 56 rfl rfl rfl ?_
        refine zj_get 57 rfl rfl zke_0 rfl ?_
        refine zj_iload_n 58 rfl rfl rfl ?_
        refine zn_lald 59 (n0 + 1) rfl rfl zke_6 rfl (by omega) (by decide) ?_
        refine zj_csx 60 rfl rfl lk_1_86 ckSp_joined (k_joined 17 (by decide) (by decide) _ _) rfl rfl rfl rfl ?_
        refine zn_last 61 ((n0 + 1) - (1)) rfl rfl zke_6 rfl (by omega) (by decide) zke_u6 ?_
        refine zj_goto 62 rfl rfl ?_
        simp only [sB_sB]
        exact kk
  · exact absurd (by decide) c30
theorem w_join18X (n0 : Nat) (hn : n0 + 2 ≤ 40) (i n : Nat) (f : Nat → Int64) (res : Option Value) (τ : zH → Prop) (kk : zXB E YEy_work 2 n res τ (zke σ a (M.sB 1 (va_up f n0 (pWk 18 (f n0) (f (n0 + 1)))))) 139 [some (.ref a), some (.ref b), some (.int (nI (n0 + 1))), some (.int (nI i)), some (.int (-(nI 18)))] []) : zXB E YEy_work 2 n res τ (zke σ a (M.sB 1 f)) 26 [some (.ref a), some (.ref b), some (.int (nI (n0 + 2))), some (.int (nI i)), some (.int (-(nI 18)))] [] := by
  refine zj_iload 16 rfl rfl rfl ?_
  refine zj_bipush 17 (-11) rfl rfl (by decide) ?_
  refine zj_icmp_le 18 rfl rfl (fun c30 => ?_) (fun c30 => ?_)
  · refine zj_iload 37 rfl rfl rfl ?_
    refine zj_bipush 38 (-21) rfl rfl (by decide) ?_
    refine zj_icmp_le 39 rfl rfl (fun c73 => ?_) (fun c73 => ?_)
    · exact absurd c73 (by decide)
    · refine zj_iload_n 40 rfl rfl rfl ?_
      refine zj_iconst 41 (1) rfl rfl (by decide) ?_
      refine zn_icmp_le 42 (n0 + 2) (1) rfl rfl rfl rfl (by omega) (by omega) (fun c78 => ?_) (fun c78 => ?_)
      · exact absurd c78 (by omega)
      · refine zj_iinc 43 (-1) rfl rfl rfl (by decide) ?_
        rw [show nI (n0 + 2) + (-1) = nI (n0 + 1) from pk_m1 (n0 + 1)]
        refine zj_aload_n 44 rfl rfl rfl ?_
        refine zj_get 45 rfl rfl zke_0 rfl ?_
        refine zj_iload_n 46 rfl rfl rfl ?_
        refine zj_iconst 47 (1) rfl rfl (by decide) ?_
        refine zn_isub 48 (n0 + 1) (1) rfl rfl rfl rfl (by omega) ?_
        refine zj_iload 49 rfl rfl rfl ?_
        refine zj_aload_n 50 rfl rfl rfl ?_
        refine zj_get 51 rfl rfl zke_0 rfl ?_
        refine zj_iload_n 52 rfl rfl rfl ?_
        refine zj_iconst 53 (1) rfl rfl (by decide) ?_
        refine zn_isub 54 (n0 + 1) (1) rfl rfl rfl rfl (by omega) ?_
        refine zn_lald 55 ((n0 + 1) - (1)) rfl rfl zke_6 rfl (by omega) (by decide) ?_
        refine zj_aload_n 56 rfl rfl rfl ?_
        refine zj_get 57 rfl rfl zke_0 rfl ?_
        refine zj_iload_n 58 rfl rfl rfl ?_
        refine zn_lald 59 (n0 + 1) rfl rfl zke_6 rfl (by omega) (by decide) ?_
        refine zj_csx 60 rfl rfl lk_1_86 ckSp_joined (k_joined 18 (by decide) (by decide) _ _) rfl rfl rfl rfl ?_
        refine zn_last 61 ((n0 + 1) - (1)) rfl rfl zke_6 rfl (by omega) (by decide) zke_u6 ?_
        refine zj_goto 62 rfl rfl ?_
        simp only [sB_sB]
        exact kk
  · exact absurd (by decide) c30
theorem w_join19X (n0 : Nat) (hn : n0 + 2 ≤ 40) (i n : Nat) (f : Nat → Int64) (res : Option Value) (τ : zH → Prop) (kk : zXB E YEy_work 2 n res τ (zke σ a (M.sB 1 (va_up f n0 (pWk 19 (f n0) (f (n0 + 1)))))) 139 [some (.ref a), some (.ref b), some (.int (nI (n0 + 1))), some (.int (nI i)), some (.int (-(nI 19)))] []) : zXB E YEy_work 2 n res τ (zke σ a (M.sB 1 f)) 26 [some (.ref a), some (.ref b), some (.int (nI (n0 + 2))), some (.int (nI i)), some (.int (-(nI 19)))] [] := by
  refine zj_iload 16 rfl rfl rfl ?_
  refine zj_bipush 17 (-11) rfl rfl (by decide) ?_
  refine zj_icmp_le 18 rfl rfl (fun c30 => ?_) (fun c30 => ?_)
  · refine zj_iload 37 rfl rfl rfl ?_
    refine zj_bipush 38 (-21) rfl rfl (by decide) ?_
    refine zj_icmp_le 39 rfl rfl (fun c73 => ?_) (fun c73 => ?_)
    · exact absurd c73 (by decide)
    · refine zj_iload_n 40 rfl rfl rfl ?_
      refine zj_iconst 41 (1) rfl rfl (by decide) ?_
      refine zn_icmp_le 42 (n0 + 2) (1) rfl rfl rfl rfl (by omega) (by omega) (fun c78 => ?_) (fun c78 => ?_)
      · exact absurd c78 (by omega)
      · refine zj_iinc 43 (-1) rfl rfl rfl (by decide) ?_
        rw [show nI (n0 + 2) + (-1) = nI (n0 + 1) from pk_m1 (n0 + 1)]
        refine zj_aload_n 44 rfl rfl rfl ?_
        refine zj_get 45 rfl rfl zke_0 rfl ?_
        refine zj_iload_n 46 rfl rfl rfl ?_
        refine zj_iconst 47 (1) rfl rfl (by decide) ?_
        refine zn_isub 48 (n0 + 1) (1) rfl rfl rfl rfl (by omega) ?_
        refine zj_iload 49 rfl rfl rfl ?_
        refine zj_aload_n 50 rfl rfl rfl ?_
        refine zj_get 51 rfl rfl zke_0 rfl ?_
        refine zj_iload_n 52 rfl rfl rfl ?_
        refine zj_iconst 53 (1) rfl rfl (by decide) ?_
        refine zn_isub 54 (n0 + 1) (1) rfl rfl rfl rfl (by omega) ?_
        refine zn_lald 55 ((n0 + 1) - (1)) rfl rfl zke_6 rfl (by omega) (by decide) ?_
        refine zj_aload_n 56 rfl rfl rfl ?_
        refine zj_get 57 rfl rfl zke_0 rfl ?_
        refine zj_iload_n 58 rfl rfl rfl ?_
        refine zn_lald 59 (n0 + 1) rfl rfl zke_6 rfl (by omega) (by decide) ?_
        refine zj_csx 60 rfl rfl lk_1_86 ckSp_joined (k_joined 19 (by decide) (by decide) _ _) rfl rfl rfl rfl ?_
        refine zn_last 61 ((n0 + 1) - (1)) rfl rfl zke_6 rfl (by omega) (by decide) zke_u6 ?_
        refine zj_goto 62 rfl rfl ?_
        simp only [sB_sB]
        exact kk
  · exact absurd (by decide) c30
theorem w_turn21X (n0 : Nat) (hn : n0 + 1 ≤ 40) (i n : Nat) (f : Nat → Int64) (res : Option Value) (τ : zH → Prop) (kk : zXB E YEy_work 2 n res τ (zke σ a (M.sB 1 (va_up f n0 (uTurn (-(nI 21)) (f n0))))) 139 [some (.ref a), some (.ref b), some (.int (nI (n0 + 1))), some (.int (nI i)), some (.int (-(nI 21)))] []) : zXB E YEy_work 2 n res τ (zke σ a (M.sB 1 f)) 26 [some (.ref a), some (.ref b), some (.int (nI (n0 + 1))), some (.int (nI i)), some (.int (-(nI 21)))] [] := by
  refine zj_iload 16 rfl rfl rfl ?_
  refine zj_bipush 17 (-11) rfl rfl (by decide) ?_
  refine zj_icmp_le 18 rfl rfl (fun c30 => ?_) (fun c30 => ?_)
  · refine zj_iload 37 rfl rfl rfl ?_
    refine zj_bipush 38 (-21) rfl rfl (by decide) ?_
    refine zj_icmp_le 39 rfl rfl (fun c73 => ?_) (fun c73 => ?_)
    · refine zj_iload_n 63 rfl rfl rfl ?_
      refine zj_if_le 64 rfl rfl (fun c115 => ?_) (fun c115 => ?_)
      · exact absurd ((nI_leI (b := 0) (by omega) (by omega)).mp c115) (by omega)
      · refine zj_aload_n 65 rfl rfl rfl ?_
        refine zj_get 66 rfl rfl zke_0 rfl ?_
        refine zj_iload_n 67 rfl rfl rfl ?_
        refine zj_iconst 68 (1) rfl rfl (by decide) ?_
        refine zn_isub 69 (n0 + 1) (1) rfl rfl rfl rfl (by omega) ?_
        refine zj_iload 70 rfl rfl rfl ?_
        refine zj_aload_n 71 rfl rfl rfl ?_
        refine zj_get 72 rfl rfl zke_0 rfl ?_
        refine zj_iload_n 73 rfl rfl rfl ?_
        refine zj_iconst 74 (1) rfl rfl (by decide) ?_
        refine zn_isub 75 (n0 + 1) (1) rfl rfl rfl rfl (by omega) ?_
        refine zn_lald 76 ((n0 + 1) - (1)) rfl rfl zke_6 rfl (by omega) (by decide) ?_
        refine zj_csx 77 rfl rfl lk_1_90 ckSp_turned (k_turned _ _) rfl rfl rfl rfl ?_
        refine zn_last 78 ((n0 + 1) - (1)) rfl rfl zke_6 rfl (by omega) (by decide) zke_u6 ?_
        simp only [sB_sB]
        exact kk
    · exact absurd (by decide) c73
  · exact absurd (by decide) c30
theorem w_turn22X (n0 : Nat) (hn : n0 + 1 ≤ 40) (i n : Nat) (f : Nat → Int64) (res : Option Value) (τ : zH → Prop) (kk : zXB E YEy_work 2 n res τ (zke σ a (M.sB 1 (va_up f n0 (uTurn (-(nI 22)) (f n0))))) 139 [some (.ref a), some (.ref b), some (.int (nI (n0 + 1))), some (.int (nI i)), some (.int (-(nI 22)))] []) : zXB E YEy_work 2 n res τ (zke σ a (M.sB 1 f)) 26 [some (.ref a), some (.ref b), some (.int (nI (n0 + 1))), some (.int (nI i)), some (.int (-(nI 22)))] [] := by
  refine zj_iload 16 rfl rfl rfl ?_
  refine zj_bipush 17 (-11) rfl rfl (by decide) ?_
  refine zj_icmp_le 18 rfl rfl (fun c30 => ?_) (fun c30 => ?_)
  · refine zj_iload 37 rfl rfl rfl ?_
    refine zj_bipush 38 (-21) rfl rfl (by decide) ?_
    refine zj_icmp_le 39 rfl rfl (fun c73 => ?_) (fun c73 => ?_)
    · refine zj_iload_n 63 rfl rfl rfl ?_
      refine zj_if_le 64 rfl rfl (fun c115 => ?_) (fun c115 => ?_)
      · exact absurd ((nI_leI (b := 0) (by omega) (by omega)).mp c115) (by omega)
      · refine zj_aload_n 65 rfl rfl rfl ?_
        refine zj_get 66 rfl rfl zke_0 rfl ?_
        refine zj_iload_n 67 rfl rfl rfl ?_
        refine zj_iconst 68 (1) rfl rfl (by decide) ?_
        refine zn_isub 69 (n0 + 1) (1) rfl rfl rfl rfl (by omega) ?_
        refine zj_iload 70 rfl rfl rfl ?_
        refine zj_aload_n 71 rfl rfl rfl ?_
        refine zj_get 72 rfl rfl zke_0 rfl ?_
        refine zj_iload_n 73 rfl rfl rfl ?_
        refine zj_iconst 74 (1) rfl rfl (by decide) ?_
        refine zn_isub 75 (n0 + 1) (1) rfl rfl rfl rfl (by omega) ?_
        refine zn_lald 76 ((n0 + 1) - (1)) rfl rfl zke_6 rfl (by omega) (by decide) ?_
        refine zj_csx 77 rfl rfl lk_1_90 ckSp_turned (k_turned _ _) rfl rfl rfl rfl ?_
        refine zn_last 78 ((n0 + 1) - (1)) rfl rfl zke_6 rfl (by omega) (by decide) zke_u6 ?_
        simp only [sB_sB]
        exact kk
    · exact absurd (by decide) c73
  · exact absurd (by decide) c30
theorem l_work (hL : zktAt σ b N) (hd : b + 3 ≤ a ∨ a + 7 ≤ b) (cs : List (Int32 × Int64)) (lt : Nat → Int64) (hn : N.2.2.1 2 = nI cs.length) (hn2 : cs.length ≤ 40) (hst : ∀ i p, cs[i]? = some p → N.1 1 i = cst p) (hco : ∀ p ∈ cs, cCode p) (hu : ∀ j, j < 6 → M.2.1 0 (j + 1) = lt j) (fin : List Int64) (hfin : evC lt cs [] = some fin) : ∀ (m : Nat) (i : Nat) (st : List Int64) (f : Nat → Int64) (o4 : Option Value), (i + m = cs.length) → (evC lt (cs.drop i) st = some fin) → (stk f st) → (st.length ≤ i) → ∀ n, zXB E YEy_work 2 n (some (.long (qVal cs lt))) (fun s => ∃ f, s = zke σ a (M.sB 1 f)) (zke σ a (M.sB 1 f)) 4 [some (.ref a), some (.ref b), some (.int (nI st.length)), some (.int (nI i)), o4] [] := by
  intro m
  induction m using Nat.strongRecOn with
  | ind m ih =>
  intro i st f o4 hk hev hsk hle n
  refine zj_iload_n 4 rfl rfl rfl ?_
  refine zj_aload_n 5 rfl rfl rfl ?_
  refine zj_get 6 rfl rfl (by rw [zke_ne (by omega)]; exact hL.1) rfl ?_
  refine zn_icmp_ge 7 (i) (cs.length) rfl rfl rfl hn (by omega) (by omega) (fun c9 => ?_) (fun c9 => ?_)
  · rw [List.drop_eq_nil_of_le (by omega)] at hev
    have hf2 : st = fin := Option.some.inj hev
    subst hf2
    refine zj_iload_n 81 rfl rfl rfl ?_
    refine zj_if_le 82 rfl rfl (fun c146 => ?_) (fun c146 => ?_)
    · refine zj_lconst 90 (0) rfl rfl (by decide) ?_
      refine zj_lreturn 91 rfl rfl rfl ?_
      refine ⟨zrl ?_, rfl, f, rfl⟩
      unfold qVal
      rw [hfin]
      match st, hsk, c146 with
      | [], _, _ => rfl
      | x :: t, _, c => exact absurd ((nI_leI (b := 0) (by simp only [List.length_cons] at *; omega) (by omega)).mp c) (by simp)
    · have hl1 : 1 ≤ st.length := by
        cases st with
        | nil => exact absurd (by decide) c146
        | cons x t => simp
      refine zj_aload_n 83 rfl rfl rfl ?_
      refine zj_get 84 rfl rfl zke_0 rfl ?_
      refine zj_iload_n 85 rfl rfl rfl ?_
      refine zj_iconst 86 (1) rfl rfl (by decide) ?_
      refine zn_isub 87 (st.length) (1) rfl rfl rfl rfl (by omega) ?_
      refine zn_lald 88 ((st.length) - (1)) rfl rfl zke_6 rfl (by omega) (by decide) ?_
      refine zj_goto 89 rfl rfl ?_
      refine zj_lreturn 91 rfl rfl rfl ?_
      refine ⟨zrl ?_, rfl, f, rfl⟩
      unfold qVal
      rw [hfin]
      match st, hsk, c146 with
      | [], _, c => exact absurd (by decide) c
      | x :: t, hsk, _ => exact stk_top hsk
  · refine zj_iload_n 8 rfl rfl rfl ?_
    refine zj_bipush 9 (40) rfl rfl (by decide) ?_
    refine zn_icmp_ge 10 (i) (40) rfl rfl rfl rfl (by omega) (by omega) (fun c15 => ?_) (fun c15 => ?_)
    · exact absurd c15 (by omega)
    · refine zj_aload_n 11 rfl rfl rfl ?_
      refine zj_get 12 rfl rfl (by rw [zke_ne (by omega)]; exact hL.1) rfl ?_
      refine zj_iload_n 13 rfl rfl rfl ?_
      refine zn_iald 14 (i) rfl rfl (by rw [zke_ne (by omega)]; exact hL.2.2) rfl (by omega) (by decide) ?_
      refine zj_istore 15 rfl rfl ?_
      have hi : i < cs.length := by omega
      have hp := List.getElem?_eq_getElem hi
      rw [hst i _ hp]
      rw [List.drop_eq_getElem_cons hi] at hev
      have hcc := hco _ (List.getElem_mem hi)
      generalize cs[i] = p at hev hcc
      obtain ⟨c, v⟩ := p
      obtain ⟨j, hj, hjc⟩ := hcc
      dsimp only at hj hjc
      subst hj
      rcases (by omega : j = 0 ∨ j = 1 ∨ j = 2 ∨ j = 3 ∨ j = 4 ∨ j = 5 ∨ j = 6 ∨ j = 11 ∨ j = 12 ∨ j = 13 ∨ j = 14 ∨ j = 15 ∨ j = 16 ∨ j = 17 ∨ j = 18 ∨ j = 19 ∨ j = 20 ∨ j = 21) with rfl | rfl | rfl | rfl | rfl | rfl | rfl | rfl | rfl | rfl | rfl | rfl | rfl | rfl | rfl | rfl | rfl | rfl
      · rw [cst_u 0 (by decide)]
        rw [evC_u (j := 0) (by decide)] at hev
        refine w_unit0X st.length (by omega) i n f _ _ ?_
        rw [hu 0 (by decide)]
        refine zn_iinc 79 (i) rfl rfl rfl rfl ?_
        refine zj_goto 80 rfl rfl ?_
        exact ih (m - 1) (by omega) (i + 1) (lt 0 :: st) _ _ (by omega) hev (stk_push hsk _) (by simp only [List.length_cons] at *; omega) n
      · rw [cst_u 1 (by decide)]
        rw [evC_u (j := 1) (by decide)] at hev
        refine w_unit1X st.length (by omega) i n f _ _ ?_
        rw [hu 1 (by decide)]
        refine zn_iinc 79 (i) rfl rfl rfl rfl ?_
        refine zj_goto 80 rfl rfl ?_
        exact ih (m - 1) (by omega) (i + 1) (lt 1 :: st) _ _ (by omega) hev (stk_push hsk _) (by simp only [List.length_cons] at *; omega) n
      · rw [cst_u 2 (by decide)]
        rw [evC_u (j := 2) (by decide)] at hev
        refine w_unit2X st.length (by omega) i n f _ _ ?_
        rw [hu 2 (by decide)]
        refine zn_iinc 79 (i) rfl rfl rfl rfl ?_
        refine zj_goto 80 rfl rfl ?_
        exact ih (m - 1) (by omega) (i + 1) (lt 2 :: st) _ _ (by omega) hev (stk_push hsk _) (by simp only [List.length_cons] at *; omega) n
      · rw [cst_u 3 (by decide)]
        rw [evC_u (j := 3) (by decide)] at hev
        refine w_unit3X st.length (by omega) i n f _ _ ?_
        rw [hu 3 (by decide)]
        refine zn_iinc 79 (i) rfl rfl rfl rfl ?_
        refine zj_goto 80 rfl rfl ?_
        exact ih (m - 1) (by omega) (i + 1) (lt 3 :: st) _ _ (by omega) hev (stk_push hsk _) (by simp only [List.length_cons] at *; omega) n
      · rw [cst_u 4 (by decide)]
        rw [evC_u (j := 4) (by decide)] at hev
        refine w_unit4X st.length (by omega) i n f _ _ ?_
        rw [hu 4 (by decide)]
        refine zn_iinc 79 (i) rfl rfl rfl rfl ?_
        refine zj_goto 80 rfl rfl ?_
        exact ih (m - 1) (by omega) (i + 1) (lt 4 :: st) _ _ (by omega) hev (stk_push hsk _) (by simp only [List.length_cons] at *; omega) n
      · rw [cst_u 5 (by decide)]
        rw [evC_u (j := 5) (by decide)] at hev
        refine w_unit5X st.length (by omega) i n f _ _ ?_
        rw [hu 5 (by decide)]
        refine zn_iinc 79 (i) rfl rfl rfl rfl ?_
        refine zj_goto 80 rfl rfl ?_
        exact ih (m - 1) (by omega) (i + 1) (lt 5 :: st) _ _ (by omega) hev (stk_push hsk _) (by simp only [List.length_cons] at *; omega) n
      · have hjc := hjc.elim (fun g => absurd g (by decide)) (fun g => g.elim (fun g => g.2) (fun g => absurd g.1 (by decide)))
        obtain ⟨k0, hk0, rfl⟩ := hjc
        rw [show cst (nI 6, (nI k0).toInt64) = nI k0 by unfold cst; rw [if_pos (show (nI 6 : Int32) = 6 from rfl)]; simp]
        rw [evC_num] at hev
        refine w_numX st.length k0 (by omega) hk0 i n f _ _ ?_
        refine zn_iinc 79 (i) rfl rfl rfl rfl ?_
        refine zj_goto 80 rfl rfl ?_
        exact ih (m - 1) (by omega) (i + 1) ((nI k0).toInt64 :: st) _ _ (by omega) hev (stk_push hsk _) (by simp only [List.length_cons] at *; omega) n
      · match st, hev, hsk, hle with
        | [], hev, _, _ => rw [evC_j (j := 11) (by decide) (by decide)] at hev; cases hev
        | [_], hev, _, _ => rw [evC_j (j := 11) (by decide) (by decide)] at hev; cases hev
        | y :: x :: st, hev, hsk, hle =>
          rw [cst_j 11 (by decide) (by decide)]
          rw [evC_j (j := 11) (by decide) (by decide)] at hev
          refine w_join11X st.length (by simp only [List.length_cons] at hle; omega) i n f _ _ ?_
          rw [stk_top (stk_tail hsk), show f (st.length + 1) = y from stk_top hsk]
          refine zn_iinc 79 (i) rfl rfl rfl rfl ?_
          refine zj_goto 80 rfl rfl ?_
          exact ih (m - 1) (by omega) (i + 1) (pWk 11 x y :: st) _ _ (by omega) hev (stk_push (stk_tail (stk_tail hsk)) _) (by simp only [List.length_cons] at *; omega) n
      · match st, hev, hsk, hle with
        | [], hev, _, _ => rw [evC_j (j := 12) (by decide) (by decide)] at hev; cases hev
        | [_], hev, _, _ => rw [evC_j (j := 12) (by decide) (by decide)] at hev; cases hev
        | y :: x :: st, hev, hsk, hle =>
          rw [cst_j 12 (by decide) (by decide)]
          rw [evC_j (j := 12) (by decide) (by decide)] at hev
          refine w_join12X st.length (by simp only [List.length_cons] at hle; omega) i n f _ _ ?_
          rw [stk_top (stk_tail hsk), show f (st.length + 1) = y from stk_top hsk]
          refine zn_iinc 79 (i) rfl rfl rfl rfl ?_
          refine zj_goto 80 rfl rfl ?_
          exact ih (m - 1) (by omega) (i + 1) (pWk 12 x y :: st) _ _ (by omega) hev (stk_push (stk_tail (stk_tail hsk)) _) (by simp only [List.length_cons] at *; omega) n
      · match st, hev, hsk, hle with
        | [], hev, _, _ => rw [evC_j (j := 13) (by decide) (by decide)] at hev; cases hev
        | [_], hev, _, _ => rw [evC_j (j := 13) (by decide) (by decide)] at hev; cases hev
        | y :: x :: st, hev, hsk, hle =>
          rw [cst_j 13 (by decide) (by decide)]
          rw [evC_j (j := 13) (by decide) (by decide)] at hev
          refine w_join13X st.length (by simp only [List.length_cons] at hle; omega) i n f _ _ ?_
          rw [stk_top (stk_tail hsk), show f (st.length + 1) = y from stk_top hsk]
          refine zn_iinc 79 (i) rfl rfl rfl rfl ?_
          refine zj_goto 80 rfl rfl ?_
          exact ih (m - 1) (by omega) (i + 1) (pWk 13 x y :: st) _ _ (by omega) hev (stk_push (stk_tail (stk_tail hsk)) _) (by simp only [List.length_cons] at *; omega) n
      · match st, hev, hsk, hle with
        | [], hev, _, _ => rw [evC_j (j := 14) (by decide) (by decide)] at hev; cases hev
        | [_], hev, _, _ => rw [evC_j (j := 14) (by decide) (by decide)] at hev; cases hev
        | y :: x :: st, hev, hsk, hle =>
          rw [cst_j 14 (by decide) (by decide)]
          rw [evC_j (j := 14) (by decide) (by decide)] at hev
          refine w_join14X st.length (by simp only [List.length_cons] at hle; omega) i n f _ _ ?_
          rw [stk_top (stk_tail hsk), show f (st.length + 1) = y from stk_top hsk]
          refine zn_iinc 79 (i) rfl rfl rfl rfl ?_
          refine zj_goto 80 rfl rfl ?_
          exact ih (m - 1) (by omega) (i + 1) (pWk 14 x y :: st) _ _ (by omega) hev (stk_push (stk_tail (stk_tail hsk)) _) (by simp only [List.length_cons] at *; omega) n
      · match st, hev, hsk, hle with
        | [], hev, _, _ => rw [evC_j (j := 15) (by decide) (by decide)] at hev; cases hev
        | [_], hev, _, _ => rw [evC_j (j := 15) (by decide) (by decide)] at hev; cases hev
        | y :: x :: st, hev, hsk, hle =>
          rw [cst_j 15 (by decide) (by decide)]
          rw [evC_j (j := 15) (by decide) (by decide)] at hev
          refine w_join15X st.length (by simp only [List.length_cons] at hle; omega) i n f _ _ ?_
          rw [stk_top (stk_tail hsk), show f (st.length + 1) = y from stk_top hsk]
          refine zn_iinc 79 (i) rfl rfl rfl rfl ?_
          refine zj_goto 80 rfl rfl ?_
          exact ih (m - 1) (by omega) (i + 1) (pWk 15 x y :: st) _ _ (by omega) hev (stk_push (stk_tail (stk_tail hsk)) _) (by simp only [List.length_cons] at *; omega) n
      · match st, hev, hsk, hle with
        | [], hev, _, _ => rw [evC_j (j := 16) (by decide) (by decide)] at hev; cases hev
        | [_], hev, _, _ => rw [evC_j (j := 16) (by decide) (by decide)] at hev; cases hev
        | y :: x :: st, hev, hsk, hle =>
          rw [cst_j 16 (by decide) (by decide)]
          rw [evC_j (j := 16) (by decide) (by decide)] at hev
          refine w_join16X st.length (by simp only [List.length_cons] at hle; omega) i n f _ _ ?_
          rw [stk_top (stk_tail hsk), show f (st.length + 1) = y from stk_top hsk]
          refine zn_iinc 79 (i) rfl rfl rfl rfl ?_
          refine zj_goto 80 rfl rfl ?_
          exact ih (m - 1) (by omega) (i + 1) (pWk 16 x y :: st) _ _ (by omega) hev (stk_push (stk_tail (stk_tail hsk)) _) (by simp only [List.length_cons] at *; omega) n
      · match st, hev, hsk, hle with
        | [], hev, _, _ => rw [evC_j (j := 17) (by decide) (by decide)] at hev; cases hev
        | [_], hev, _, _ => rw [evC_j (j := 17) (by decide) (by decide)] at hev; cases hev
        | y :: x :: st, hev, hsk, hle =>
          rw [cst_j 17 (by decide) (by decide)]
          rw [evC_j (j := 17) (by decide) (by decide)] at hev
          refine w_join17X st.length (by simp only [List.length_cons] at hle; omega) i n f _ _ ?_
          rw [stk_top (stk_tail hsk), show f (st.length + 1) = y from stk_top hsk]
          refine zn_iinc 79 (i) rfl rfl rfl rfl ?_
          refine zj_goto 80 rfl rfl ?_
          exact ih (m - 1) (by omega) (i + 1) (pWk 17 x y :: st) _ _ (by omega) hev (stk_push (stk_tail (stk_tail hsk)) _) (by simp only [List.length_cons] at *; omega) n
      · match st, hev, hsk, hle with
        | [], hev, _, _ => rw [evC_j (j := 18) (by decide) (by decide)] at hev; cases hev
        | [_], hev, _, _ => rw [evC_j (j := 18) (by decide) (by decide)] at hev; cases hev
        | y :: x :: st, hev, hsk, hle =>
          rw [cst_j 18 (by decide) (by decide)]
          rw [evC_j (j := 18) (by decide) (by decide)] at hev
          refine w_join18X st.length (by simp only [List.length_cons] at hle; omega) i n f _ _ ?_
          rw [stk_top (stk_tail hsk), show f (st.length + 1) = y from stk_top hsk]
          refine zn_iinc 79 (i) rfl rfl rfl rfl ?_
          refine zj_goto 80 rfl rfl ?_
          exact ih (m - 1) (by omega) (i + 1) (pWk 18 x y :: st) _ _ (by omega) hev (stk_push (stk_tail (stk_tail hsk)) _) (by simp only [List.length_cons] at *; omega) n
      · match st, hev, hsk, hle with
        | [], hev, _, _ => rw [evC_j (j := 19) (by decide) (by decide)] at hev; cases hev
        | [_], hev, _, _ => rw [evC_j (j := 19) (by decide) (by decide)] at hev; cases hev
        | y :: x :: st, hev, hsk, hle =>
          rw [cst_j 19 (by decide) (by decide)]
          rw [evC_j (j := 19) (by decide) (by decide)] at hev
          refine w_join19X st.length (by simp only [List.length_cons] at hle; omega) i n f _ _ ?_
          rw [stk_top (stk_tail hsk), show f (st.length + 1) = y from stk_top hsk]
          refine zn_iinc 79 (i) rfl rfl rfl rfl ?_
          refine zj_goto 80 rfl rfl ?_
          exact ih (m - 1) (by omega) (i + 1) (pWk 19 x y :: st) _ _ (by omega) hev (stk_push (stk_tail (stk_tail hsk)) _) (by simp only [List.length_cons] at *; omega) n
      · match st, hev, hsk, hle with
        | [], hev, _, _ => rw [evC_t0] at hev; cases hev
        | x :: st, hev, hsk, hle =>
          rw [show cst (nI 20, v) = -(nI 21) from rfl]
          rw [evC_t0] at hev
          refine w_turn21X st.length (by simp only [List.length_cons] at hle; omega) i n f _ _ ?_
          rw [stk_top hsk, show uTurn (-(nI 21)) x = (if x = 0 then 1 else 0) from if_pos (by decide)]
          refine zn_iinc 79 (i) rfl rfl rfl rfl ?_
          refine zj_goto 80 rfl rfl ?_
          exact ih (m - 1) (by omega) (i + 1) ((if x = 0 then 1 else 0) :: st) _ _ (by omega) hev (stk_push (stk_tail hsk) _) (by simp only [List.length_cons] at *; omega) n
      · match st, hev, hsk, hle with
        | [], hev, _, _ => rw [evC_t1] at hev; cases hev
        | x :: st, hev, hsk, hle =>
          rw [show cst (nI 21, v) = -(nI 22) from rfl]
          rw [evC_t1] at hev
          refine w_turn22X st.length (by simp only [List.length_cons] at hle; omega) i n f _ _ ?_
          rw [stk_top hsk, show uTurn (-(nI 22)) x = (-x) from if_neg (by decide)]
          refine zn_iinc 79 (i) rfl rfl rfl rfl ?_
          refine zj_goto 80 rfl rfl ?_
          exact ih (m - 1) (by omega) (i + 1) ((-x) :: st) _ _ (by omega) hev (stk_push (stk_tail hsk) _) (by simp only [List.length_cons] at *; omega) n
theorem k_work (hL : zktAt σ b N) (hd : b + 3 ≤ a ∨ a + 7 ≤ b) (cs : List (Int32 × Int64)) (lt : Nat → Int64) (hn : N.2.2.1 2 = nI cs.length) (hn2 : cs.length ≤ 40) (hst : ∀ i p, cs[i]? = some p → N.1 1 i = cst p) (hco : ∀ p ∈ cs, cCode p) (hu : ∀ j, j < 6 → M.2.1 0 (j + 1) = lt j) (fin : List Int64) (hfin : evC lt cs [] = some fin) : zX E YEy_work 2 [.ref a, .ref b] (zke σ a M) (some (.long (qVal cs lt))) (fun s => ∃ f, s = zke σ a (M.sB 1 f)) := by
  refine zX.of oEy_work (by decide +kernel) rfl rfl (fun n => ?_)
  refine zj_iconst 0 (0) rfl rfl (by decide) ?_
  refine zj_istore_n 1 rfl rfl ?_
  refine zj_iconst 2 (0) rfl rfl (by decide) ?_
  refine zj_istore_n 3 rfl rfl ?_
  have e : zke σ a M = zke σ a (M.sB 1 (M.2.1 1)) := by rw [sB_id]
  rw [e]
  exact l_work hL hd cs lt hn hn2 hst hco hu fin hfin cs.length 0 [] _ _ (by omega) hfin (fun i x hx => by simp at hx) (by simp) n
end
