/-! the component: steps worked -/
/-- the component's step of a code -/
def cst (p : Int32 × Int64) : Int32 := if p.1 = 6 then p.2.toInt32 else if p.1 < 6 then -(p.1 + 1) else if p.1 < 20 then -p.1 else -(p.1 + 1)
def stk (f : Nat → Int64) (st : List Int64) : Prop := ∀ i x, st.reverse[i]? = some x → f i = x
theorem stk_push {f : Nat → Int64} {st : List Int64} (h : stk f st) (v : Int64) : stk (va_up f st.length v) (v :: st) := by
  intro i y hy
  rw [List.reverse_cons] at hy
  unfold va_up
  by_cases e : i = st.length
  · subst e
    rw [if_pos rfl]
    rw [List.getElem?_append_right (by simp)] at hy
    simpa using hy
  · rw [if_neg e]
    have hl : i < (st.reverse ++ [v]).length := (List.getElem?_eq_some_iff.mp hy).1
    simp at hl
    rw [List.getElem?_append_left (by simp; omega)] at hy
    exact h i y hy
theorem stk_tail {f : Nat → Int64} {st : List Int64} {v : Int64} (h : stk f (v :: st)) : stk f st := by
  intro i y hy
  refine h i y ?_
  rw [List.reverse_cons, List.getElem?_append_left (List.getElem?_eq_some_iff.mp hy).1]
  exact hy
theorem stk_top {f : Nat → Int64} {st : List Int64} {v : Int64} (h : stk f (v :: st)) : f st.length = v := by
  refine h st.length v ?_
  rw [List.reverse_cons]; simp
section
variable {E : zE} {σ : zH} {a b : Nat} {M N : zMo}
theorem w_unit0 (n0 : Nat) (hn : n0 < 40) (i n : Nat) (f : Nat → Int64) (res : Option Value) (τ : zH) (kk : zB E YEy_work 2 n res τ (zke σ a (M.sB 1 (va_up f n0 (M.2.1 0 1)))) 139 [some (.ref a), some (.ref b), some (.int (nI (n0 + 1))), some (.int (nI i)), some (.int (-(nI 1)))] []) : zB E YEy_work 2 n res τ (zke σ a (M.sB 1 f)) 26 [some (.ref a), some (.ref b), some (.int (nI (n0))), some (.int (nI i)), some (.int (-(nI 1)))] [] := by
  refine zj_iload 16 rfl rfl rfl ?_
  refine zj_bipush 17 (-11) rfl rfl (by decide) ?_
  refine zj_icmp_le 18 rfl rfl (fun c30 => ?_) (fun c30 => ?_)
  · exact absurd c30 (by decide)
  · refine zj_iload_n 19 rfl rfl rfl ?_
    refine zj_bipush 20 (40) rfl rfl (by decide) ?_
    refine zn_icmp_ge 21 (n0) (40) rfl rfl rfl rfl (by omega) (by omega) (fun c36 => ?_) (fun c36 => ?_)
    · exact absurd c36 (by omega)
    · refine zj_aload_n 22 rfl rfl rfl ?_
      refine zj_get 23 rfl rfl zke_0 rfl ?_
      refine zj_iload_n 24 rfl rfl rfl ?_
      refine zj_iload 25 rfl rfl rfl ?_
      refine zj_if_lt 26 rfl rfl (fun c46 => ?_) (fun c46 => ?_)
      · refine zj_aload_n 30 rfl rfl rfl ?_
        refine zj_iload 31 rfl rfl rfl ?_
        refine zj_ineg 32 rfl rfl ?_
        rw [show -(-(nI 1)) = nI 1 by decide]
        refine zj_cvx 33 rfl rfl lk_1_82 ckEy_unitAt (k_unitAt zke_at 1 (by decide)) rfl zke_0 rfl rfl rfl ?_
        refine zn_last 34 (n0) rfl rfl zke_6 rfl (by omega) (by decide) zke_u6 ?_
        refine zn_iinc 35 (n0) rfl rfl rfl rfl ?_
        refine zj_goto 36 rfl rfl ?_
        simp only [sB_sB]
        exact kk
      · exact absurd (by decide) c46
theorem w_unit1 (n0 : Nat) (hn : n0 < 40) (i n : Nat) (f : Nat → Int64) (res : Option Value) (τ : zH) (kk : zB E YEy_work 2 n res τ (zke σ a (M.sB 1 (va_up f n0 (M.2.1 0 2)))) 139 [some (.ref a), some (.ref b), some (.int (nI (n0 + 1))), some (.int (nI i)), some (.int (-(nI 2)))] []) : zB E YEy_work 2 n res τ (zke σ a (M.sB 1 f)) 26 [some (.ref a), some (.ref b), some (.int (nI (n0))), some (.int (nI i)), some (.int (-(nI 2)))] [] := by
  refine zj_iload 16 rfl rfl rfl ?_
  refine zj_bipush 17 (-11) rfl rfl (by decide) ?_
  refine zj_icmp_le 18 rfl rfl (fun c30 => ?_) (fun c30 => ?_)
  · exact absurd c30 (by decide)
  · refine zj_iload_n 19 rfl rfl rfl ?_
    refine zj_bipush 20 (40) rfl rfl (by decide) ?_
    refine zn_icmp_ge 21 (n0) (40) rfl rfl rfl rfl (by omega) (by omega) (fun c36 => ?_) (fun c36 => ?_)
    · exact absurd c36 (by omega)
    · refine zj_aload_n 22 rfl rfl rfl ?_
      refine zj_get 23 rfl rfl zke_0 rfl ?_
      refine zj_iload_n 24 rfl rfl rfl ?_
      refine zj_iload 25 rfl rfl rfl ?_
      refine zj_if_lt 26 rfl rfl (fun c46 => ?_) (fun c46 => ?_)
      · refine zj_aload_n 30 rfl rfl rfl ?_
        refine zj_iload 31 rfl rfl rfl ?_
        refine zj_ineg 32 rfl rfl ?_
        rw [show -(-(nI 2)) = nI 2 by decide]
        refine zj_cvx 33 rfl rfl lk_1_82 ckEy_unitAt (k_unitAt zke_at 2 (by decide)) rfl zke_0 rfl rfl rfl ?_
        refine zn_last 34 (n0) rfl rfl zke_6 rfl (by omega) (by decide) zke_u6 ?_
        refine zn_iinc 35 (n0) rfl rfl rfl rfl ?_
        refine zj_goto 36 rfl rfl ?_
        simp only [sB_sB]
        exact kk
      · exact absurd (by decide) c46
theorem w_unit2 (n0 : Nat) (hn : n0 < 40) (i n : Nat) (f : Nat → Int64) (res : Option Value) (τ : zH) (kk : zB E YEy_work 2 n res τ (zke σ a (M.sB 1 (va_up f n0 (M.2.1 0 3)))) 139 [some (.ref a), some (.ref b), some (.int (nI (n0 + 1))), some (.int (nI i)), some (.int (-(nI 3)))] []) : zB E YEy_work 2 n res τ (zke σ a (M.sB 1 f)) 26 [some (.ref a), some (.ref b), some (.int (nI (n0))), some (.int (nI i)), some (.int (-(nI 3)))] [] := by
  refine zj_iload 16 rfl rfl rfl ?_
  refine zj_bipush 17 (-11) rfl rfl (by decide) ?_
  refine zj_icmp_le 18 rfl rfl (fun c30 => ?_) (fun c30 => ?_)
  · exact absurd c30 (by decide)
  · refine zj_iload_n 19 rfl rfl rfl ?_
    refine zj_bipush 20 (40) rfl rfl (by decide) ?_
    refine zn_icmp_ge 21 (n0) (40) rfl rfl rfl rfl (by omega) (by omega) (fun c36 => ?_) (fun c36 => ?_)
    · exact absurd c36 (by omega)
    · refine zj_aload_n 22 rfl rfl rfl ?_
      refine zj_get 23 rfl rfl zke_0 rfl ?_
      refine zj_iload_n 24 rfl rfl rfl ?_
      refine zj_iload 25 rfl rfl rfl ?_
      refine zj_if_lt 26 rfl rfl (fun c46 => ?_) (fun c46 => ?_)
      · refine zj_aload_n 30 rfl rfl rfl ?_
        refine zj_iload 31 rfl rfl rfl ?_
        refine zj_ineg 32 rfl rfl ?_
        rw [show -(-(nI 3)) = nI 3 by decide]
        refine zj_cvx 33 rfl rfl lk_1_82 ckEy_unitAt (k_unitAt zke_at 3 (by decide)) rfl zke_0 rfl rfl rfl ?_
        refine zn_last 34 (n0) rfl rfl zke_6 rfl (by omega) (by decide) zke_u6 ?_
        refine zn_iinc 35 (n0) rfl rfl rfl rfl ?_
        refine zj_goto 36 rfl rfl ?_
        simp only [sB_sB]
        exact kk
      · exact absurd (by decide) c46
theorem w_unit3 (n0 : Nat) (hn : n0 < 40) (i n : Nat) (f : Nat → Int64) (res : Option Value) (τ : zH) (kk : zB E YEy_work 2 n res τ (zke σ a (M.sB 1 (va_up f n0 (M.2.1 0 4)))) 139 [some (.ref a), some (.ref b), some (.int (nI (n0 + 1))), some (.int (nI i)), some (.int (-(nI 4)))] []) : zB E YEy_work 2 n res τ (zke σ a (M.sB 1 f)) 26 [some (.ref a), some (.ref b), some (.int (nI (n0))), some (.int (nI i)), some (.int (-(nI 4)))] [] := by
  refine zj_iload 16 rfl rfl rfl ?_
  refine zj_bipush 17 (-11) rfl rfl (by decide) ?_
  refine zj_icmp_le 18 rfl rfl (fun c30 => ?_) (fun c30 => ?_)
  · exact absurd c30 (by decide)
  · refine zj_iload_n 19 rfl rfl rfl ?_
    refine zj_bipush 20 (40) rfl rfl (by decide) ?_
    refine zn_icmp_ge 21 (n0) (40) rfl rfl rfl rfl (by omega) (by omega) (fun c36 => ?_) (fun c36 => ?_)
    · exact absurd c36 (by omega)
    · refine zj_aload_n 22 rfl rfl rfl ?_
      refine zj_get 23 rfl rfl zke_0 rfl ?_
      refine zj_iload_n 24 rfl rfl rfl ?_
      refine zj_iload 25 rfl rfl rfl ?_
      refine zj_if_lt 26 rfl rfl (fun c46 => ?_) (fun c46 => ?_)
      · refine zj_aload_n 30 rfl rfl rfl ?_
        refine zj_iload 31 rfl rfl rfl ?_
        refine zj_ineg 32 rfl rfl ?_
        rw [show -(-(nI 4)) = nI 4 by decide]
        refine zj_cvx 33 rfl rfl lk_1_82 ckEy_unitAt (k_unitAt zke_at 4 (by decide)) rfl zke_0 rfl rfl rfl ?_
        refine zn_last 34 (n0) rfl rfl zke_6 rfl (by omega) (by decide) zke_u6 ?_
        refine zn_iinc 35 (n0) rfl rfl rfl rfl ?_
        refine zj_goto 36 rfl rfl ?_
        simp only [sB_sB]
        exact kk
      · exact absurd (by decide) c46
theorem w_unit4 (n0 : Nat) (hn : n0 < 40) (i n : Nat) (f : Nat → Int64) (res : Option Value) (τ : zH) (kk : zB E YEy_work 2 n res τ (zke σ a (M.sB 1 (va_up f n0 (M.2.1 0 5)))) 139 [some (.ref a), some (.ref b), some (.int (nI (n0 + 1))), some (.int (nI i)), some (.int (-(nI 5)))] []) : zB E YEy_work 2 n res τ (zke σ a (M.sB 1 f)) 26 [some (.ref a), some (.ref b), some (.int (nI (n0))), some (.int (nI i)), some (.int (-(nI 5)))] [] := by
  refine zj_iload 16 rfl rfl rfl ?_
  refine zj_bipush 17 (-11) rfl rfl (by decide) ?_
  refine zj_icmp_le 18 rfl rfl (fun c30 => ?_) (fun c30 => ?_)
  · exact absurd c30 (by decide)
  · refine zj_iload_n 19 rfl rfl rfl ?_
    refine zj_bipush 20 (40) rfl rfl (by decide) ?_
    refine zn_icmp_ge 21 (n0) (40) rfl rfl rfl rfl (by omega) (by omega) (fun c36 => ?_) (fun c36 => ?_)
    · exact absurd c36 (by omega)
    · refine zj_aload_n 22 rfl rfl rfl ?_
      refine zj_get 23 rfl rfl zke_0 rfl ?_
      refine zj_iload_n 24 rfl rfl rfl ?_
      refine zj_iload 25 rfl rfl rfl ?_
      refine zj_if_lt 26 rfl rfl (fun c46 => ?_) (fun c46 => ?_)
      · refine zj_aload_n 30 rfl rfl rfl ?_
        refine zj_iload 31 rfl rfl rfl ?_
        refine zj_ineg 32 rfl rfl ?_
        rw [show -(-(nI 5)) = nI 5 by decide]
        refine zj_cvx 33 rfl rfl lk_1_82 ckEy_unitAt (k_unitAt zke_at 5 (by decide)) rfl zke_0 rfl rfl rfl ?_
        refine zn_last 34 (n0) rfl rfl zke_6 rfl (by omega) (by decide) zke_u6 ?_
        refine zn_iinc 35 (n0) rfl rfl rfl rfl ?_
        refine zj_goto 36 rfl rfl ?_
        simp only [sB_sB]
        exact kk
      · exact absurd (by decide) c46
theorem w_unit5 (n0 : Nat) (hn : n0 < 40) (i n : Nat) (f : Nat → Int64) (res : Option Value) (τ : zH) (kk : zB E YEy_work 2 n res τ (zke σ a (M.sB 1 (va_up f n0 (M.2.1 0 6)))) 139 [some (.ref a), some (.ref b), some (.int (nI (n0 + 1))), some (.int (nI i)), some (.int (-(nI 6)))] []) : zB E YEy_work 2 n res τ (zke σ a (M.sB 1 f)) 26 [some (.ref a), some (.ref b), some (.int (nI (n0))), some (.int (nI i)), some (.int (-(nI 6)))] [] := by
  refine zj_iload 16 rfl rfl rfl ?_
  refine zj_bipush 17 (-11) rfl rfl (by decide) ?_
  refine zj_icmp_le 18 rfl rfl (fun c30 => ?_) (fun c30 => ?_)
  · exact absurd c30 (by decide)
  · refine zj_iload_n 19 rfl rfl rfl ?_
    refine zj_bipush 20 (40) rfl rfl (by decide) ?_
    refine zn_icmp_ge 21 (n0) (40) rfl rfl rfl rfl (by omega) (by omega) (fun c36 => ?_) (fun c36 => ?_)
    · exact absurd c36 (by omega)
    · refine zj_aload_n 22 rfl rfl rfl ?_
      refine zj_get 23 rfl rfl zke_0 rfl ?_
      refine zj_iload_n 24 rfl rfl rfl ?_
      refine zj_iload 25 rfl rfl rfl ?_
      refine zj_if_lt 26 rfl rfl (fun c46 => ?_) (fun c46 => ?_)
      · refine zj_aload_n 30 rfl rfl rfl ?_
        refine zj_iload 31 rfl rfl rfl ?_
        refine zj_ineg 32 rfl rfl ?_
        rw [show -(-(nI 6)) = nI 6 by decide]
        refine zj_cvx 33 rfl rfl lk_1_82 ckEy_unitAt (k_unitAt zke_at 6 (by decide)) rfl zke_0 rfl rfl rfl ?_
        refine zn_last 34 (n0) rfl rfl zke_6 rfl (by omega) (by decide) zke_u6 ?_
        refine zn_iinc 35 (n0) rfl rfl rfl rfl ?_
        refine zj_goto 36 rfl rfl ?_
        simp only [sB_sB]
        exact kk
      · exact absurd (by decide) c46
theorem w_num (n0 k0 : Nat) (hn : n0 < 40) (hk0 : k0 < 2 ^ 31) (i n : Nat) (f : Nat → Int64) (res : Option Value) (τ : zH) (kk : zB E YEy_work 2 n res τ (zke σ a (M.sB 1 (va_up f n0 (nI k0).toInt64))) 139 [some (.ref a), some (.ref b), some (.int (nI (n0 + 1))), some (.int (nI i)), some (.int (nI k0))] []) : zB E YEy_work 2 n res τ (zke σ a (M.sB 1 f)) 26 [some (.ref a), some (.ref b), some (.int (nI (n0))), some (.int (nI i)), some (.int (nI k0))] [] := by
  refine zj_iload 16 rfl rfl rfl ?_
  refine zj_bipush 17 (-11) rfl rfl (by decide) ?_
  refine zj_icmp_le 18 rfl rfl (fun c30 => ?_) (fun c30 => ?_)
  · exact absurd (Int32.lt_of_le_of_lt c30 (by decide)) (nI_pos hk0)
  · refine zj_iload_n 19 rfl rfl rfl ?_
    refine zj_bipush 20 (40) rfl rfl (by decide) ?_
    refine zn_icmp_ge 21 (n0) (40) rfl rfl rfl rfl (by omega) (by omega) (fun c36 => ?_) (fun c36 => ?_)
    · exact absurd c36 (by omega)
    · refine zj_aload_n 22 rfl rfl rfl ?_
      refine zj_get 23 rfl rfl zke_0 rfl ?_
      refine zj_iload_n 24 rfl rfl rfl ?_
      refine zj_iload 25 rfl rfl rfl ?_
      refine zj_if_lt 26 rfl rfl (fun c46 => ?_) (fun c46 => ?_)
      · exact absurd c46 (nI_pos hk0)
      · refine zj_iload 27 rfl rfl rfl ?_
        refine zj_i2l 28 rfl rfl ?_
        refine zj_goto 29 rfl rfl ?_
        refine zn_last 34 (n0) rfl rfl zke_6 rfl (by omega) (by decide) zke_u6 ?_
        refine zn_iinc 35 (n0) rfl rfl rfl rfl ?_
        refine zj_goto 36 rfl rfl ?_
        simp only [sB_sB]
        exact kk
theorem w_join11 (n0 : Nat) (hn : n0 + 2 ≤ 40) (i n : Nat) (f : Nat → Int64) (res : Option Value) (τ : zH) (kk : zB E YEy_work 2 n res τ (zke σ a (M.sB 1 (va_up f n0 (pWk 11 (f n0) (f (n0 + 1)))))) 139 [some (.ref a), some (.ref b), some (.int (nI (n0 + 1))), some (.int (nI i)), some (.int (-(nI 11)))] []) : zB E YEy_work 2 n res τ (zke σ a (M.sB 1 f)) 26 [some (.ref a), some (.ref b), some (.int (nI (n0 + 2))), some (.int (nI i)), some (.int (-(nI 11)))] [] := by
  refine zj_iload 16 rfl rfl rfl ?_
  refine zj_bipush 17 (-11) rfl rfl (by decide) ?_
  refine zj_icmp_le 18 rfl rfl (fun c30 => ?_) (fun c30 => ?_)
  · refine zj_iload 37 rfl rfl rfl ?_
    refine zj_bipush 38 (-21) rfl rfl (by decide) ?_
    refine zj_icmp_le 39 rfl rfl (fun c73 => ?_) (fun c73 => ?_)
    · exact absurd c73 (by decide)
    · refine zj_iload_n 40 rfl rfl rfl ?_
      refine zj_iconst 41 (1) rfl rfl (by decide) ?_
      refine zn_icmp_le 42 (n0 + 2) (1) rfl rfl rfl rfl (by omega) (by omega) (fun c78 => ?_) (fun c78 => ?_)
      · exact absurd c78 (by omega)
      · refine zj_iinc 43 (-1) rfl rfl rfl (by decide) ?_
        rw [show nI (n0 + 2) + (-1) = nI (n0 + 1) from pk_m1 (n0 + 1)]
        refine zj_aload_n 44 rfl rfl rfl ?_
        refine zj_get 45 rfl rfl zke_0 rfl ?_
        refine zj_iload_n 46 rfl rfl rfl ?_
        refine zj_iconst 47 (1) rfl rfl (by decide) ?_
        refine zn_isub 48 (n0 + 1) (1) rfl rfl rfl rfl (by omega) ?_
        refine zj_iload 49 rfl rfl rfl ?_
        refine zj_aload_n 50 rfl rfl rfl ?_
        refine zj_get 51 rfl rfl zke_0 rfl ?_
        refine zj_iload_n 52 rfl rfl rfl ?_
        refine zj_iconst 53 (1) rfl rfl (by decide) ?_
        refine zn_isub 54 (n0 + 1) (1) rfl rfl rfl rfl (by omega) ?_
        refine zn_lald 55 ((n0 + 1) - (1)) rfl rfl zke_6 rfl (by omega) (by decide) ?_
        refine zj_aload_n 56 rfl rfl rfl ?_
        refine zj_get 57 rfl rfl zke_0 rfl ?_
        refine zj_iload_n 58 rfl rfl rfl ?_
        refine zn_lald 59 (n0 + 1) rfl rfl zke_6 rfl (by omega) (by decide) ?_
        refine zj_csx 60 rfl rfl lk_1_86 ckSp_joined (k_joined 11 (by decide) (by decide) _ _) rfl rfl rfl rfl ?_
        refine zn_last 61 ((n0 + 1) - (1)) rfl rfl zke_6 rfl (by omega) (by decide) zke_u6 ?_
        refine zj_goto 62 rfl rfl ?_
        simp only [sB_sB]
        exact kk
  · exact absurd (by decide) c30
theorem w_join12 (n0 : Nat) (hn : n0 + 2 ≤ 40) (i n : Nat) (f : Nat → Int64) (res : Option Value) (τ : zH) (kk : zB E YEy_work 2 n res τ (zke σ a (M.sB 1 (va_up f n0 (pWk 12 (f n0) (f (n0 + 1)))))) 139 [some (.ref a), some (.ref b), some (.int (nI (n0 + 1))), some (.int (nI i)), some (.int (-(nI 12)))] []) : zB E YEy_work 2 n res τ (zke σ a (M.sB 1 f)) 26 [some (.ref a), some (.ref b), some (.int (nI (n0 + 2))), some (.int (nI i)), some (.int (-(nI 12)))] [] := by
  refine zj_iload 16 rfl rfl rfl ?_
  refine zj_bipush 17 (-11) rfl rfl (by decide) ?_
  refine zj_icmp_le 18 rfl rfl (fun c30 => ?_) (fun c30 => ?_)
  · refine zj_iload 37 rfl rfl rfl ?_
    refine zj_bipush 38 (-21) rfl rfl (by decide) ?_
    refine zj_icmp_le 39 rfl rfl (fun c73 => ?_) (fun c73 => ?_)
    · exact absurd c73 (by decide)
    · refine zj_iload_n 40 rfl rfl rfl ?_
      refine zj_iconst 41 (1) rfl rfl (by decide) ?_
      refine zn_icmp_le 42 (n0 + 2) (1) rfl rfl rfl rfl (by omega) (by omega) (fun c78 => ?_) (fun c78 => ?_)
      · exact absurd c78 (by omega)
      · refine zj_iinc 43 (-1) rfl rfl rfl (by decide) ?_
        rw [show nI (n0 + 2) + (-1) = nI (n0 + 1) from pk_m1 (n0 + 1)]
        refine zj_aload_n 44 rfl rfl rfl ?_
        refine zj_get 45 rfl rfl zke_0 rfl ?_
        refine zj_iload_n 46 rfl rfl rfl ?_
        refine zj_iconst 47 (1) rfl rfl (by decide) ?_
        refine zn_isub 48 (n0 + 1) (1) rfl rfl rfl rfl (by omega) ?_
        refine zj_iload 49 rfl rfl rfl ?_
        refine zj_aload_n 50 rfl rfl rfl ?_
        refine zj_get 51 rfl rfl zke_0 rfl ?_
        refine zj_iload_n 52 rfl rfl rfl ?_
        refine zj_iconst 53 (1) rfl rfl (by decide) ?_
        refine zn_isub 54 (n0 + 1) (1) rfl rfl rfl rfl (by omega) ?_
        refine zn_lald 55 ((n0 + 1) - (1)) rfl rfl zke_6 rfl (by omega) (by decide) ?_
        refine zj_aload_n 56 rfl rfl rfl ?_
        refine zj_get 57 rfl rfl zke_0 rfl ?_
        refine zj_iload_n 58 rfl rfl rfl ?_
        refine zn_lald 59 (n0 + 1) rfl rfl zke_6 rfl (by omega) (by decide) ?_
        refine zj_csx 60 rfl rfl lk_1_86 ckSp_joined (k_joined 12 (by decide) (by decide) _ _) rfl rfl rfl rfl ?_
        refine zn_last 61 ((n0 + 1) - (1)) rfl rfl zke_6 rfl (by omega) (by decide) zke_u6 ?_
        refine zj_goto 62 rfl rfl ?_
        simp only [sB_sB]
        exact kk
  · exact absurd (by decide) c30
theorem w_join13 (n0 : Nat) (hn : n0 + 2 ≤ 40) (i n : Nat) (f : Nat → Int64) (res : Option Value) (τ : zH) (kk : zB E YEy_work 2 n res τ (zke σ a (M.sB 1 (va_up f n0 (pWk 13 (f n0) (f (n0 + 1)))))) 139 [some (.ref a), some (.ref b), some (.int (nI (n0 + 1))), some (.int (nI i)), some (.int (-(nI 13)))] []) : zB E YEy_work 2 n res τ (zke σ a (M.sB 1 f)) 26 [some (.ref a), some (.ref b), some (.int (nI (n0 + 2))), some (.int (nI i)), some (.int (-(nI 13)))] [] := by
  refine zj_iload 16 rfl rfl rfl ?_
  refine zj_bipush 17 (-11) rfl rfl (by decide) ?_
  refine zj_icmp_le 18 rfl rfl (fun c30 => ?_) (fun c30 => ?_)
  · refine zj_iload 37 rfl rfl rfl ?_
    refine zj_bipush 38 (-21) rfl rfl (by decide) ?_
    refine zj_icmp_le 39 rfl rfl (fun c73 => ?_) (fun c73 => ?_)
    · exact absurd c73 (by decide)
    · refine zj_iload_n 40 rfl rfl rfl ?_
      refine zj_iconst 41 (1) rfl rfl (by decide) ?_
      refine zn_icmp_le 42 (n0 + 2) (1) rfl rfl rfl rfl (by omega) (by omega) (fun c78 => ?_) (fun c78 => ?_)
      · exact absurd c78 (by omega)
      · refine zj_iinc 43 (-1) rfl rfl rfl (by decide) ?_
        rw [show nI (n0 + 2) + (-1) = nI (n0 + 1) from pk_m1 (n0 + 1)]
        refine zj_aload_n 44 rfl rfl rfl ?_
        refine zj_get 45 rfl rfl zke_0 rfl ?_
        refine zj_iload_n 46 rfl rfl rfl ?_
        refine zj_iconst 47 (1) rfl rfl (by decide) ?_
        refine zn_isub 48 (n0 + 1) (1) rfl rfl rfl rfl (by omega) ?_
        refine zj_iload 49 rfl rfl rfl ?_
        refine zj_aload_n 50 rfl rfl rfl ?_
        refine zj_get 51 rfl rfl zke_0 rfl ?_
        refine zj_iload_n 52 rfl rfl rfl ?_
        refine zj_iconst 53 (1) rfl rfl (by decide) ?_
        refine zn_isub 54 (n0 + 1) (1) rfl rfl rfl rfl (by omega) ?_
        refine zn_lald 55 ((n0 + 1) - (1)) rfl rfl zke_6 rfl (by omega) (by decide) ?_
        refine zj_aload_n 56 rfl rfl rfl ?_
        refine zj_get 57 rfl rfl zke_0 rfl ?_
        refine zj_iload_n 58 rfl rfl rfl ?_
        refine zn_lald 59 (n0 + 1) rfl rfl zke_6 rfl (by omega) (by decide) ?_
        refine zj_csx 60 rfl rfl lk_1_86 ckSp_joined (k_joined 13 (by decide) (by decide) _ _) rfl rfl rfl rfl ?_
        refine zn_last 61 ((n0 + 1) - (1)) rfl rfl zke_6 rfl (by omega) (by decide) zke_u6 ?_
        refine zj_goto 62 rfl rfl ?_
        simp only [sB_sB]
        exact kk
  · exact absurd (by decide) c30
theorem w_join14 (n0 : Nat) (hn : n0 + 2 ≤ 40) (i n : Nat) (f : Nat → Int64) (res : Option Value) (τ : zH) (kk : zB E YEy_work 2 n res τ (zke σ a (M.sB 1 (va_up f n0 (pWk 14 (f n0) (f (n0 + 1)))))) 139 [some (.ref a), some (.ref b), some (.int (nI (n0 + 1))), some (.int (nI i)), some (.int (-(nI 14)))] []) : zB E YEy_work 2 n res τ (zke σ a (M.sB 1 f)) 26 [some (.ref a), some (.ref b), some (.int (nI (n0 + 2))), some (.int (nI i)), some (.int (-(nI 14)))] [] := by
  refine zj_iload 16 rfl rfl rfl ?_
  refine zj_bipush 17 (-11) rfl rfl (by decide) ?_
  refine zj_icmp_le 18 rfl rfl (fun c30 => ?_) (fun c30 => ?_)
  · refine zj_iload 37 rfl rfl rfl ?_
    refine zj_bipush 38 (-21) rfl rfl (by decide) ?_
    refine zj_icmp_le 39 rfl rfl (fun c73 => ?_) (fun c73 => ?_)
    · exact absurd c73 (by decide)
    · refine zj_iload_n 40 rfl rfl rfl ?_
      refine zj_iconst 41 (1) rfl rfl (by decide) ?_
      refine zn_icmp_le 42 (n0 + 2) (1) rfl rfl rfl rfl (by omega) (by omega) (fun c78 => ?_) (fun c78 => ?_)
      · exact absurd c78 (by omega)
      · refine zj_iinc 43 (-1) rfl rfl rfl (by decide) ?_
        rw [show nI (n0 + 2) + (-1) = nI (n0 + 1) from pk_m1 (n0 + 1)]
        refine zj_aload_n 44 rfl rfl rfl ?_
        refine zj_get 45 rfl rfl zke_0 rfl ?_
        refine zj_iload_n 46 rfl rfl rfl ?_
        refine zj_iconst 47 (1) rfl rfl (by decide) ?_
        refine zn_isub 48 (n0 + 1) (1) rfl rfl rfl rfl (by omega) ?_
        refine zj_iload 49 rfl rfl rfl ?_
        refine zj_aload_n 50 rfl rfl rfl ?_
        refine zj_get 51 rfl rfl zke_0 rfl ?_
        refine zj_iload_n 52 rfl rfl rfl ?_
        refine zj_iconst 53 (1) rfl rfl (by decide) ?_
        refine zn_isub 54 (n0 + 1) (1) rfl rfl rfl rfl (by omega) ?_
        refine zn_lald 55 ((n0 + 1) - (1)) rfl rfl zke_6 rfl (by omega) (by decide) ?_
        refine zj_aload_n 56 rfl rfl rfl ?_
        refine zj_get 57 rfl rfl zke_0 rfl ?_
        refine zj_iload_n 58 rfl rfl rfl ?_
        refine zn_lald 59 (n0 + 1) rfl rfl zke_6 rfl (by omega) (by decide) ?_
        refine zj_csx 60 rfl rfl lk_1_86 ckSp_joined (k_joined 14 (by decide) (by decide) _ _) rfl rfl rfl rfl ?_
        refine zn_last 61 ((n0 + 1) - (1)) rfl rfl zke_6 rfl (by omega) (by decide) zke_u6 ?_
        refine zj_goto 62 rfl rfl ?_
        simp only [sB_sB]
        exact kk
  · exact absurd (by decide) c30
theorem w_join15 (n0 : Nat) (hn : n0 + 2 ≤ 40) (i n : Nat) (f : Nat → Int64) (res : Option Value) (τ : zH) (kk : zB E YEy_work 2 n res τ (zke σ a (M.sB 1 (va_up f n0 (pWk 15 (f n0) (f (n0 + 1)))))) 139 [some (.ref a), some (.ref b), some (.int (nI (n0 + 1))), some (.int (nI i)), some (.int (-(nI 15)))] []) : zB E YEy_work 2 n res τ (zke σ a (M.sB 1 f)) 26 [some (.ref a), some (.ref b), some (.int (nI (n0 + 2))), some (.int (nI i)), some (.int (-(nI 15)))] [] := by
  refine zj_iload 16 rfl rfl rfl ?_
  refine zj_bipush 17 (-11) rfl rfl (by decide) ?_
  refine zj_icmp_le 18 rfl rfl (fun c30 => ?_) (fun c30 => ?_)
  · refine zj_iload 37 rfl rfl rfl ?_
    refine zj_bipush 38 (-21) rfl rfl (by decide) ?_
    refine zj_icmp_le 39 rfl rfl (fun c73 => ?_) (fun c73 => ?_)
    · exact absurd c73 (by decide)
    · refine zj_iload_n 40 rfl rfl rfl ?_
      refine zj_iconst 41 (1) rfl rfl (by decide) ?_
      refine zn_icmp_le 42 (n0 + 2) (1) rfl rfl rfl rfl (by omega) (by omega) (fun c78 => ?_) (fun c78 => ?_)
      · exact absurd c78 (by omega)
      · refine zj_iinc 43 (-1) rfl rfl rfl (by decide) ?_
        rw [show nI (n0 + 2) + (-1) = nI (n0 + 1) from pk_m1 (n0 + 1)]
        refine zj_aload_n 44 rfl rfl rfl ?_
        refine zj_get 45 rfl rfl zke_0 rfl ?_
        refine zj_iload_n 46 rfl rfl rfl ?_
        refine zj_iconst 47 (1) rfl rfl (by decide) ?_
        refine zn_isub 48 (n0 + 1) (1) rfl rfl rfl rfl (by omega) ?_
        refine zj_iload 49 rfl rfl rfl ?_
        refine zj_aload_n 50 rfl rfl rfl ?_
        refine zj_get 51 rfl rfl zke_0 rfl ?_
        refine zj_iload_n 52 rfl rfl rfl ?_
        refine zj_iconst 53 (1) rfl rfl (by decide) ?_
        refine zn_isub 54 (n0 + 1) (1) rfl rfl rfl rfl (by omega) ?_
        refine zn_lald 55 ((n0 + 1) - (1)) rfl rfl zke_6 rfl (by omega) (by decide) ?_
        refine zj_aload_n 56 rfl rfl rfl ?_
        refine zj_get 57 rfl rfl zke_0 rfl ?_
        refine zj_iload_n 58 rfl rfl rfl ?_
        refine zn_lald 59 (n0 + 1) rfl rfl zke_6 rfl (by omega) (by decide) ?_
        refine zj_csx 60 rfl rfl lk_1_86 ckSp_joined (k_joined 15 (by decide) (by decide) _ _) rfl rfl rfl rfl ?_
        refine zn_last 61 ((n0 + 1) - (1)) rfl rfl zke_6 rfl (by omega) (by decide) zke_u6 ?_
        refine zj_goto 62 rfl rfl ?_
        simp only [sB_sB]
        exact kk
  · exact absurd (by decide) c30
theorem w_join16 (n0 : Nat) (hn : n0 + 2 ≤ 40) (i n : Nat) (f : Nat → Int64) (res : Option Value) (τ : zH) (kk : zB E YEy_work 2 n res τ (zke σ a (M.sB 1 (va_up f n0 (pWk 16 (f n0) (f (n0 + 1)))))) 139 [some (.ref a), some (.ref b), some (.int (nI (n0 + 1))), some (.int (nI i)), some (.int (-(nI 16)))] []) : zB E YEy_work 2 n res τ (zke σ a (M.sB 1 f)) 26 [some (.ref a), some (.ref b), some (.int (nI (n0 + 2))), some (.int (nI i)), some (.int (-(nI 16)))] [] := by
  refine zj_iload 16 rfl rfl rfl ?_
  refine zj_bipush 17 (-11) rfl rfl (by decide) ?_
  refine zj_icmp_le 18 rfl rfl (fun c30 => ?_) (fun c30 => ?_)
  · refine zj_iload 37 rfl rfl rfl ?_
    refine zj_bipush 38 (-21) rfl rfl (by decide) ?_
    refine zj_icmp_le 39 rfl rfl (fun c73 => ?_) (fun c73 => ?_)
    · exact absurd c73 (by decide)
    · refine zj_iload_n 40 rfl rfl rfl ?_
      refine zj_iconst 41 (1) rfl rfl (by decide) ?_
      refine zn_icmp_le 42 (n0 + 2) (1) rfl rfl rfl rfl (by omega) (by omega) (fun c78 => ?_) (fun c78 => ?_)
      · exact absurd c78 (by omega)
      · refine zj_iinc 43 (-1) rfl rfl rfl (by decide) ?_
        rw [show nI (n0 + 2) + (-1) = nI (n0 + 1) from pk_m1 (n0 + 1)]
        refine zj_aload_n 44 rfl rfl rfl ?_
        refine zj_get 45 rfl rfl zke_0 rfl ?_
        refine zj_iload_n 46 rfl rfl rfl ?_
        refine zj_iconst 47 (1) rfl rfl (by decide) ?_
        refine zn_isub 48 (n0 + 1) (1) rfl rfl rfl rfl (by omega) ?_
        refine zj_iload 49 rfl rfl rfl ?_
        refine zj_aload_n 50 rfl rfl rfl ?_
        refine zj_get 51 rfl rfl zke_0 rfl ?_
        refine zj_iload_n 52 rfl rfl rfl ?_
        refine zj_iconst 53 (1) rfl rfl (by decide) ?_
        refine zn_isub 54 (n0 + 1) (1) rfl rfl rfl rfl (by omega) ?_
        refine zn_lald 55 ((n0 + 1) - (1)) rfl rfl zke_6 rfl (by omega) (by decide) ?_
        refine zj_aload_n 56 rfl rfl rfl ?_
        refine zj_get 57 rfl rfl zke_0 rfl ?_
        refine zj_iload_n 58 rfl rfl rfl ?_
        refine zn_lald 59 (n0 + 1) rfl rfl zke_6 rfl (by omega) (by decide) ?_
        refine zj_csx 60 rfl rfl lk_1_86 ckSp_joined (k_joined 16 (by decide) (by decide) _ _) rfl rfl rfl rfl ?_
        refine zn_last 61 ((n0 + 1) - (1)) rfl rfl zke_6 rfl (by omega) (by decide) zke_u6 ?_
        refine zj_goto 62 rfl rfl ?_
        simp only [sB_sB]
        exact kk
  · exact absurd (by decide) c30
theorem w_join17 (n0 : Nat) (hn : n0 + 2 ≤ 40) (i n : Nat) (f : Nat → Int64) (res : Option Value) (τ : zH) (kk : zB E YEy_work 2 n res τ (zke σ a (M.sB 1 (va_up f n0 (pWk 17 (f n0) (f (n0 + 1)))))) 139 [some (.ref a), some (.ref b), some (.int (nI (n0 + 1))), some (.int (nI i)), some (.int (-(nI 17)))] []) : zB E YEy_work 2 n res τ (zke σ a (M.sB 1 f)) 26 [some (.ref a), some (.ref b), some (.int (nI (n0 + 2))), some (.int (nI i)), some (.int (-(nI 17)))] [] := by
  refine zj_iload 16 rfl rfl rfl ?_
  refine zj_bipush 17 (-11) rfl rfl (by decide) ?_
  refine zj_icmp_le 18 rfl rfl (fun c30 => ?_) (fun c30 => ?_)
  · refine zj_iload 37 rfl rfl rfl ?_
    refine zj_bipush 38 (-21) rfl rfl (by decide) ?_
    refine zj_icmp_le 39 rfl rfl (fun c73 => ?_) (fun c73 => ?_)
    · exact absurd c73 (by decide)
    · refine zj_iload_n 40 rfl rfl rfl ?_
      refine zj_iconst 41 (1) rfl rfl (by decide) ?_
      refine zn_icmp_le 42 (n0 + 2) (1) rfl rfl rfl rfl (by omega) (by omega) (fun c78 => ?_) (fun c78 => ?_)
      · exact absurd c78 (by omega)
      · refine zj_iinc 43 (-1) rfl rfl rfl (by decide) ?_
        rw [show nI (n0 + 2) + (-1) = nI (n0 + 1) from pk_m1 (n0 + 1)]
        refine zj_aload_n 44 rfl rfl rfl ?_
        refine zj_get 45 rfl rfl zke_0 rfl ?_
        refine zj_iload_n 46 rfl rfl rfl ?_
        refine zj_iconst 47 (1) rfl rfl (by decide) ?_
        refine zn_isub 48 (n0 + 1) (1) rfl rfl rfl rfl (by omega) ?_
        refine zj_iload 49 rfl rfl rfl ?_
        refine zj_aload_n 50 rfl rfl rfl ?_
        refine zj_get 51 rfl rfl zke_0 rfl ?_
        refine zj_iload_n 52 rfl rfl rfl ?_
        refine zj_iconst 53 (1) rfl rfl (by decide) ?_
        refine zn_isub 54 (n0 + 1) (1) rfl rfl rfl rfl (by omega) ?_
        refine zn_lald 55 ((n0 + 1) - (1)) rfl rfl zke_6 rfl (by omega) (by decide) ?_
        refine zj_aload_n 56 rfl rfl rfl ?_
        refine zj_get 57 rfl rfl zke_0 rfl ?_
        refine zj_iload_n 58 rfl rfl rfl ?_
        refine zn_lald 59 (n0 + 1) rfl rfl zke_6 rfl (by omega) (by decide) ?_
        refine zj_csx 60 rfl rfl lk_1_86 ckSp_joined (k_joined 17 (by decide) (by decide) _ _) rfl rfl rfl rfl ?_
        refine zn_last 61 ((n0 + 1) - (1)) rfl rfl zke_6 rfl (by omega) (by decide) zke_u6 ?_
        refine zj_goto 62 rfl rfl ?_
        simp only [sB_sB]
        exact kk
  · exact absurd (by decide) c30
theorem w_join18 (n0 : Nat) (hn : n0 + 2 ≤ 40) (i n : Nat) (f : Nat → Int64) (res : Option Value) (τ : zH) (kk : zB E YEy_work 2 n res τ (zke σ a (M.sB 1 (va_up f n0 (pWk 18 (f n0) (f (n0 + 1)))))) 139 [some (.ref a), some (.ref b), some (.int (nI (n0 + 1))), some (.int (nI i)), some (.int (-(nI 18)))] []) : zB E YEy_work 2 n res τ (zke σ a (M.sB 1 f)) 26 [some (.ref a), some (.ref b), some (.int (nI (n0 + 2))), some (.int (nI i)), some (.int (-(nI 18)))] [] := by
  refine zj_iload 16 rfl rfl rfl ?_
  refine zj_bipush 17 (-11) rfl rfl (by decide) ?_
  refine zj_icmp_le 18 rfl rfl (fun c30 => ?_) (fun c30 => ?_)
  · refine zj_iload 37 rfl rfl rfl ?_
    refine zj_bipush 38 (-21) rfl rfl (by decide) ?_
    refine zj_icmp_le 39 rfl rfl (fun c73 => ?_) (fun c73 => ?_)
    · exact absurd c73 (by decide)
    · refine zj_iload_n 40 rfl rfl rfl ?_
      refine zj_iconst 41 (1) rfl rfl (by decide) ?_
      refine zn_icmp_le 42 (n0 + 2) (1) rfl rfl rfl rfl (by omega) (by omega) (fun c78 => ?_) (fun c78 => ?_)
      · exact absurd c78 (by omega)
      · refine zj_iinc 43 (-1) rfl rfl rfl (by decide) ?_
        rw [show nI (n0 + 2) + (-1) = nI (n0 + 1) from pk_m1 (n0 + 1)]
        refine zj_aload_n 44 rfl rfl rfl ?_
        refine zj_get 45 rfl rfl zke_0 rfl ?_
        refine zj_iload_n 46 rfl rfl rfl ?_
        refine zj_iconst 47 (1) rfl rfl (by decide) ?_
        refine zn_isub 48 (n0 + 1) (1) rfl rfl rfl rfl (by omega) ?_
        refine zj_iload 49 rfl rfl rfl ?_
        refine zj_aload_n 50 rfl rfl rfl ?_
        refine zj_get 51 rfl rfl zke_0 rfl ?_
        refine zj_iload_n 52 rfl rfl rfl ?_
        refine zj_iconst 53 (1) rfl rfl (by decide) ?_
        refine zn_isub 54 (n0 + 1) (1) rfl rfl rfl rfl (by omega) ?_
        refine zn_lald 55 ((n0 + 1) - (1)) rfl rfl zke_6 rfl (by omega) (by decide) ?_
        refine zj_aload_n 56 rfl rfl rfl ?_
        refine zj_get 57 rfl rfl zke_0 rfl ?_
        refine zj_iload_n 58 rfl rfl rfl ?_
        refine zn_lald 59 (n0 + 1) rfl rfl zke_6 rfl (by omega) (by decide) ?_
        refine zj_csx 60 rfl rfl lk_1_86 ckSp_joined (k_joined 18 (by decide) (by decide) _ _) rfl rfl rfl rfl ?_
        refine zn_last 61 ((n0 + 1) - (1)) rfl rfl zke_6 rfl (by omega) (by decide) zke_u6 ?_
        refine zj_goto 62 rfl rfl ?_
        simp only [sB_sB]
        exact kk
  · exact absurd (by decide) c30
theorem w_join19 (n0 : Nat) (hn : n0 + 2 ≤ 40) (i n : Nat) (f : Nat → Int64) (res : Option Value) (τ : zH) (kk : zB E YEy_work 2 n res τ (zke σ a (M.sB 1 (va_up f n0 (pWk 19 (f n0) (f (n0 + 1)))))) 139 [some (.ref a), some (.ref b), some (.int (nI (n0 + 1))), some (.int (nI i)), some (.int (-(nI 19)))] []) : zB E YEy_work 2 n res τ (zke σ a (M.sB 1 f)) 26 [some (.ref a), some (.ref b), some (.int (nI (n0 + 2))), some (.int (nI i)), some (.int (-(nI 19)))] [] := by
  refine zj_iload 16 rfl rfl rfl ?_
  refine zj_bipush 17 (-11) rfl rfl (by decide) ?_
  refine zj_icmp_le 18 rfl rfl (fun c30 => ?_) (fun c30 => ?_)
  · refine zj_iload 37 rfl rfl rfl ?_
    refine zj_bipush 38 (-21) rfl rfl (by decide) ?_
    refine zj_icmp_le 39 rfl rfl (fun c73 => ?_) (fun c73 => ?_)
    · exact absurd c73 (by decide)
    · refine zj_iload_n 40 rfl rfl rfl ?_
      refine zj_iconst 41 (1) rfl rfl (by decide) ?_
      refine zn_icmp_le 42 (n0 + 2) (1) rfl rfl rfl rfl (by omega) (by omega) (fun c78 => ?_) (fun c78 => ?_)
      · exact absurd c78 (by omega)
      · refine zj_iinc 43 (-1) rfl rfl rfl (by decide) ?_
        rw [show nI (n0 + 2) + (-1) = nI (n0 + 1) from pk_m1 (n0 + 1)]
        refine zj_aload_n 44 rfl rfl rfl ?_
        refine zj_get 45 rfl rfl zke_0 rfl ?_
        refine zj_iload_n 46 rfl rfl rfl ?_
        refine zj_iconst 47 (1) rfl rfl (by decide) ?_
        refine zn_isub 48 (n0 + 1) (1) rfl rfl rfl rfl (by omega) ?_
        refine zj_iload 49 rfl rfl rfl ?_
        refine zj_aload_n 50 rfl rfl rfl ?_
        refine zj_get 51 rfl rfl zke_0 rfl ?_
        refine zj_iload_n 52 rfl rfl rfl ?_
        refine zj_iconst 53 (1) rfl rfl (by decide) ?_
        refine zn_isub 54 (n0 + 1) (1) rfl rfl rfl rfl (by omega) ?_
        refine zn_lald 55 ((n0 + 1) - (1)) rfl rfl zke_6 rfl (by omega) (by decide) ?_
        refine zj_aload_n 56 rfl rfl rfl ?_
        refine zj_get 57 rfl rfl zke_0 rfl ?_
        refine zj_iload_n 58 rfl rfl rfl ?_
        refine zn_lald 59 (n0 + 1) rfl rfl zke_6 rfl (by omega) (by decide) ?_
        refine zj_csx 60 rfl rfl lk_1_86 ckSp_joined (k_joined 19 (by decide) (by decide) _ _) rfl rfl rfl rfl ?_
        refine zn_last 61 ((n0 + 1) - (1)) rfl rfl zke_6 rfl (by omega) (by decide) zke_u6 ?_
        refine zj_goto 62 rfl rfl ?_
        simp only [sB_sB]
        exact kk
  · exact absurd (by decide) c30
theorem w_turn21 (n0 : Nat) (hn : n0 + 1 ≤ 40) (i n : Nat) (f : Nat → Int64) (res : Option Value) (τ : zH) (kk : zB E YEy_work 2 n res τ (zke σ a (M.sB 1 (va_up f n0 (uTurn (-(nI 21)) (f n0))))) 139 [some (.ref a), some (.ref b), some (.int (nI (n0 + 1))), some (.int (nI i)), some (.int (-(nI 21)))] []) : zB E YEy_work 2 n res τ (zke σ a (M.sB 1 f)) 26 [some (.ref a), some (.ref b), some (.int (nI (n0 + 1))), some (.int (nI i)), some (.int (-(nI 21)))] [] := by
  refine zj_iload 16 rfl rfl rfl ?_
  refine zj_bipush 17 (-11) rfl rfl (by decide) ?_
  refine zj_icmp_le 18 rfl rfl (fun c30 => ?_) (fun c30 => ?_)
  · refine zj_iload 37 rfl rfl rfl ?_
    refine zj_bipush 38 (-21) rfl rfl (by decide) ?_
    refine zj_icmp_le 39 rfl rfl (fun c73 => ?_) (fun c73 => ?_)
    · refine zj_iload_n 63 rfl rfl rfl ?_
      refine zj_if_le 64 rfl rfl (fun c115 => ?_) (fun c115 => ?_)
      · exact absurd ((nI_leI (b := 0) (by omega) (by omega)).mp c115) (by omega)
      · refine zj_aload_n 65 rfl rfl rfl ?_
        refine zj_get 66 rfl rfl zke_0 rfl ?_
        refine zj_iload_n 67 rfl rfl rfl ?_
        refine zj_iconst 68 (1) rfl rfl (by decide) ?_
        refine zn_isub 69 (n0 + 1) (1) rfl rfl rfl rfl (by omega) ?_
        refine zj_iload 70 rfl rfl rfl ?_
        refine zj_aload_n 71 rfl rfl rfl ?_
        refine zj_get 72 rfl rfl zke_0 rfl ?_
        refine zj_iload_n 73 rfl rfl rfl ?_
        refine zj_iconst 74 (1) rfl rfl (by decide) ?_
        refine zn_isub 75 (n0 + 1) (1) rfl rfl rfl rfl (by omega) ?_
        refine zn_lald 76 ((n0 + 1) - (1)) rfl rfl zke_6 rfl (by omega) (by decide) ?_
        refine zj_csx 77 rfl rfl lk_1_90 ckSp_turned (k_turned _ _) rfl rfl rfl rfl ?_
        refine zn_last 78 ((n0 + 1) - (1)) rfl rfl zke_6 rfl (by omega) (by decide) zke_u6 ?_
        simp only [sB_sB]
        exact kk
    · exact absurd (by decide) c73
  · exact absurd (by decide) c30
theorem w_turn22 (n0 : Nat) (hn : n0 + 1 ≤ 40) (i n : Nat) (f : Nat → Int64) (res : Option Value) (τ : zH) (kk : zB E YEy_work 2 n res τ (zke σ a (M.sB 1 (va_up f n0 (uTurn (-(nI 22)) (f n0))))) 139 [some (.ref a), some (.ref b), some (.int (nI (n0 + 1))), some (.int (nI i)), some (.int (-(nI 22)))] []) : zB E YEy_work 2 n res τ (zke σ a (M.sB 1 f)) 26 [some (.ref a), some (.ref b), some (.int (nI (n0 + 1))), some (.int (nI i)), some (.int (-(nI 22)))] [] := by
  refine zj_iload 16 rfl rfl rfl ?_
  refine zj_bipush 17 (-11) rfl rfl (by decide) ?_
  refine zj_icmp_le 18 rfl rfl (fun c30 => ?_) (fun c30 => ?_)
  · refine zj_iload 37 rfl rfl rfl ?_
    refine zj_bipush 38 (-21) rfl rfl (by decide) ?_
    refine zj_icmp_le 39 rfl rfl (fun c73 => ?_) (fun c73 => ?_)
    · refine zj_iload_n 63 rfl rfl rfl ?_
      refine zj_if_le 64 rfl rfl (fun c115 => ?_) (fun c115 => ?_)
      · exact absurd ((nI_leI (b := 0) (by omega) (by omega)).mp c115) (by omega)
      · refine zj_aload_n 65 rfl rfl rfl ?_
        refine zj_get 66 rfl rfl zke_0 rfl ?_
        refine zj_iload_n 67 rfl rfl rfl ?_
        refine zj_iconst 68 (1) rfl rfl (by decide) ?_
        refine zn_isub 69 (n0 + 1) (1) rfl rfl rfl rfl (by omega) ?_
        refine zj_iload 70 rfl rfl rfl ?_
        refine zj_aload_n 71 rfl rfl rfl ?_
        refine zj_get 72 rfl rfl zke_0 rfl ?_
        refine zj_iload_n 73 rfl rfl rfl ?_
        refine zj_iconst 74 (1) rfl rfl (by decide) ?_
        refine zn_isub 75 (n0 + 1) (1) rfl rfl rfl rfl (by omega) ?_
        refine zn_lald 76 ((n0 + 1) - (1)) rfl rfl zke_6 rfl (by omega) (by decide) ?_
        refine zj_csx 77 rfl rfl lk_1_90 ckSp_turned (k_turned _ _) rfl rfl rfl rfl ?_
        refine zn_last 78 ((n0 + 1) - (1)) rfl rfl zke_6 rfl (by omega) (by decide) zke_u6 ?_
        simp only [sB_sB]
        exact kk
    · exact absurd (by decide) c73
  · exact absurd (by decide) c30
end
