/-! the reference: worlds, marks, what is seen -/
def zfl {α : Type} (g f : Nat → α) (k : Nat) : Nat → α := fun j => if j < k then g j else f j
theorem zfl_up {α : Type} (g f : Nat → α) (k : Nat) : va_up (zfl g f k) k (g k) = zfl g f (k + 1) := by
  funext j
  unfold va_up zfl
  by_cases h : j = k
  · subst h; simp
  · by_cases h2 : j < k
    · simp [h, h2, Nat.lt_succ_of_lt h2]
    · simp [h, h2]; omega
theorem zfl_0 {α : Type} (g f : Nat → α) : zfl g f 0 = f := by funext j; simp [zfl]
theorem va_up_up {α : Type} (f : Nat → α) (k : Nat) (x y : α) : va_up (va_up f k x) k y = va_up f k y := by
  funext j; unfold va_up; by_cases h : j = k <;> simp [h]
theorem zva_id {α : Type} (f : Nat → α) (k : Nat) : va_up f k (f k) = f := by
  funext j; unfold va_up; by_cases h : j = k <;> simp [h]
theorem zMo.sA_sA (M : zMo) (j : Nat) (f g : Nat → Int32) : (M.sA j f).sA j g = M.sA j g := by
  unfold zMo.sA; rw [va_up_up]
theorem zMo.sA_self (M : zMo) (j : Nat) : M.sA j (M.1 j) = M := by
  unfold zMo.sA; rw [zva_id]
def mPic (row : Nat → Int32) (w : Nat) (dk : Int32) (c : Nat) : Int32 :=
  let v := row (81 * w + c) + (if (row (324 + 9 * w + c / 9) >>> (nI (c % 9) &&& 31)) &&& 1 = 1 then dk else 0)
  if v ≤ 15 then v else 15
section
variable {E : zE} {σ : zH} {a : Nat} {M : zMo}
theorem k_in0 (v : Int32) (b : Int64) (n : Int) (hb : b.toInt + 1 = n) : zM E YM_in 1 [.long v.toInt64, .long 0, .long b] σ (some (.int (zo (zr v n)))) σ := by
  have h := k_in (E := E) (σ := σ) v.toInt64 0 b
  have e : zo ((0 : Int64).toInt ≤ v.toInt64.toInt ∧ v.toInt64.toInt ≤ b.toInt) = zo (zr v n) := zo_c (by
    unfold zr; rw [zl0, Int64.toInt_zero]; omega)
  rw [e] at h
  exact h
theorem k_Mshade (w c v : Nat) (hw : w < 4) (hc : c < 81) (hv : v < 16) : zM E YM_shade 3 [.ref a, .int (nI w), .int (nI c), .int (nI v)] (mw σ a M) (some (.int (M.row (81 * w + c)))) (mw σ a (M.sA 0 (va_up M.row (81 * w + c) (nI v)))) := by
  refine zM.of oM_shade (by decide +kernel) rfl rfl (fun n => ?_)
  refine zj_iload_n 0 rfl rfl rfl ?_
  refine zj_csx 1 rfl rfl lk_8_57 ckM_isFour (k_isFour _) rfl rfl rfl rfl ?_
  refine zj_if_eq 2 rfl rfl (fun c4 => ?_) (fun c4 => ?_)
  · exact absurd (zr_of (by omega) (by decide)) (zo_0.mp c4)
  · refine zj_iload_n 3 rfl rfl rfl ?_
    refine zj_csx 4 rfl rfl lk_8_61 ckM_isCell (k_isCell _) rfl rfl rfl rfl ?_
    refine zj_if_eq 5 rfl rfl (fun c11 => ?_) (fun c11 => ?_)
    · exact absurd (zr_of (by omega) (by decide)) (zo_0.mp c11)
    · refine zj_iload_n 6 rfl rfl rfl ?_
      refine zj_i2l 7 rfl rfl ?_
      refine zj_lconst 8 (0) rfl rfl (by decide) ?_
      refine zj_ldc2 9 (15) rfl rfl (by decide) ?_
      refine zj_csx 10 rfl rfl lk_8_51 ckM_in (k_in0 _ _ 16 (by decide)) rfl rfl rfl rfl ?_
      refine zj_if_eq 11 rfl rfl (fun c23 => ?_) (fun c23 => ?_)
      · exact absurd (zr_of (by omega) (by decide)) (zo_0.mp c23)
      · refine zj_aload_n 12 rfl rfl rfl ?_
        refine zj_bipush 13 (81) rfl rfl (by decide) ?_
        refine zj_iload_n 14 rfl rfl rfl ?_
        refine zn_imul 15 (81) (w) rfl rfl rfl rfl ?_
        refine zj_iload_n 16 rfl rfl rfl ?_
        refine zn_iadd 17 (81 * w) (c) rfl rfl rfl rfl ?_
        refine zj_iload_n 18 rfl rfl rfl ?_
        refine zj_cvx 19 rfl rfl lk_8_66 ckM_change (k_change _ _ (by omega)) rfl mw_0 rfl rfl rfl ?_
        refine zj_goto 20 rfl rfl ?_
        refine zj_ireturn 22 rfl rfl rfl ?_
        exact ⟨rfl, rfl, rfl⟩
theorem k_Mshade_bad (w c v : Int32) (hb : ¬ (zr w 4 ∧ zr c 81 ∧ zr v 16)) : zM E YM_shade 3 [.ref a, .int w, .int c, .int v] (mw σ a M) (some (.int (-2))) (mw σ a M) := by
  refine zM.of oM_shade (by decide +kernel) rfl rfl (fun n => ?_)
  refine zj_iload_n 0 rfl rfl rfl ?_
  refine zj_csx 1 rfl rfl lk_8_57 ckM_isFour (k_isFour _) rfl rfl rfl rfl ?_
  refine zj_if_eq 2 rfl rfl (fun c4 => ?_) (fun c4 => ?_)
  · refine zj_bipush 21 (-2) rfl rfl (by decide) ?_
    refine zj_ireturn 22 rfl rfl rfl ?_
    exact ⟨rfl, rfl, rfl⟩
  · refine zj_iload_n 3 rfl rfl rfl ?_
    refine zj_csx 4 rfl rfl lk_8_61 ckM_isCell (k_isCell _) rfl rfl rfl rfl ?_
    refine zj_if_eq 5 rfl rfl (fun c11 => ?_) (fun c11 => ?_)
    · refine zj_bipush 21 (-2) rfl rfl (by decide) ?_
      refine zj_ireturn 22 rfl rfl rfl ?_
      exact ⟨rfl, rfl, rfl⟩
    · refine zj_iload_n 6 rfl rfl rfl ?_
      refine zj_i2l 7 rfl rfl ?_
      refine zj_lconst 8 (0) rfl rfl (by decide) ?_
      refine zj_ldc2 9 (15) rfl rfl (by decide) ?_
      refine zj_csx 10 rfl rfl lk_8_51 ckM_in (k_in0 _ _ 16 (by decide)) rfl rfl rfl rfl ?_
      refine zj_if_eq 11 rfl rfl (fun c23 => ?_) (fun c23 => ?_)
      · refine zj_bipush 21 (-2) rfl rfl (by decide) ?_
        refine zj_ireturn 22 rfl rfl rfl ?_
        exact ⟨rfl, rfl, rfl⟩
      · exact absurd ⟨zo_n0.mp c4, zo_n0.mp c11, zo_n0.mp c23⟩ hb
theorem k_Mgreen (w c v : Nat) (hw : w < 4) (hc : c < 9) (hv : v < 512) : zM E YM_green 3 [.ref a, .int (nI w), .int (nI c), .int (nI v)] (mw σ a M) (some (.int (M.row (324 + 9 * w + c)))) (mw σ a (M.sA 0 (va_up M.row (324 + 9 * w + c) (nI v)))) := by
  refine zM.of oM_green (by decide +kernel) rfl rfl (fun n => ?_)
  refine zj_iload_n 0 rfl rfl rfl ?_
  refine zj_csx 1 rfl rfl lk_8_57 ckM_isFour (k_isFour _) rfl rfl rfl rfl ?_
  refine zj_if_eq 2 rfl rfl (fun c4 => ?_) (fun c4 => ?_)
  · exact absurd (zr_of (by omega) (by decide)) (zo_0.mp c4)
  · refine zj_iload_n 3 rfl rfl rfl ?_
    refine zj_i2l 4 rfl rfl ?_
    refine zj_lconst 5 (0) rfl rfl (by decide) ?_
    refine zj_ldc2 6 (8) rfl rfl (by decide) ?_
    refine zj_csx 7 rfl rfl lk_8_51 ckM_in (k_in0 _ _ 9 (by decide)) rfl rfl rfl rfl ?_
    refine zj_if_eq 8 rfl rfl (fun c16 => ?_) (fun c16 => ?_)
    · exact absurd (zr_of (by omega) (by decide)) (zo_0.mp c16)
    · refine zj_iload_n 9 rfl rfl rfl ?_
      refine zj_i2l 10 rfl rfl ?_
      refine zj_lconst 11 (0) rfl rfl (by decide) ?_
      refine zj_ldc2 12 (511) rfl rfl (by decide) ?_
      refine zj_csx 13 rfl rfl lk_8_51 ckM_in (k_in0 _ _ 512 (by decide)) rfl rfl rfl rfl ?_
      refine zj_if_eq 14 rfl rfl (fun c28 => ?_) (fun c28 => ?_)
      · exact absurd (zr_of (by omega) (by decide)) (zo_0.mp c28)
      · refine zj_aload_n 15 rfl rfl rfl ?_
        refine zj_sipush 16 (324) rfl rfl (by decide) ?_
        refine zj_bipush 17 (9) rfl rfl (by decide) ?_
        refine zj_iload_n 18 rfl rfl rfl ?_
        refine zn_imul 19 (9) (w) rfl rfl rfl rfl ?_
        refine zn_iadd 20 (324) (9 * w) rfl rfl rfl rfl ?_
        refine zj_iload_n 21 rfl rfl rfl ?_
        refine zn_iadd 22 ((324) + (9 * w)) (c) rfl rfl rfl rfl ?_
        refine zj_iload_n 23 rfl rfl rfl ?_
        refine zj_cvx 24 rfl rfl lk_8_66 ckM_change (k_change _ _ (by omega)) rfl mw_0 rfl rfl rfl ?_
        refine zj_goto 25 rfl rfl ?_
        refine zj_ireturn 27 rfl rfl rfl ?_
        exact ⟨rfl, rfl, rfl⟩
theorem k_Mgreen_bad (w c v : Int32) (hb : ¬ (zr w 4 ∧ zr c 9 ∧ zr v 512)) : zM E YM_green 3 [.ref a, .int w, .int c, .int v] (mw σ a M) (some (.int (-2))) (mw σ a M) := by
  refine zM.of oM_green (by decide +kernel) rfl rfl (fun n => ?_)
  refine zj_iload_n 0 rfl rfl rfl ?_
  refine zj_csx 1 rfl rfl lk_8_57 ckM_isFour (k_isFour _) rfl rfl rfl rfl ?_
  refine zj_if_eq 2 rfl rfl (fun c4 => ?_) (fun c4 => ?_)
  · refine zj_bipush 26 (-2) rfl rfl (by decide) ?_
    refine zj_ireturn 27 rfl rfl rfl ?_
    exact ⟨rfl, rfl, rfl⟩
  · refine zj_iload_n 3 rfl rfl rfl ?_
    refine zj_i2l 4 rfl rfl ?_
    refine zj_lconst 5 (0) rfl rfl (by decide) ?_
    refine zj_ldc2 6 (8) rfl rfl (by decide) ?_
    refine zj_csx 7 rfl rfl lk_8_51 ckM_in (k_in0 _ _ 9 (by decide)) rfl rfl rfl rfl ?_
    refine zj_if_eq 8 rfl rfl (fun c16 => ?_) (fun c16 => ?_)
    · refine zj_bipush 26 (-2) rfl rfl (by decide) ?_
      refine zj_ireturn 27 rfl rfl rfl ?_
      exact ⟨rfl, rfl, rfl⟩
    · refine zj_iload_n 9 rfl rfl rfl ?_
      refine zj_i2l 10 rfl rfl ?_
      refine zj_lconst 11 (0) rfl rfl (by decide) ?_
      refine zj_ldc2 12 (511) rfl rfl (by decide) ?_
      refine zj_csx 13 rfl rfl lk_8_51 ckM_in (k_in0 _ _ 512 (by decide)) rfl rfl rfl rfl ?_
      refine zj_if_eq 14 rfl rfl (fun c28 => ?_) (fun c28 => ?_)
      · refine zj_bipush 26 (-2) rfl rfl (by decide) ?_
        refine zj_ireturn 27 rfl rfl rfl ?_
        exact ⟨rfl, rfl, rfl⟩
      · exact absurd ⟨zo_n0.mp c4, zo_n0.mp c16, zo_n0.mp c28⟩ hb
theorem l_Mmark (m0 c : Nat) (hm0 : m0 < 8) (hc : c < 81) (hv : ∀ k, k < 8 → k ≠ m0 → M.row (360 + k) ≠ nI c) : ∀ (m : Nat) (k : Nat), (k + m = 8) → ∀ n, zB E YM_mark 3 n (some (.int (M.row (360 + m0)))) (mw σ a (M.sA 0 (va_up M.row (360 + m0) (nI c)))) (mw σ a M) 28 [some (.ref a), some (.int (nI m0)), some (.int (nI c)), some (.int 1), some (.int (nI k))] [] := by
  intro m
  induction m using Nat.strongRecOn with
  | ind m ih =>
  intro k hk n
  refine zj_iload 15 rfl rfl rfl ?_
  refine zj_bipush 16 (8) rfl rfl (by decide) ?_
  refine zn_icmp_ge 17 (k) (8) rfl rfl rfl rfl (by omega) (by omega) (fun c32 => ?_) (fun c32 => ?_)
  · refine zj_iload_n 37 rfl rfl rfl ?_
    refine zj_if_eq 38 rfl rfl (fun c73 => ?_) (fun c73 => ?_)
    · exact absurd c73 (by decide)
    · refine zj_aload_n 39 rfl rfl rfl ?_
      refine zj_sipush 40 (360) rfl rfl (by decide) ?_
      refine zj_iload_n 41 rfl rfl rfl ?_
      refine zn_iadd 42 (360) (m0) rfl rfl rfl rfl ?_
      refine zj_iload_n 43 rfl rfl rfl ?_
      refine zj_cvx 44 rfl rfl lk_8_66 ckM_change (k_change _ _ (by omega)) rfl mw_0 rfl rfl rfl ?_
      refine zj_goto 45 rfl rfl ?_
      refine zj_ireturn 47 rfl rfl rfl ?_
      exact ⟨rfl, rfl, rfl⟩
  · refine zj_iload_n 18 rfl rfl rfl ?_
    refine zj_if_eq 19 rfl rfl (fun c36 => ?_) (fun c36 => ?_)
    · exact absurd c36 (by decide)
    · refine zj_iload 20 rfl rfl rfl ?_
      refine zj_iload_n 21 rfl rfl rfl ?_
      refine zn_icmp_eq 22 (k) (m0) rfl rfl rfl rfl (by omega) (by omega) (fun c42 => ?_) (fun c42 => ?_)
      · refine zj_iconst 31 (1) rfl rfl (by decide) ?_
        refine zj_goto 32 rfl rfl ?_
        refine zj_istore_n 34 rfl rfl ?_
        refine zn_iinc 35 (k) rfl rfl rfl rfl ?_
        refine zj_goto 36 rfl rfl ?_
        exact ih (m - 1) (by omega) (k + 1) (by omega) n
      · refine zj_aload_n 23 rfl rfl rfl ?_
        refine zj_get 24 rfl rfl mw_0 rfl ?_
        refine zj_sipush 25 (360) rfl rfl (by decide) ?_
        refine zj_iload 26 rfl rfl rfl ?_
        refine zn_iadd 27 (360) (k) rfl rfl rfl rfl ?_
        refine zn_iald 28 (360 + k) rfl rfl mw_1 rfl (by omega) (by decide) ?_
        refine zj_iload_n 29 rfl rfl rfl ?_
        refine zj_icmp_eq 30 rfl rfl (fun c57 => ?_) (fun c57 => ?_)
        · exact absurd c57 (hv k (by omega) (by omega))
        · refine zj_iconst 31 (1) rfl rfl (by decide) ?_
          refine zj_goto 32 rfl rfl ?_
          refine zj_istore_n 34 rfl rfl ?_
          refine zn_iinc 35 (k) rfl rfl rfl rfl ?_
          refine zj_goto 36 rfl rfl ?_
          exact ih (m - 1) (by omega) (k + 1) (by omega) n
theorem k_Mmark (m0 c : Nat) (hm0 : m0 < 8) (hc : c < 81) (hv : ∀ k, k < 8 → k ≠ m0 → M.row (360 + k) ≠ nI c) : zM E YM_mark 3 [.ref a, .int (nI m0), .int (nI c)] (mw σ a M) (some (.int (M.row (360 + m0)))) (mw σ a (M.sA 0 (va_up M.row (360 + m0) (nI c)))) := by
  refine zM.of oM_mark (by decide +kernel) rfl rfl (fun n => ?_)
  refine zj_iload_n 0 rfl rfl rfl ?_
  refine zj_i2l 1 rfl rfl ?_
  refine zj_lconst 2 (0) rfl rfl (by decide) ?_
  refine zj_ldc2 3 (7) rfl rfl (by decide) ?_
  refine zj_csx 4 rfl rfl lk_8_51 ckM_in (k_in0 _ _ 8 (by decide)) rfl rfl rfl rfl ?_
  refine zj_if_eq 5 rfl rfl (fun c9 => ?_) (fun c9 => ?_)
  · exact absurd (zr_of (by omega) (by decide)) (zo_0.mp c9)
  · refine zj_iload_n 6 rfl rfl rfl ?_
    refine zj_csx 7 rfl rfl lk_8_61 ckM_isCell (k_isCell _) rfl rfl rfl rfl ?_
    refine zj_if_eq 8 rfl rfl (fun c16 => ?_) (fun c16 => ?_)
    · exact absurd (zr_of (by omega) (by decide)) (zo_0.mp c16)
    · refine zj_iconst 9 (1) rfl rfl (by decide) ?_
      refine zj_goto 10 rfl rfl ?_
      refine zj_istore_n 12 rfl rfl ?_
      refine zj_iconst 13 (0) rfl rfl (by decide) ?_
      refine zj_istore 14 rfl rfl ?_
      exact l_Mmark m0 c hm0 hc hv 8 0 (by omega) n
theorem l_Mmark_bad (m0 c : Int32) (p : Prop) (hp : Decidable p) (hv : ¬ (p ∧ ∀ k, k < 8 → nI k ≠ m0 → M.row (360 + k) ≠ c)) : ∀ (m : Nat) (k : Nat) (g : Int32), (k + m = 8) → (g = zo (p ∧ ∀ i, i < k → nI i ≠ m0 → M.row (360 + i) ≠ c)) → ∀ n, zB E YM_mark 3 n (some (.int (-2))) (mw σ a M) (mw σ a M) 28 [some (.ref a), some (.int m0), some (.int c), some (.int g), some (.int (nI k))] [] := by
  intro m
  induction m using Nat.strongRecOn with
  | ind m ih =>
  intro k g hk hg n
  refine zj_iload 15 rfl rfl rfl ?_
  refine zj_bipush 16 (8) rfl rfl (by decide) ?_
  refine zn_icmp_ge 17 (k) (8) rfl rfl rfl rfl (by omega) (by omega) (fun c32 => ?_) (fun c32 => ?_)
  · refine zj_iload_n 37 rfl rfl rfl ?_
    refine zj_if_eq 38 rfl rfl (fun c73 => ?_) (fun c73 => ?_)
    · refine zj_bipush 46 (-2) rfl rfl (by decide) ?_
      refine zj_ireturn 47 rfl rfl rfl ?_
      exact ⟨rfl, rfl, rfl⟩
    · obtain rfl : k = 8 := by omega
      exact absurd (zo_n0.mp (hg ▸ c73)) hv
  · refine zj_iload_n 18 rfl rfl rfl ?_
    refine zj_if_eq 19 rfl rfl (fun c36 => ?_) (fun c36 => ?_)
    · refine zj_iconst 33 (0) rfl rfl (by decide) ?_
      refine zj_istore_n 34 rfl rfl ?_
      refine zn_iinc 35 (k) rfl rfl rfl rfl ?_
      refine zj_goto 36 rfl rfl ?_
      refine ih (m - 1) (by omega) (k + 1) _ (by omega) ?_ n
      first
        | (refine zo_t ?_
           have hg' := zo_n0.mp (hg ▸ c36)
           refine ⟨hg'.1, fun i hi hn => ?_⟩
           by_cases e : i = k
           · subst e
             first | exact absurd c42 hn | exact c57
           · exact hg'.2 i (by omega) hn)
        | (refine zo_f (fun h => ?_)
           first
             | exact zo_0.mp (hg ▸ c36) ⟨h.1, fun i hi => h.2 i (by omega)⟩
             | exact h.2 k (by omega) c42 c57)
    · refine zj_iload 20 rfl rfl rfl ?_
      refine zj_iload_n 21 rfl rfl rfl ?_
      refine zj_icmp_eq 22 rfl rfl (fun c42 => ?_) (fun c42 => ?_)
      · refine zj_iconst 31 (1) rfl rfl (by decide) ?_
        refine zj_goto 32 rfl rfl ?_
        refine zj_istore_n 34 rfl rfl ?_
        refine zn_iinc 35 (k) rfl rfl rfl rfl ?_
        refine zj_goto 36 rfl rfl ?_
        refine ih (m - 1) (by omega) (k + 1) _ (by omega) ?_ n
        first
          | (refine zo_t ?_
             have hg' := zo_n0.mp (hg ▸ c36)
             refine ⟨hg'.1, fun i hi hn => ?_⟩
             by_cases e : i = k
             · subst e
               first | exact absurd c42 hn | exact c57
             · exact hg'.2 i (by omega) hn)
          | (refine zo_f (fun h => ?_)
             first
               | exact zo_0.mp (hg ▸ c36) ⟨h.1, fun i hi => h.2 i (by omega)⟩
               | exact h.2 k (by omega) c42 c57)
      · refine zj_aload_n 23 rfl rfl rfl ?_
        refine zj_get 24 rfl rfl mw_0 rfl ?_
        refine zj_sipush 25 (360) rfl rfl (by decide) ?_
        refine zj_iload 26 rfl rfl rfl ?_
        refine zn_iadd 27 (360) (k) rfl rfl rfl rfl ?_
        refine zn_iald 28 (360 + k) rfl rfl mw_1 rfl (by omega) (by decide) ?_
        refine zj_iload_n 29 rfl rfl rfl ?_
        refine zj_icmp_eq 30 rfl rfl (fun c57 => ?_) (fun c57 => ?_)
        · refine zj_iconst 33 (0) rfl rfl (by decide) ?_
          refine zj_istore_n 34 rfl rfl ?_
          refine zn_iinc 35 (k) rfl rfl rfl rfl ?_
          refine zj_goto 36 rfl rfl ?_
          refine ih (m - 1) (by omega) (k + 1) _ (by omega) ?_ n
          first
            | (refine zo_t ?_
               have hg' := zo_n0.mp (hg ▸ c36)
               refine ⟨hg'.1, fun i hi hn => ?_⟩
               by_cases e : i = k
               · subst e
                 first | exact absurd c42 hn | exact c57
               · exact hg'.2 i (by omega) hn)
            | (refine zo_f (fun h => ?_)
               first
                 | exact zo_0.mp (hg ▸ c36) ⟨h.1, fun i hi => h.2 i (by omega)⟩
                 | exact h.2 k (by omega) c42 c57)
        · refine zj_iconst 31 (1) rfl rfl (by decide) ?_
          refine zj_goto 32 rfl rfl ?_
          refine zj_istore_n 34 rfl rfl ?_
          refine zn_iinc 35 (k) rfl rfl rfl rfl ?_
          refine zj_goto 36 rfl rfl ?_
          refine ih (m - 1) (by omega) (k + 1) _ (by omega) ?_ n
          first
            | (refine zo_t ?_
               have hg' := zo_n0.mp (hg ▸ c36)
               refine ⟨hg'.1, fun i hi hn => ?_⟩
               by_cases e : i = k
               · subst e
                 first | exact absurd c42 hn | exact c57
               · exact hg'.2 i (by omega) hn)
            | (refine zo_f (fun h => ?_)
               first
                 | exact zo_0.mp (hg ▸ c36) ⟨h.1, fun i hi => h.2 i (by omega)⟩
                 | exact h.2 k (by omega) c42 c57)
theorem k_Mmark_bad (m0 c : Int32) (hb : ¬ (zr m0 8 ∧ zr c 81 ∧ ∀ k, k < 8 → nI k ≠ m0 → M.row (360 + k) ≠ c)) : zM E YM_mark 3 [.ref a, .int m0, .int c] (mw σ a M) (some (.int (-2))) (mw σ a M) := by
  refine zM.of oM_mark (by decide +kernel) rfl rfl (fun n => ?_)
  refine zj_iload_n 0 rfl rfl rfl ?_
  refine zj_i2l 1 rfl rfl ?_
  refine zj_lconst 2 (0) rfl rfl (by decide) ?_
  refine zj_ldc2 3 (7) rfl rfl (by decide) ?_
  refine zj_csx 4 rfl rfl lk_8_51 ckM_in (k_in0 _ _ 8 (by decide)) rfl rfl rfl rfl ?_
  refine zj_if_eq 5 rfl rfl (fun c9 => ?_) (fun c9 => ?_)
  · refine zj_iconst 11 (0) rfl rfl (by decide) ?_
    refine zj_istore_n 12 rfl rfl ?_
    refine zj_iconst 13 (0) rfl rfl (by decide) ?_
    refine zj_istore 14 rfl rfl ?_
    first
      | exact l_Mmark_bad m0 c (zr m0 8 ∧ zr c 81) inferInstance (fun h => hb ⟨h.1.1, h.1.2, h.2⟩) 8 0 _ (by omega) (zo_t ⟨⟨zo_n0.mp c9, zo_n0.mp c16⟩, fun i hi => by omega⟩) n
      | exact l_Mmark_bad m0 c (zr m0 8 ∧ zr c 81) inferInstance (fun h => hb ⟨h.1.1, h.1.2, h.2⟩) 8 0 _ (by omega) (zo_f (fun h => zo_0.mp c9 h.1.1)) n
      | exact l_Mmark_bad m0 c (zr m0 8 ∧ zr c 81) inferInstance (fun h => hb ⟨h.1.1, h.1.2, h.2⟩) 8 0 _ (by omega) (zo_f (fun h => zo_0.mp c16 h.1.2)) n
  · refine zj_iload_n 6 rfl rfl rfl ?_
    refine zj_csx 7 rfl rfl lk_8_61 ckM_isCell (k_isCell _) rfl rfl rfl rfl ?_
    refine zj_if_eq 8 rfl rfl (fun c16 => ?_) (fun c16 => ?_)
    · refine zj_iconst 11 (0) rfl rfl (by decide) ?_
      refine zj_istore_n 12 rfl rfl ?_
      refine zj_iconst 13 (0) rfl rfl (by decide) ?_
      refine zj_istore 14 rfl rfl ?_
      first
        | exact l_Mmark_bad m0 c (zr m0 8 ∧ zr c 81) inferInstance (fun h => hb ⟨h.1.1, h.1.2, h.2⟩) 8 0 _ (by omega) (zo_t ⟨⟨zo_n0.mp c9, zo_n0.mp c16⟩, fun i hi => by omega⟩) n
        | exact l_Mmark_bad m0 c (zr m0 8 ∧ zr c 81) inferInstance (fun h => hb ⟨h.1.1, h.1.2, h.2⟩) 8 0 _ (by omega) (zo_f (fun h => zo_0.mp c9 h.1.1)) n
        | exact l_Mmark_bad m0 c (zr m0 8 ∧ zr c 81) inferInstance (fun h => hb ⟨h.1.1, h.1.2, h.2⟩) 8 0 _ (by omega) (zo_f (fun h => zo_0.mp c16 h.1.2)) n
    · refine zj_iconst 9 (1) rfl rfl (by decide) ?_
      refine zj_goto 10 rfl rfl ?_
      refine zj_istore_n 12 rfl rfl ?_
      refine zj_iconst 13 (0) rfl rfl (by decide) ?_
      refine zj_istore 14 rfl rfl ?_
      first
        | exact l_Mmark_bad m0 c (zr m0 8 ∧ zr c 81) inferInstance (fun h => hb ⟨h.1.1, h.1.2, h.2⟩) 8 0 _ (by omega) (zo_t ⟨⟨zo_n0.mp c9, zo_n0.mp c16⟩, fun i hi => by omega⟩) n
        | exact l_Mmark_bad m0 c (zr m0 8 ∧ zr c 81) inferInstance (fun h => hb ⟨h.1.1, h.1.2, h.2⟩) 8 0 _ (by omega) (zo_f (fun h => zo_0.mp c9 h.1.1)) n
        | exact l_Mmark_bad m0 c (zr m0 8 ∧ zr c 81) inferInstance (fun h => hb ⟨h.1.1, h.1.2, h.2⟩) 8 0 _ (by omega) (zo_f (fun h => zo_0.mp c16 h.1.2)) n
end
