/-! the component: rows added, mixed, copied -/
section
variable {E : zE} {σ : zH} {a : Nat} {M : zMo}
theorem k_BaddObserver (x1 x2 : Int32) (n0 : Nat) (h0 : M.2.2.1 0 = nI n0) (hb : n0 < 8) : zM E YBk_addObserver 2 [.ref a, .int x1, .int x2] (zkb σ a M) (some (.int (nI n0))) (zkb σ a (((M.sA 0 (va_up (M.1 0) n0 x1)).sA 1 (va_up (M.1 1) n0 x2)).sI 0 (nI (n0 + 1)))) := by
  refine zM.of oBk_addObserver (by decide +kernel) rfl rfl (fun n => ?_)
  refine zj_aload_n 0 rfl rfl rfl ?_
  refine zj_get 1 rfl rfl zkb_0 rfl ?_
  rw [h0]
  refine zj_bipush 2 (8) rfl rfl (by decide) ?_
  refine zj_csx 3 rfl rfl lk_0_40 ckD_isOneOf (k_isOneOf _ _) rfl rfl rfl rfl ?_
  refine zj_if_ne 4 rfl rfl (fun c9 => ?_) (fun c9 => ?_)
  · refine zj_aload_n 7 rfl rfl rfl ?_
    refine zj_get 8 rfl rfl zkb_0 rfl ?_
    refine zj_aload_n 9 rfl rfl rfl ?_
    refine zj_get 10 rfl rfl zkb_0 rfl ?_
    refine zj_iload_n 11 rfl rfl rfl ?_
    refine zn_iast 12 (n0) rfl rfl zkb_1 h0 (by omega) (by decide) zkb_u1 ?_
    refine zj_aload_n 13 rfl rfl rfl ?_
    refine zj_get 14 rfl rfl zkb_0 rfl ?_
    refine zj_aload_n 15 rfl rfl rfl ?_
    refine zj_get 16 rfl rfl zkb_0 rfl ?_
    refine zj_iload_n 17 rfl rfl rfl ?_
    refine zn_iast 18 (n0) rfl rfl zkb_2 h0 (by omega) (by decide) zkb_u2 ?_
    refine zj_aload_n 19 rfl rfl rfl ?_
    refine zj_dup 20 rfl rfl rfl ?_
    refine zj_get 21 rfl rfl zkb_0 rfl ?_
    refine zj_iconst 22 (1) rfl rfl (by decide) ?_
    refine zn_iadd 23 (n0) (1) rfl rfl h0 rfl ?_
    refine zn_put 24 rfl rfl zkb_0 rfl rfl rfl rfl zkb_p_observerCount ?_
    refine zj_aload_n 25 rfl rfl rfl ?_
    refine zj_get 26 rfl rfl zkb_0 rfl ?_
    refine zj_iconst 27 (1) rfl rfl (by decide) ?_
    refine zn_isub 28 (n0 + 1) (1) rfl rfl rfl rfl (by omega) ?_
    refine zj_ireturn 29 rfl rfl rfl ?_
    exact ⟨zrt (by rw [Nat.add_sub_cancel]), rfl, rfl⟩
  · exact absurd (zr_of (n := 8) hb (by decide)) (zo_0.mp c9)
theorem k_BaddObserver_full (x1 x2 : Int32) (h0 : M.2.2.1 0 = nI 8) : zM E YBk_addObserver 2 [.ref a, .int x1, .int x2] (zkb σ a M) (some (.int (-4))) (zkb σ a M) := by
  refine zM.of oBk_addObserver (by decide +kernel) rfl rfl (fun n => ?_)
  refine zj_aload_n 0 rfl rfl rfl ?_
  refine zj_get 1 rfl rfl zkb_0 rfl ?_
  rw [h0]
  refine zj_bipush 2 (8) rfl rfl (by decide) ?_
  refine zj_csx 3 rfl rfl lk_0_40 ckD_isOneOf (k_isOneOf _ _) rfl rfl rfl rfl ?_
  refine zj_if_ne 4 rfl rfl (fun c9 => ?_) (fun c9 => ?_)
  · exact absurd (zo_n0.mp c9) (by decide +kernel)
  · refine zj_bipush 5 (-4) rfl rfl (by decide) ?_
    refine zj_ireturn 6 rfl rfl rfl ?_
    exact ⟨rfl, rfl, rfl⟩
theorem k_BaddSheet (x1 x2 x3 : Int32) (n0 : Nat) (h0 : M.2.2.1 1 = nI n0) (hb : n0 < 16) : zM E YBk_addSheet 2 [.ref a, .int x1, .int x2, .int x3] (zkb σ a M) (some (.int (nI n0))) (zkb σ a ((((M.sA 2 (va_up (M.1 2) n0 x1)).sA 3 (va_up (M.1 3) n0 x2)).sA 4 (va_up (M.1 4) n0 x3)).sI 1 (nI (n0 + 1)))) := by
  refine zM.of oBk_addSheet (by decide +kernel) rfl rfl (fun n => ?_)
  refine zj_aload_n 0 rfl rfl rfl ?_
  refine zj_get 1 rfl rfl zkb_0 rfl ?_
  rw [h0]
  refine zj_bipush 2 (16) rfl rfl (by decide) ?_
  refine zj_csx 3 rfl rfl lk_0_40 ckD_isOneOf (k_isOneOf _ _) rfl rfl rfl rfl ?_
  refine zj_if_ne 4 rfl rfl (fun c9 => ?_) (fun c9 => ?_)
  · refine zj_aload_n 7 rfl rfl rfl ?_
    refine zj_get 8 rfl rfl zkb_0 rfl ?_
    refine zj_aload_n 9 rfl rfl rfl ?_
    refine zj_get 10 rfl rfl zkb_0 rfl ?_
    refine zj_iload_n 11 rfl rfl rfl ?_
    refine zn_iast 12 (n0) rfl rfl zkb_3 h0 (by omega) (by decide) zkb_u3 ?_
    refine zj_aload_n 13 rfl rfl rfl ?_
    refine zj_get 14 rfl rfl zkb_0 rfl ?_
    refine zj_aload_n 15 rfl rfl rfl ?_
    refine zj_get 16 rfl rfl zkb_0 rfl ?_
    refine zj_iload_n 17 rfl rfl rfl ?_
    refine zn_iast 18 (n0) rfl rfl zkb_4 h0 (by omega) (by decide) zkb_u4 ?_
    refine zj_aload_n 19 rfl rfl rfl ?_
    refine zj_get 20 rfl rfl zkb_0 rfl ?_
    refine zj_aload_n 21 rfl rfl rfl ?_
    refine zj_get 22 rfl rfl zkb_0 rfl ?_
    refine zj_iload_n 23 rfl rfl rfl ?_
    refine zn_iast 24 (n0) rfl rfl zkb_5 h0 (by omega) (by decide) zkb_u5 ?_
    refine zj_aload_n 25 rfl rfl rfl ?_
    refine zj_dup 26 rfl rfl rfl ?_
    refine zj_get 27 rfl rfl zkb_0 rfl ?_
    refine zj_iconst 28 (1) rfl rfl (by decide) ?_
    refine zn_iadd 29 (n0) (1) rfl rfl h0 rfl ?_
    refine zn_put 30 rfl rfl zkb_0 rfl rfl rfl rfl zkb_p_sheetCount ?_
    refine zj_aload_n 31 rfl rfl rfl ?_
    refine zj_get 32 rfl rfl zkb_0 rfl ?_
    refine zj_iconst 33 (1) rfl rfl (by decide) ?_
    refine zn_isub 34 (n0 + 1) (1) rfl rfl rfl rfl (by omega) ?_
    refine zj_ireturn 35 rfl rfl rfl ?_
    exact ⟨zrt (by rw [Nat.add_sub_cancel]), rfl, rfl⟩
  · exact absurd (zr_of (n := 16) hb (by decide)) (zo_0.mp c9)
theorem k_BaddSheet_full (x1 x2 x3 : Int32) (h0 : M.2.2.1 1 = nI 16) : zM E YBk_addSheet 2 [.ref a, .int x1, .int x2, .int x3] (zkb σ a M) (some (.int (-4))) (zkb σ a M) := by
  refine zM.of oBk_addSheet (by decide +kernel) rfl rfl (fun n => ?_)
  refine zj_aload_n 0 rfl rfl rfl ?_
  refine zj_get 1 rfl rfl zkb_0 rfl ?_
  rw [h0]
  refine zj_bipush 2 (16) rfl rfl (by decide) ?_
  refine zj_csx 3 rfl rfl lk_0_40 ckD_isOneOf (k_isOneOf _ _) rfl rfl rfl rfl ?_
  refine zj_if_ne 4 rfl rfl (fun c9 => ?_) (fun c9 => ?_)
  · exact absurd (zo_n0.mp c9) (by decide +kernel)
  · refine zj_bipush 5 (-4) rfl rfl (by decide) ?_
    refine zj_ireturn 6 rfl rfl rfl ?_
    exact ⟨rfl, rfl, rfl⟩
theorem k_BaddShow (x1 x2 x3 : Int32) (n0 : Nat) (h0 : M.2.2.1 2 = nI n0) (hb : n0 < 60) : zM E YBk_addShow 2 [.ref a, .int x1, .int x2, .int x3] (zkb σ a M) (some (.int (nI (n0 + 1)))) (zkb σ a ((((M.sA 5 (va_up (M.1 5) n0 x1)).sA 6 (va_up (M.1 6) n0 x2)).sA 7 (va_up (M.1 7) n0 x3)).sI 2 (nI (n0 + 1)))) := by
  refine zM.of oBk_addShow (by decide +kernel) rfl rfl (fun n => ?_)
  refine zj_aload_n 0 rfl rfl rfl ?_
  refine zj_get 1 rfl rfl zkb_0 rfl ?_
  rw [h0]
  refine zj_bipush 2 (60) rfl rfl (by decide) ?_
  refine zj_csx 3 rfl rfl lk_0_40 ckD_isOneOf (k_isOneOf _ _) rfl rfl rfl rfl ?_
  refine zj_if_ne 4 rfl rfl (fun c9 => ?_) (fun c9 => ?_)
  · refine zj_aload_n 7 rfl rfl rfl ?_
    refine zj_get 8 rfl rfl zkb_0 rfl ?_
    refine zj_aload_n 9 rfl rfl rfl ?_
    refine zj_get 10 rfl rfl zkb_0 rfl ?_
    refine zj_iload_n 11 rfl rfl rfl ?_
    refine zn_iast 12 (n0) rfl rfl zkb_6 h0 (by omega) (by decide) zkb_u6 ?_
    refine zj_aload_n 13 rfl rfl rfl ?_
    refine zj_get 14 rfl rfl zkb_0 rfl ?_
    refine zj_aload_n 15 rfl rfl rfl ?_
    refine zj_get 16 rfl rfl zkb_0 rfl ?_
    refine zj_iload_n 17 rfl rfl rfl ?_
    refine zn_iast 18 (n0) rfl rfl zkb_7 h0 (by omega) (by decide) zkb_u7 ?_
    refine zj_aload_n 19 rfl rfl rfl ?_
    refine zj_get 20 rfl rfl zkb_0 rfl ?_
    refine zj_aload_n 21 rfl rfl rfl ?_
    refine zj_get 22 rfl rfl zkb_0 rfl ?_
    refine zj_iload_n 23 rfl rfl rfl ?_
    refine zn_iast 24 (n0) rfl rfl zkb_8 h0 (by omega) (by decide) zkb_u8 ?_
    refine zj_aload_n 25 rfl rfl rfl ?_
    refine zj_dup 26 rfl rfl rfl ?_
    refine zj_get 27 rfl rfl zkb_0 rfl ?_
    refine zj_iconst 28 (1) rfl rfl (by decide) ?_
    refine zn_iadd 29 (n0) (1) rfl rfl h0 rfl ?_
    refine zn_put 30 rfl rfl zkb_0 rfl rfl rfl rfl zkb_p_showCount ?_
    refine zj_aload_n 31 rfl rfl rfl ?_
    refine zj_get 32 rfl rfl zkb_0 rfl ?_
    refine zj_ireturn 33 rfl rfl rfl ?_
    exact ⟨rfl, rfl, rfl⟩
  · exact absurd (zr_of (n := 60) hb (by decide)) (zo_0.mp c9)
theorem k_BaddShow_full (x1 x2 x3 : Int32) (h0 : M.2.2.1 2 = nI 60) : zM E YBk_addShow 2 [.ref a, .int x1, .int x2, .int x3] (zkb σ a M) (some (.int (-4))) (zkb σ a M) := by
  refine zM.of oBk_addShow (by decide +kernel) rfl rfl (fun n => ?_)
  refine zj_aload_n 0 rfl rfl rfl ?_
  refine zj_get 1 rfl rfl zkb_0 rfl ?_
  rw [h0]
  refine zj_bipush 2 (60) rfl rfl (by decide) ?_
  refine zj_csx 3 rfl rfl lk_0_40 ckD_isOneOf (k_isOneOf _ _) rfl rfl rfl rfl ?_
  refine zj_if_ne 4 rfl rfl (fun c9 => ?_) (fun c9 => ?_)
  · exact absurd (zo_n0.mp c9) (by decide +kernel)
  · refine zj_bipush 5 (-4) rfl rfl (by decide) ?_
    refine zj_ireturn 6 rfl rfl rfl ?_
    exact ⟨rfl, rfl, rfl⟩
theorem k_Gadd (x1 x2 x3 : Int32) (n0 : Nat) (h0 : M.2.2.1 0 = nI n0) (hb : n0 < 12) : zM E YGu_add 2 [.ref a, .int x1, .int x2, .int x3] (zkg σ a M) (some (.int (nI n0))) (zkg σ a ((((M.sA 0 (va_up (M.1 0) n0 x1)).sA 1 (va_up (M.1 1) n0 x2)).sA 2 (va_up (M.1 2) n0 x3)).sI 0 (nI (n0 + 1)))) := by
  refine zM.of oGu_add (by decide +kernel) rfl rfl (fun n => ?_)
  refine zj_aload_n 0 rfl rfl rfl ?_
  refine zj_get 1 rfl rfl zkg_0 rfl ?_
  rw [h0]
  refine zj_bipush 2 (12) rfl rfl (by decide) ?_
  refine zj_csx 3 rfl rfl lk_2_25 ckD_isOneOf (k_isOneOf _ _) rfl rfl rfl rfl ?_
  refine zj_if_ne 4 rfl rfl (fun c9 => ?_) (fun c9 => ?_)
  · refine zj_aload_n 7 rfl rfl rfl ?_
    refine zj_get 8 rfl rfl zkg_0 rfl ?_
    refine zj_aload_n 9 rfl rfl rfl ?_
    refine zj_get 10 rfl rfl zkg_0 rfl ?_
    refine zj_iload_n 11 rfl rfl rfl ?_
    refine zn_iast 12 (n0) rfl rfl zkg_1 h0 (by omega) (by decide) zkg_u1 ?_
    refine zj_aload_n 13 rfl rfl rfl ?_
    refine zj_get 14 rfl rfl zkg_0 rfl ?_
    refine zj_aload_n 15 rfl rfl rfl ?_
    refine zj_get 16 rfl rfl zkg_0 rfl ?_
    refine zj_iload_n 17 rfl rfl rfl ?_
    refine zn_iast 18 (n0) rfl rfl zkg_2 h0 (by omega) (by decide) zkg_u2 ?_
    refine zj_aload_n 19 rfl rfl rfl ?_
    refine zj_get 20 rfl rfl zkg_0 rfl ?_
    refine zj_aload_n 21 rfl rfl rfl ?_
    refine zj_get 22 rfl rfl zkg_0 rfl ?_
    refine zj_iload_n 23 rfl rfl rfl ?_
    refine zn_iast 24 (n0) rfl rfl zkg_3 h0 (by omega) (by decide) zkg_u3 ?_
    refine zj_aload_n 25 rfl rfl rfl ?_
    refine zj_dup 26 rfl rfl rfl ?_
    refine zj_get 27 rfl rfl zkg_0 rfl ?_
    refine zj_iconst 28 (1) rfl rfl (by decide) ?_
    refine zn_iadd 29 (n0) (1) rfl rfl h0 rfl ?_
    refine zn_put 30 rfl rfl zkg_0 rfl rfl rfl rfl zkg_p_size ?_
    refine zj_aload_n 31 rfl rfl rfl ?_
    refine zj_get 32 rfl rfl zkg_0 rfl ?_
    refine zj_iconst 33 (1) rfl rfl (by decide) ?_
    refine zn_isub 34 (n0 + 1) (1) rfl rfl rfl rfl (by omega) ?_
    refine zj_ireturn 35 rfl rfl rfl ?_
    exact ⟨zrt (by rw [Nat.add_sub_cancel]), rfl, rfl⟩
  · exact absurd (zr_of (n := 12) hb (by decide)) (zo_0.mp c9)
theorem k_Gadd_full (x1 x2 x3 : Int32) (h0 : M.2.2.1 0 = nI 12) : zM E YGu_add 2 [.ref a, .int x1, .int x2, .int x3] (zkg σ a M) (some (.int (-4))) (zkg σ a M) := by
  refine zM.of oGu_add (by decide +kernel) rfl rfl (fun n => ?_)
  refine zj_aload_n 0 rfl rfl rfl ?_
  refine zj_get 1 rfl rfl zkg_0 rfl ?_
  rw [h0]
  refine zj_bipush 2 (12) rfl rfl (by decide) ?_
  refine zj_csx 3 rfl rfl lk_2_25 ckD_isOneOf (k_isOneOf _ _) rfl rfl rfl rfl ?_
  refine zj_if_ne 4 rfl rfl (fun c9 => ?_) (fun c9 => ?_)
  · exact absurd (zo_n0.mp c9) (by decide +kernel)
  · refine zj_bipush 5 (-4) rfl rfl (by decide) ?_
    refine zj_ireturn 6 rfl rfl rfl ?_
    exact ⟨rfl, rfl, rfl⟩
theorem l_worldsIn (h : zkgAt σ a M) (ng : Nat) (h4 : M.2.2.1 0 = nI ng) (hb4 : ng ≤ 12) (may : Int32) : ∀ (m : Nat) (k : Nat), (k + m = ng) → ∀ n, zB E YGu_worldsIn 2 n (some (.int (pWd (M.1 0) may  ng))) (σ) (σ) 4 [some (.ref a), some (.int may), some (.int (pWd (M.1 0) may  k)), some (.int (nI k))] [] := by
  intro m
  induction m using Nat.strongRecOn with
  | ind m ih =>
  intro k hk n
  refine zj_iload_n 4 rfl rfl rfl ?_
  refine zj_aload_n 5 rfl rfl rfl ?_
  refine zj_get 6 rfl rfl h.1 rfl ?_
  refine zn_icmp_ge 7 (k) (ng) rfl rfl rfl h4 (by omega) (by omega) (fun c9 => ?_) (fun c9 => ?_)
  · refine zj_iload_n 23 rfl rfl rfl ?_
    refine zj_ireturn 24 rfl rfl rfl ?_
    obtain rfl : k = ng := by omega
    exact ⟨rfl, rfl, rfl⟩
  · refine zj_iload_n 8 rfl rfl rfl ?_
    refine zj_iload_n 9 rfl rfl rfl ?_
    refine zj_csx 10 rfl rfl lk_2_29 ckD_has (k_has _ _) rfl rfl rfl rfl ?_
    refine zj_if_eq 11 rfl rfl (fun c17 => ?_) (fun c17 => ?_)
    · refine zn_iinc 21 (k) rfl rfl rfl rfl ?_
      refine zj_goto 22 rfl rfl ?_
      have e : pWd (M.1 0) may  (k + 1) = pWd (M.1 0) may  k ||| (if zhas may (nI k) then 1 <<< (M.1 0 k &&& 31) else 0) := rfl
      have hh := ih (m - 1) (by omega) (k + 1) (by omega) n
      rw [e, if_neg (zo_0.mp c17), zor0] at hh
      exact hh
    · refine zj_iload_n 12 rfl rfl rfl ?_
      refine zj_iconst 13 (1) rfl rfl (by decide) ?_
      refine zj_aload_n 14 rfl rfl rfl ?_
      refine zj_get 15 rfl rfl h.1 rfl ?_
      refine zj_iload_n 16 rfl rfl rfl ?_
      refine zn_iald 17 (k) rfl rfl h.2.1 rfl (by omega) (by decide) ?_
      refine zj_ishl 18 rfl rfl ?_
      refine zj_ior 19 rfl rfl ?_
      refine zj_istore_n 20 rfl rfl ?_
      refine zn_iinc 21 (k) rfl rfl rfl rfl ?_
      refine zj_goto 22 rfl rfl ?_
      have e : pWd (M.1 0) may  (k + 1) = pWd (M.1 0) may  k ||| (if zhas may (nI k) then 1 <<< (M.1 0 k &&& 31) else 0) := rfl
      have hh := ih (m - 1) (by omega) (k + 1) (by omega) n
      rw [e, if_pos (zo_n0.mp c17)] at hh
      exact hh
theorem k_worldsIn (h : zkgAt σ a M) (ng : Nat) (h4 : M.2.2.1 0 = nI ng) (hb4 : ng ≤ 12) (may : Int32) : zM E YGu_worldsIn 2 [.ref a, .int may] (σ) (some (.int (pWd (M.1 0) may  ng))) (σ) := by
  refine zM.of oGu_worldsIn (by decide +kernel) rfl rfl (fun n => ?_)
  refine zj_iconst 0 (0) rfl rfl (by decide) ?_
  refine zj_istore_n 1 rfl rfl ?_
  refine zj_iconst 2 (0) rfl rfl (by decide) ?_
  refine zj_istore_n 3 rfl rfl ?_
  exact l_worldsIn h ng h4 hb4 may ng 0 (by omega) n
theorem l_Gmix (h : zkgAt σ a M) (ng : Nat) (h4 : M.2.2.1 0 = nI ng) (hb4 : ng ≤ 12) (h0 : Int64) : ∀ (m : Nat) (k : Nat), (k + m = ng) → ∀ n, zB E YGu_mixInto 2 n (some (.long (pM3 (M.1 0) (M.1 1) (M.1 2) h0  ng))) (σ) (σ) 5 [some (.ref a), some (.long h0), none, some (.long (pM3 (M.1 0) (M.1 1) (M.1 2) h0  k)), none, some (.int (nI k))] [] := by
  intro m
  induction m using Nat.strongRecOn with
  | ind m ih =>
  intro k hk n
  refine zj_iload 4 rfl rfl rfl ?_
  refine zj_aload_n 5 rfl rfl rfl ?_
  refine zj_get 6 rfl rfl h.1 rfl ?_
  refine zn_icmp_ge 7 (k) (ng) rfl rfl rfl h4 (by omega) (by omega) (fun c11 => ?_) (fun c11 => ?_)
  · refine zj_lload_n 30 rfl rfl rfl ?_
    refine zj_lreturn 31 rfl rfl rfl ?_
    obtain rfl : k = ng := by omega
    exact ⟨rfl, rfl, rfl⟩
  · refine zj_lload_n 8 rfl rfl rfl ?_
    refine zj_aload_n 9 rfl rfl rfl ?_
    refine zj_get 10 rfl rfl h.1 rfl ?_
    refine zj_iload 11 rfl rfl rfl ?_
    refine zn_iald 12 (k) rfl rfl h.2.1 rfl (by omega) (by decide) ?_
    refine zj_i2l 13 rfl rfl ?_
    refine zj_csx 14 rfl rfl lk_2_36 ckD_mix (k_mix _ _) rfl rfl rfl rfl ?_
    refine zj_aload_n 15 rfl rfl rfl ?_
    refine zj_get 16 rfl rfl h.1 rfl ?_
    refine zj_iload 17 rfl rfl rfl ?_
    refine zn_iald 18 (k) rfl rfl h.2.2.1 rfl (by omega) (by decide) ?_
    refine zj_i2l 19 rfl rfl ?_
    refine zj_csx 20 rfl rfl lk_2_36 ckD_mix (k_mix _ _) rfl rfl rfl rfl ?_
    refine zj_aload_n 21 rfl rfl rfl ?_
    refine zj_get 22 rfl rfl h.1 rfl ?_
    refine zj_iload 23 rfl rfl rfl ?_
    refine zn_iald 24 (k) rfl rfl h.2.2.2 rfl (by omega) (by decide) ?_
    refine zj_i2l 25 rfl rfl ?_
    refine zj_csx 26 rfl rfl lk_2_36 ckD_mix (k_mix _ _) rfl rfl rfl rfl ?_
    refine zj_lstore_n 27 rfl rfl ?_
    refine zn_iinc 28 (k) rfl rfl rfl rfl ?_
    refine zj_goto 29 rfl rfl ?_
    exact ih (m - 1) (by omega) (k + 1) (by omega) n
theorem k_Gmix (h : zkgAt σ a M) (ng : Nat) (h4 : M.2.2.1 0 = nI ng) (hb4 : ng ≤ 12) (h0 : Int64) : zM E YGu_mixInto 2 [.ref a, .long h0] (σ) (some (.long (pM3 (M.1 0) (M.1 1) (M.1 2) h0  ng))) (σ) := by
  refine zM.of oGu_mixInto (by decide +kernel) rfl rfl (fun n => ?_)
  refine zj_lload_n 0 rfl rfl rfl ?_
  refine zj_lstore_n 1 rfl rfl ?_
  refine zj_iconst 2 (0) rfl rfl (by decide) ?_
  refine zj_istore 3 rfl rfl ?_
  exact l_Gmix h ng h4 hb4 h0 ng 0 (by omega) n
theorem l_Bmix3 (h : zkbAt σ a M) (no : Nat) (h1 : M.2.2.1 0 = nI no) (hb1 : no ≤ 8) (ns : Nat) (h2 : M.2.2.1 1 = nI ns) (hb2 : ns ≤ 16) (nh : Nat) (h3 : M.2.2.1 2 = nI nh) (hb3 : nh ≤ 60) (h0 : Int64) : ∀ (m : Nat) (k : Nat), (k + m = nh) → ∀ n, zB E YBk_mixInto 2 n (some (.long (pM3 (M.1 5) (M.1 6) (M.1 7) (pM3 (M.1 4) (M.1 2) (M.1 3) (pM2 (M.1 0) (M.1 1) h0 no) ns) nh))) (σ) (σ) 100 [some (.ref a), some (.long h0), none, some (.long (pM3 (M.1 5) (M.1 6) (M.1 7) (pM3 (M.1 4) (M.1 2) (M.1 3) (pM2 (M.1 0) (M.1 1) h0 no) ns) k)), none, some (.int (nI k))] [] := by
  intro m
  induction m using Nat.strongRecOn with
  | ind m ih =>
  intro k hk n
  refine zj_iload 54 rfl rfl rfl ?_
  refine zj_aload_n 55 rfl rfl rfl ?_
  refine zj_get 56 rfl rfl h.1 rfl ?_
  refine zn_icmp_ge 57 (k) (nh) rfl rfl rfl h3 (by omega) (by omega) (fun c106 => ?_) (fun c106 => ?_)
  · refine zj_lload_n 80 rfl rfl rfl ?_
    refine zj_lreturn 81 rfl rfl rfl ?_
    obtain rfl : k = nh := by omega
    exact ⟨rfl, rfl, rfl⟩
  · refine zj_lload_n 58 rfl rfl rfl ?_
    refine zj_aload_n 59 rfl rfl rfl ?_
    refine zj_get 60 rfl rfl h.1 rfl ?_
    refine zj_iload 61 rfl rfl rfl ?_
    refine zn_iald 62 (k) rfl rfl h.2.2.2.2.2.2.1 rfl (by omega) (by decide) ?_
    refine zj_i2l 63 rfl rfl ?_
    refine zj_csx 64 rfl rfl lk_0_105 ckD_mix (k_mix _ _) rfl rfl rfl rfl ?_
    refine zj_aload_n 65 rfl rfl rfl ?_
    refine zj_get 66 rfl rfl h.1 rfl ?_
    refine zj_iload 67 rfl rfl rfl ?_
    refine zn_iald 68 (k) rfl rfl h.2.2.2.2.2.2.2.1 rfl (by omega) (by decide) ?_
    refine zj_i2l 69 rfl rfl ?_
    refine zj_csx 70 rfl rfl lk_0_105 ckD_mix (k_mix _ _) rfl rfl rfl rfl ?_
    refine zj_aload_n 71 rfl rfl rfl ?_
    refine zj_get 72 rfl rfl h.1 rfl ?_
    refine zj_iload 73 rfl rfl rfl ?_
    refine zn_iald 74 (k) rfl rfl h.2.2.2.2.2.2.2.2 rfl (by omega) (by decide) ?_
    refine zj_i2l 75 rfl rfl ?_
    refine zj_csx 76 rfl rfl lk_0_105 ckD_mix (k_mix _ _) rfl rfl rfl rfl ?_
    refine zj_lstore_n 77 rfl rfl ?_
    refine zn_iinc 78 (k) rfl rfl rfl rfl ?_
    refine zj_goto 79 rfl rfl ?_
    exact ih (m - 1) (by omega) (k + 1) (by omega) n
theorem l_Bmix2 (h : zkbAt σ a M) (no : Nat) (h1 : M.2.2.1 0 = nI no) (hb1 : no ≤ 8) (ns : Nat) (h2 : M.2.2.1 1 = nI ns) (hb2 : ns ≤ 16) (nh : Nat) (h3 : M.2.2.1 2 = nI nh) (hb3 : nh ≤ 60) (h0 : Int64) : ∀ (m : Nat) (k : Nat), (k + m = ns) → ∀ n, zB E YBk_mixInto 2 n (some (.long (pM3 (M.1 5) (M.1 6) (M.1 7) (pM3 (M.1 4) (M.1 2) (M.1 3) (pM2 (M.1 0) (M.1 1) h0 no) ns) nh))) (σ) (σ) 47 [some (.ref a), some (.long h0), none, some (.long (pM3 (M.1 4) (M.1 2) (M.1 3) (pM2 (M.1 0) (M.1 1) h0 no) k)), none, some (.int (nI k))] [] := by
  intro m
  induction m using Nat.strongRecOn with
  | ind m ih =>
  intro k hk n
  refine zj_iload 26 rfl rfl rfl ?_
  refine zj_aload_n 27 rfl rfl rfl ?_
  refine zj_get 28 rfl rfl h.1 rfl ?_
  refine zn_icmp_ge 29 (k) (ns) rfl rfl rfl h2 (by omega) (by omega) (fun c53 => ?_) (fun c53 => ?_)
  · refine zj_iconst 52 (0) rfl rfl (by decide) ?_
    refine zj_istore 53 rfl rfl ?_
    obtain rfl : k = ns := by omega
    exact l_Bmix3 h no h1 hb1 k h2 hb2 nh h3 hb3 h0 nh 0 (by omega) n
  · refine zj_lload_n 30 rfl rfl rfl ?_
    refine zj_aload_n 31 rfl rfl rfl ?_
    refine zj_get 32 rfl rfl h.1 rfl ?_
    refine zj_iload 33 rfl rfl rfl ?_
    refine zn_iald 34 (k) rfl rfl h.2.2.2.2.2.1 rfl (by omega) (by decide) ?_
    refine zj_i2l 35 rfl rfl ?_
    refine zj_csx 36 rfl rfl lk_0_105 ckD_mix (k_mix _ _) rfl rfl rfl rfl ?_
    refine zj_aload_n 37 rfl rfl rfl ?_
    refine zj_get 38 rfl rfl h.1 rfl ?_
    refine zj_iload 39 rfl rfl rfl ?_
    refine zn_iald 40 (k) rfl rfl h.2.2.2.1 rfl (by omega) (by decide) ?_
    refine zj_i2l 41 rfl rfl ?_
    refine zj_csx 42 rfl rfl lk_0_105 ckD_mix (k_mix _ _) rfl rfl rfl rfl ?_
    refine zj_aload_n 43 rfl rfl rfl ?_
    refine zj_get 44 rfl rfl h.1 rfl ?_
    refine zj_iload 45 rfl rfl rfl ?_
    refine zn_iald 46 (k) rfl rfl h.2.2.2.2.1 rfl (by omega) (by decide) ?_
    refine zj_i2l 47 rfl rfl ?_
    refine zj_csx 48 rfl rfl lk_0_105 ckD_mix (k_mix _ _) rfl rfl rfl rfl ?_
    refine zj_lstore_n 49 rfl rfl ?_
    refine zn_iinc 50 (k) rfl rfl rfl rfl ?_
    refine zj_goto 51 rfl rfl ?_
    exact ih (m - 1) (by omega) (k + 1) (by omega) n
theorem l_Bmix1 (h : zkbAt σ a M) (no : Nat) (h1 : M.2.2.1 0 = nI no) (hb1 : no ≤ 8) (ns : Nat) (h2 : M.2.2.1 1 = nI ns) (hb2 : ns ≤ 16) (nh : Nat) (h3 : M.2.2.1 2 = nI nh) (hb3 : nh ≤ 60) (h0 : Int64) : ∀ (m : Nat) (k : Nat), (k + m = no) → ∀ n, zB E YBk_mixInto 2 n (some (.long (pM3 (M.1 5) (M.1 6) (M.1 7) (pM3 (M.1 4) (M.1 2) (M.1 3) (pM2 (M.1 0) (M.1 1) h0 no) ns) nh))) (σ) (σ) 5 [some (.ref a), some (.long h0), none, some (.long (pM2 (M.1 0) (M.1 1) h0 k)), none, some (.int (nI k))] [] := by
  intro m
  induction m using Nat.strongRecOn with
  | ind m ih =>
  intro k hk n
  refine zj_iload 4 rfl rfl rfl ?_
  refine zj_aload_n 5 rfl rfl rfl ?_
  refine zj_get 6 rfl rfl h.1 rfl ?_
  refine zn_icmp_ge 7 (k) (no) rfl rfl rfl h1 (by omega) (by omega) (fun c11 => ?_) (fun c11 => ?_)
  · refine zj_iconst 24 (0) rfl rfl (by decide) ?_
    refine zj_istore 25 rfl rfl ?_
    obtain rfl : k = no := by omega
    exact l_Bmix2 h k h1 hb1 ns h2 hb2 nh h3 hb3 h0 ns 0 (by omega) n
  · refine zj_lload_n 8 rfl rfl rfl ?_
    refine zj_aload_n 9 rfl rfl rfl ?_
    refine zj_get 10 rfl rfl h.1 rfl ?_
    refine zj_iload 11 rfl rfl rfl ?_
    refine zn_iald 12 (k) rfl rfl h.2.1 rfl (by omega) (by decide) ?_
    refine zj_i2l 13 rfl rfl ?_
    refine zj_csx 14 rfl rfl lk_0_105 ckD_mix (k_mix _ _) rfl rfl rfl rfl ?_
    refine zj_aload_n 15 rfl rfl rfl ?_
    refine zj_get 16 rfl rfl h.1 rfl ?_
    refine zj_iload 17 rfl rfl rfl ?_
    refine zn_iald 18 (k) rfl rfl h.2.2.1 rfl (by omega) (by decide) ?_
    refine zj_i2l 19 rfl rfl ?_
    refine zj_csx 20 rfl rfl lk_0_105 ckD_mix (k_mix _ _) rfl rfl rfl rfl ?_
    refine zj_lstore_n 21 rfl rfl ?_
    refine zn_iinc 22 (k) rfl rfl rfl rfl ?_
    refine zj_goto 23 rfl rfl ?_
    exact ih (m - 1) (by omega) (k + 1) (by omega) n
theorem k_Bmix (h : zkbAt σ a M) (no : Nat) (h1 : M.2.2.1 0 = nI no) (hb1 : no ≤ 8) (ns : Nat) (h2 : M.2.2.1 1 = nI ns) (hb2 : ns ≤ 16) (nh : Nat) (h3 : M.2.2.1 2 = nI nh) (hb3 : nh ≤ 60) (h0 : Int64) : zM E YBk_mixInto 2 [.ref a, .long h0] (σ) (some (.long (pM3 (M.1 5) (M.1 6) (M.1 7) (pM3 (M.1 4) (M.1 2) (M.1 3) (pM2 (M.1 0) (M.1 1) h0 no) ns) nh))) (σ) := by
  refine zM.of oBk_mixInto (by decide +kernel) rfl rfl (fun n => ?_)
  refine zj_lload_n 0 rfl rfl rfl ?_
  refine zj_lstore_n 1 rfl rfl ?_
  refine zj_iconst 2 (0) rfl rfl (by decide) ?_
  refine zj_istore 3 rfl rfl ?_
  exact l_Bmix1 h no h1 hb1 ns h2 hb2 nh h3 hb3 h0 no 0 (by omega) n
end
