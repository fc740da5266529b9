/-! the reference: sheets made and told, observers, guesses, counts -/
theorem va_up_ne' {α : Type} {f : Nat → α} {k j : Nat} {x : α} (h : j ≠ k) : va_up f k x j = f j := by simp [va_up, h]
section
variable {E : zE} {σ : zH} {a : Nat} {M : zMo}
theorem k_addSheet (o night lines : Int32) (ns : Nat) (h2 : M.1 0 549 = nI ns) (hb2 : ns < 16) : zM E YM_addSheet 1 [.ref a, .int o, .int night, .int lines] (mw σ a M) (some (.int (nI ns))) (mw σ a (M.sA 0 (va_up (va_up (va_up (va_up (M.1 0) (550 + 3 * ns) lines) (551 + 3 * ns) o) (552 + 3 * ns) night) 549 (nI (ns + 1))))) := by
  refine zM.of oM_addSheet (by decide +kernel) rfl rfl (fun n => ?_)
  refine zj_aload_n 0 rfl rfl rfl ?_
  refine zj_get 1 rfl rfl mw_0 rfl ?_
  refine zj_sipush 2 (549) rfl rfl (by decide) ?_
  refine zn_iald 3 (549) rfl rfl mw_1 rfl (by omega) (by decide) ?_
  refine zj_istore 4 rfl rfl ?_
  refine zj_aload_n 5 rfl rfl rfl ?_
  refine zj_get 6 rfl rfl mw_0 rfl ?_
  refine zj_sipush 7 (550) rfl rfl (by decide) ?_
  refine zj_iconst 8 (3) rfl rfl (by decide) ?_
  refine zj_iload 9 rfl rfl rfl ?_
  refine zn_imul 10 (3) (ns) rfl rfl rfl h2 ?_
  refine zn_iadd 11 (550) (3 * ns) rfl rfl rfl rfl ?_
  refine zj_iload_n 12 rfl rfl rfl ?_
  refine zn_iast 13 ((550) + (3 * ns)) rfl rfl mw_1 rfl (by omega) (by decide) mw_u1 ?_
  refine zj_aload_n 14 rfl rfl rfl ?_
  refine zj_get 15 rfl rfl mw_0 rfl ?_
  refine zj_sipush 16 (551) rfl rfl (by decide) ?_
  refine zj_iconst 17 (3) rfl rfl (by decide) ?_
  refine zj_iload 18 rfl rfl rfl ?_
  refine zn_imul 19 (3) (ns) rfl rfl rfl h2 ?_
  refine zn_iadd 20 (551) (3 * ns) rfl rfl rfl rfl ?_
  refine zj_iload_n 21 rfl rfl rfl ?_
  refine zn_iast 22 ((551) + (3 * ns)) rfl rfl mw_1 rfl (by omega) (by decide) mw_u1 ?_
  refine zj_aload_n 23 rfl rfl rfl ?_
  refine zj_get 24 rfl rfl mw_0 rfl ?_
  refine zj_sipush 25 (552) rfl rfl (by decide) ?_
  refine zj_iconst 26 (3) rfl rfl (by decide) ?_
  refine zj_iload 27 rfl rfl rfl ?_
  refine zn_imul 28 (3) (ns) rfl rfl rfl h2 ?_
  refine zn_iadd 29 (552) (3 * ns) rfl rfl rfl rfl ?_
  refine zj_iload_n 30 rfl rfl rfl ?_
  refine zn_iast 31 ((552) + (3 * ns)) rfl rfl mw_1 rfl (by omega) (by decide) mw_u1 ?_
  refine zj_aload_n 32 rfl rfl rfl ?_
  refine zj_get 33 rfl rfl mw_0 rfl ?_
  refine zj_sipush 34 (549) rfl rfl (by decide) ?_
  refine zj_dup2 35 rfl rfl rfl rfl ?_
  refine zn_iald 36 (549) rfl rfl mw_1 rfl (by omega) (by decide) ?_
  refine zj_iconst 37 (1) rfl rfl (by decide) ?_
  refine zn_iadd 38 (ns) (1) rfl rfl (by simp [va_up, show ¬ (549 = 550 + 3 * ns) by omega, show ¬ (549 = 551 + 3 * ns) by omega, show ¬ (549 = 552 + 3 * ns) by omega, h2]) rfl ?_
  refine zn_iast 39 (549) rfl rfl mw_1 rfl (by omega) (by decide) mw_u1 ?_
  refine zj_iload 40 rfl rfl rfl ?_
  refine zj_ireturn 41 rfl rfl rfl ?_
  rw [h2]
  exact ⟨rfl, rfl, by simp only [zMo.sA_sA]; rfl⟩
theorem k_Mobserver (l w no : Nat) (hl : l < 4) (hw : w < 10) (h : M.1 0 532 = nI no) (hb : no < 8) : zM E YM_observer 3 [.ref a, .int (nI l), .int (nI w)] (mw σ a M) (some (.int (nI no))) (mw σ a (M.sA 0 (va_up (va_up (va_up (M.1 0) (533 + 2 * no) (nI l)) (534 + 2 * no) (nI w)) 532 (nI (no + 1))))) := by
  refine zM.of oM_observer (by decide +kernel) rfl rfl (fun n => ?_)
  refine zj_iload_n 0 rfl rfl rfl ?_
  refine zj_csx 1 rfl rfl lk_8_57 ckM_isFour (k_isFour _) rfl rfl rfl rfl ?_
  refine zj_if_eq 2 rfl rfl (fun c4 => ?_) (fun c4 => ?_)
  · exact absurd (zr_of (n := 4) (by omega) (by decide)) (zo_0.mp c4)
  · refine zj_iload_n 3 rfl rfl rfl ?_
    refine zj_i2l 4 rfl rfl ?_
    refine zj_lconst 5 (0) rfl rfl (by decide) ?_
    refine zj_ldc2 6 (9) rfl rfl (by decide) ?_
    refine zj_csx 7 rfl rfl lk_8_51 ckM_in (k_in0 _ _ 10 (by decide)) rfl rfl rfl rfl ?_
    refine zj_if_ne 8 rfl rfl (fun c16 => ?_) (fun c16 => ?_)
    · refine zj_aload_n 11 rfl rfl rfl ?_
      refine zj_get 12 rfl rfl mw_0 rfl ?_
      refine zj_sipush 13 (532) rfl rfl (by decide) ?_
      refine zn_iald 14 (532) rfl rfl mw_1 rfl (by omega) (by decide) ?_
      refine zj_istore_n 15 rfl rfl ?_
      refine zj_iload_n 16 rfl rfl rfl ?_
      refine zj_bipush 17 (8) rfl rfl (by decide) ?_
      refine zn_icmp_ne 18 (no) (8) rfl rfl h rfl (by omega) (by omega) (fun c34 => ?_) (fun c34 => ?_)
      · refine zj_aload_n 21 rfl rfl rfl ?_
        refine zj_get 22 rfl rfl mw_0 rfl ?_
        refine zj_sipush 23 (533) rfl rfl (by decide) ?_
        refine zj_iconst 24 (2) rfl rfl (by decide) ?_
        refine zj_iload_n 25 rfl rfl rfl ?_
        refine zn_imul 26 (2) (no) rfl rfl rfl h ?_
        refine zn_iadd 27 (533) (2 * no) rfl rfl rfl rfl ?_
        refine zj_iload_n 28 rfl rfl rfl ?_
        refine zn_iast 29 ((533) + (2 * no)) rfl rfl mw_1 rfl (by omega) (by decide) mw_u1 ?_
        refine zj_aload_n 30 rfl rfl rfl ?_
        refine zj_get 31 rfl rfl mw_0 rfl ?_
        refine zj_sipush 32 (534) rfl rfl (by decide) ?_
        refine zj_iconst 33 (2) rfl rfl (by decide) ?_
        refine zj_iload_n 34 rfl rfl rfl ?_
        refine zn_imul 35 (2) (no) rfl rfl rfl h ?_
        refine zn_iadd 36 (534) (2 * no) rfl rfl rfl rfl ?_
        refine zj_iload_n 37 rfl rfl rfl ?_
        refine zn_iast 38 ((534) + (2 * no)) rfl rfl mw_1 rfl (by omega) (by decide) mw_u1 ?_
        refine zj_aload_n 39 rfl rfl rfl ?_
        refine zj_get 40 rfl rfl mw_0 rfl ?_
        refine zj_sipush 41 (532) rfl rfl (by decide) ?_
        refine zj_dup2 42 rfl rfl rfl rfl ?_
        refine zn_iald 43 (532) rfl rfl mw_1 rfl (by omega) (by decide) ?_
        refine zj_iconst 44 (1) rfl rfl (by decide) ?_
        refine zn_iadd 45 (no) (1) rfl rfl (by simp [va_up, show ¬ (532 = 533 + 2 * no) by omega, show ¬ (532 = 534 + 2 * no) by omega, h]) rfl ?_
        refine zn_iast 46 (532) rfl rfl mw_1 rfl (by omega) (by decide) mw_u1 ?_
        refine zj_iload_n 47 rfl rfl rfl ?_
        refine zj_ireturn 48 rfl rfl rfl ?_
        rw [h]
        exact ⟨rfl, rfl, by simp only [zMo.sA_sA]; rfl⟩
      · exact absurd c34 (by omega)
    · exact absurd (zr_of (n := 10) (by omega) (by decide)) (zo_0.mp c16)
theorem k_Mobserver_full (l w : Nat) (hl : l < 4) (hw : w < 10) (h : M.1 0 532 = nI 8) : zM E YM_observer 3 [.ref a, .int (nI l), .int (nI w)] (mw σ a M) (some (.int (-4))) (mw σ a M) := by
  refine zM.of oM_observer (by decide +kernel) rfl rfl (fun n => ?_)
  refine zj_iload_n 0 rfl rfl rfl ?_
  refine zj_csx 1 rfl rfl lk_8_57 ckM_isFour (k_isFour _) rfl rfl rfl rfl ?_
  refine zj_if_eq 2 rfl rfl (fun c4 => ?_) (fun c4 => ?_)
  · exact absurd (zr_of (n := 4) (by omega) (by decide)) (zo_0.mp c4)
  · refine zj_iload_n 3 rfl rfl rfl ?_
    refine zj_i2l 4 rfl rfl ?_
    refine zj_lconst 5 (0) rfl rfl (by decide) ?_
    refine zj_ldc2 6 (9) rfl rfl (by decide) ?_
    refine zj_csx 7 rfl rfl lk_8_51 ckM_in (k_in0 _ _ 10 (by decide)) rfl rfl rfl rfl ?_
    refine zj_if_ne 8 rfl rfl (fun c16 => ?_) (fun c16 => ?_)
    · refine zj_aload_n 11 rfl rfl rfl ?_
      refine zj_get 12 rfl rfl mw_0 rfl ?_
      refine zj_sipush 13 (532) rfl rfl (by decide) ?_
      refine zn_iald 14 (532) rfl rfl mw_1 rfl (by omega) (by decide) ?_
      refine zj_istore_n 15 rfl rfl ?_
      refine zj_iload_n 16 rfl rfl rfl ?_
      refine zj_bipush 17 (8) rfl rfl (by decide) ?_
      refine zn_icmp_ne 18 (8) (8) rfl rfl h rfl (by omega) (by omega) (fun c34 => ?_) (fun c34 => ?_)
      · exact absurd c34 (by decide)
      · refine zj_bipush 19 (-4) rfl rfl (by decide) ?_
        refine zj_ireturn 20 rfl rfl rfl ?_
        exact ⟨rfl, rfl, rfl⟩
    · exact absurd (zr_of (n := 10) (by omega) (by decide)) (zo_0.mp c16)
theorem k_Mobserver_bad (l w : Int32) (hb : ¬ (zr l 4 ∧ zr w 10)) : zM E YM_observer 3 [.ref a, .int l, .int w] (mw σ a M) (some (.int (-2))) (mw σ a M) := by
  refine zM.of oM_observer (by decide +kernel) rfl rfl (fun n => ?_)
  refine zj_iload_n 0 rfl rfl rfl ?_
  refine zj_csx 1 rfl rfl lk_8_57 ckM_isFour (k_isFour _) rfl rfl rfl rfl ?_
  refine zj_if_eq 2 rfl rfl (fun c4 => ?_) (fun c4 => ?_)
  · refine zj_bipush 9 (-2) rfl rfl (by decide) ?_
    refine zj_ireturn 10 rfl rfl rfl ?_
    exact ⟨rfl, rfl, rfl⟩
  · refine zj_iload_n 3 rfl rfl rfl ?_
    refine zj_i2l 4 rfl rfl ?_
    refine zj_lconst 5 (0) rfl rfl (by decide) ?_
    refine zj_ldc2 6 (9) rfl rfl (by decide) ?_
    refine zj_csx 7 rfl rfl lk_8_51 ckM_in (k_in0 _ _ 10 (by decide)) rfl rfl rfl rfl ?_
    refine zj_if_ne 8 rfl rfl (fun c16 => ?_) (fun c16 => ?_)
    · exact absurd ⟨zo_n0.mp c4, zo_n0.mp c16⟩ hb
    · refine zj_bipush 9 (-2) rfl rfl (by decide) ?_
      refine zj_ireturn 10 rfl rfl rfl ?_
      exact ⟨rfl, rfl, rfl⟩
theorem k_Mguess (w l g ng : Nat) (hw : w < 4) (hl : l < 4) (hg : g < 4) (h : M.1 0 780 = nI ng) (hb : ng < 12) : zM E YM_guess 3 [.ref a, .int (nI w), .int (nI l), .int (nI g)] (mw σ a M) (some (.int (nI ng))) (mw σ a (M.sA 0 (va_up (va_up (va_up (va_up (M.1 0) (781 + 3 * ng) (nI w)) (782 + 3 * ng) (nI l)) (783 + 3 * ng) (nI g)) 780 (nI (ng + 1))))) := by
  refine zM.of oM_guess (by decide +kernel) rfl rfl (fun n => ?_)
  refine zj_iload_n 0 rfl rfl rfl ?_
  refine zj_csx 1 rfl rfl lk_8_57 ckM_isFour (k_isFour _) rfl rfl rfl rfl ?_
  refine zj_if_eq 2 rfl rfl (fun c4 => ?_) (fun c4 => ?_)
  · exact absurd (zr_of (n := 4) (by omega) (by decide)) (zo_0.mp c4)
  · refine zj_iload_n 3 rfl rfl rfl ?_
    refine zj_csx 4 rfl rfl lk_8_57 ckM_isFour (k_isFour _) rfl rfl rfl rfl ?_
    refine zj_if_eq 5 rfl rfl (fun c11 => ?_) (fun c11 => ?_)
    · exact absurd (zr_of (n := 4) (by omega) (by decide)) (zo_0.mp c11)
    · refine zj_iload_n 6 rfl rfl rfl ?_
      refine zj_csx 7 rfl rfl lk_8_57 ckM_isFour (k_isFour _) rfl rfl rfl rfl ?_
      refine zj_if_ne 8 rfl rfl (fun c18 => ?_) (fun c18 => ?_)
      · refine zj_aload_n 11 rfl rfl rfl ?_
        refine zj_get 12 rfl rfl mw_0 rfl ?_
        refine zj_sipush 13 (780) rfl rfl (by decide) ?_
        refine zn_iald 14 (780) rfl rfl mw_1 rfl (by omega) (by decide) ?_
        refine zj_istore 15 rfl rfl ?_
        refine zj_iload 16 rfl rfl rfl ?_
        refine zj_bipush 17 (12) rfl rfl (by decide) ?_
        refine zn_icmp_ne 18 (ng) (12) rfl rfl h rfl (by omega) (by omega) (fun c38 => ?_) (fun c38 => ?_)
        · refine zj_aload_n 21 rfl rfl rfl ?_
          refine zj_get 22 rfl rfl mw_0 rfl ?_
          refine zj_sipush 23 (781) rfl rfl (by decide) ?_
          refine zj_iconst 24 (3) rfl rfl (by decide) ?_
          refine zj_iload 25 rfl rfl rfl ?_
          refine zn_imul 26 (3) (ng) rfl rfl rfl h ?_
          refine zn_iadd 27 (781) (3 * ng) rfl rfl rfl rfl ?_
          refine zj_iload_n 28 rfl rfl rfl ?_
          refine zn_iast 29 ((781) + (3 * ng)) rfl rfl mw_1 rfl (by omega) (by decide) mw_u1 ?_
          refine zj_aload_n 30 rfl rfl rfl ?_
          refine zj_get 31 rfl rfl mw_0 rfl ?_
          refine zj_sipush 32 (782) rfl rfl (by decide) ?_
          refine zj_iconst 33 (3) rfl rfl (by decide) ?_
          refine zj_iload 34 rfl rfl rfl ?_
          refine zn_imul 35 (3) (ng) rfl rfl rfl h ?_
          refine zn_iadd 36 (782) (3 * ng) rfl rfl rfl rfl ?_
          refine zj_iload_n 37 rfl rfl rfl ?_
          refine zn_iast 38 ((782) + (3 * ng)) rfl rfl mw_1 rfl (by omega) (by decide) mw_u1 ?_
          refine zj_aload_n 39 rfl rfl rfl ?_
          refine zj_get 40 rfl rfl mw_0 rfl ?_
          refine zj_sipush 41 (783) rfl rfl (by decide) ?_
          refine zj_iconst 42 (3) rfl rfl (by decide) ?_
          refine zj_iload 43 rfl rfl rfl ?_
          refine zn_imul 44 (3) (ng) rfl rfl rfl h ?_
          refine zn_iadd 45 (783) (3 * ng) rfl rfl rfl rfl ?_
          refine zj_iload_n 46 rfl rfl rfl ?_
          refine zn_iast 47 ((783) + (3 * ng)) rfl rfl mw_1 rfl (by omega) (by decide) mw_u1 ?_
          refine zj_aload_n 48 rfl rfl rfl ?_
          refine zj_get 49 rfl rfl mw_0 rfl ?_
          refine zj_sipush 50 (780) rfl rfl (by decide) ?_
          refine zj_dup2 51 rfl rfl rfl rfl ?_
          refine zn_iald 52 (780) rfl rfl mw_1 rfl (by omega) (by decide) ?_
          refine zj_iconst 53 (1) rfl rfl (by decide) ?_
          refine zn_iadd 54 (ng) (1) rfl rfl (by simp [va_up, show ¬ (780 = 781 + 3 * ng) by omega, show ¬ (780 = 782 + 3 * ng) by omega, show ¬ (780 = 783 + 3 * ng) by omega, h]) rfl ?_
          refine zn_iast 55 (780) rfl rfl mw_1 rfl (by omega) (by decide) mw_u1 ?_
          refine zj_iload 56 rfl rfl rfl ?_
          refine zj_ireturn 57 rfl rfl rfl ?_
          rw [h]
          exact ⟨rfl, rfl, by simp only [zMo.sA_sA]; rfl⟩
        · exact absurd c38 (by omega)
      · exact absurd (zr_of (n := 4) (by omega) (by decide)) (zo_0.mp c18)
theorem k_Mguess_full (w l g : Nat) (hw : w < 4) (hl : l < 4) (hg : g < 4) (h : M.1 0 780 = nI 12) : zM E YM_guess 3 [.ref a, .int (nI w), .int (nI l), .int (nI g)] (mw σ a M) (some (.int (-4))) (mw σ a M) := by
  refine zM.of oM_guess (by decide +kernel) rfl rfl (fun n => ?_)
  refine zj_iload_n 0 rfl rfl rfl ?_
  refine zj_csx 1 rfl rfl lk_8_57 ckM_isFour (k_isFour _) rfl rfl rfl rfl ?_
  refine zj_if_eq 2 rfl rfl (fun c4 => ?_) (fun c4 => ?_)
  · exact absurd (zr_of (n := 4) (by omega) (by decide)) (zo_0.mp c4)
  · refine zj_iload_n 3 rfl rfl rfl ?_
    refine zj_csx 4 rfl rfl lk_8_57 ckM_isFour (k_isFour _) rfl rfl rfl rfl ?_
    refine zj_if_eq 5 rfl rfl (fun c11 => ?_) (fun c11 => ?_)
    · exact absurd (zr_of (n := 4) (by omega) (by decide)) (zo_0.mp c11)
    · refine zj_iload_n 6 rfl rfl rfl ?_
      refine zj_csx 7 rfl rfl lk_8_57 ckM_isFour (k_isFour _) rfl rfl rfl rfl ?_
      refine zj_if_ne 8 rfl rfl (fun c18 => ?_) (fun c18 => ?_)
      · refine zj_aload_n 11 rfl rfl rfl ?_
        refine zj_get 12 rfl rfl mw_0 rfl ?_
        refine zj_sipush 13 (780) rfl rfl (by decide) ?_
        refine zn_iald 14 (780) rfl rfl mw_1 rfl (by omega) (by decide) ?_
        refine zj_istore 15 rfl rfl ?_
        refine zj_iload 16 rfl rfl rfl ?_
        refine zj_bipush 17 (12) rfl rfl (by decide) ?_
        refine zn_icmp_ne 18 (12) (12) rfl rfl h rfl (by omega) (by omega) (fun c38 => ?_) (fun c38 => ?_)
        · exact absurd c38 (by decide)
        · refine zj_bipush 19 (-4) rfl rfl (by decide) ?_
          refine zj_ireturn 20 rfl rfl rfl ?_
          exact ⟨rfl, rfl, rfl⟩
      · exact absurd (zr_of (n := 4) (by omega) (by decide)) (zo_0.mp c18)
theorem k_Mguess_bad (w l g : Int32) (hb : ¬ (zr w 4 ∧ zr l 4 ∧ zr g 4)) : zM E YM_guess 3 [.ref a, .int w, .int l, .int g] (mw σ a M) (some (.int (-2))) (mw σ a M) := by
  refine zM.of oM_guess (by decide +kernel) rfl rfl (fun n => ?_)
  refine zj_iload_n 0 rfl rfl rfl ?_
  refine zj_csx 1 rfl rfl lk_8_57 ckM_isFour (k_isFour _) rfl rfl rfl rfl ?_
  refine zj_if_eq 2 rfl rfl (fun c4 => ?_) (fun c4 => ?_)
  · refine zj_bipush 9 (-2) rfl rfl (by decide) ?_
    refine zj_ireturn 10 rfl rfl rfl ?_
    exact ⟨rfl, rfl, rfl⟩
  · refine zj_iload_n 3 rfl rfl rfl ?_
    refine zj_csx 4 rfl rfl lk_8_57 ckM_isFour (k_isFour _) rfl rfl rfl rfl ?_
    refine zj_if_eq 5 rfl rfl (fun c11 => ?_) (fun c11 => ?_)
    · refine zj_bipush 9 (-2) rfl rfl (by decide) ?_
      refine zj_ireturn 10 rfl rfl rfl ?_
      exact ⟨rfl, rfl, rfl⟩
    · refine zj_iload_n 6 rfl rfl rfl ?_
      refine zj_csx 7 rfl rfl lk_8_57 ckM_isFour (k_isFour _) rfl rfl rfl rfl ?_
      refine zj_if_ne 8 rfl rfl (fun c18 => ?_) (fun c18 => ?_)
      · exact absurd ⟨zo_n0.mp c4, zo_n0.mp c11, zo_n0.mp c18⟩ hb
      · refine zj_bipush 9 (-2) rfl rfl (by decide) ?_
        refine zj_ireturn 10 rfl rfl rfl ?_
        exact ⟨rfl, rfl, rfl⟩
theorem k_Msheet (o night lines : Int32) (no ns : Nat) (h : M.1 0 532 = nI no) (hb : no ≤ 8) (h2 : M.1 0 549 = nI ns) (hb2 : ns ≤ 16) (hv : zr o no ∧ pLast (rSn (M.1 0)) ns ≤ night.toInt ∧ night.toInt ≤ 999) (hli : zr lines 268435456) (hns : ns < 16) : zM E YM_sheet 4 [.ref a, .int o, .int night, .int lines] (mw σ a M) (some (.int (nI ns))) (mw σ a (M.sA 0 (va_up (va_up (va_up (va_up (M.1 0) (550 + 3 * ns) lines) (551 + 3 * ns) o) (552 + 3 * ns) night) 549 (nI (ns + 1))))) := by
  refine zM.of oM_sheet (by decide +kernel) rfl rfl (fun n => ?_)
  refine zj_aload_n 0 rfl rfl rfl ?_
  refine zj_iload_n 1 rfl rfl rfl ?_
  refine zj_iload_n 2 rfl rfl rfl ?_
  refine zj_cvx 3 rfl rfl lk_8_197 ckM_isNext (k_isNext _ _ no ns h hb h2 hb2) rfl mw_0 rfl rfl rfl ?_
  refine zj_if_eq 4 rfl rfl (fun c6 => ?_) (fun c6 => ?_)
  · exact absurd hv (zo_0.mp c6)
  · refine zj_iload_n 5 rfl rfl rfl ?_
    refine zj_csx 6 rfl rfl lk_8_174 ckM_isLines (k_isLines _) rfl rfl rfl rfl ?_
    refine zj_if_ne 7 rfl rfl (fun c13 => ?_) (fun c13 => ?_)
    · refine zj_aload_n 10 rfl rfl rfl ?_
      refine zj_get 11 rfl rfl mw_0 rfl ?_
      refine zj_sipush 12 (549) rfl rfl (by decide) ?_
      refine zn_iald 13 (549) rfl rfl mw_1 rfl (by omega) (by decide) ?_
      refine zj_bipush 14 (16) rfl rfl (by decide) ?_
      refine zn_icmp_ne 15 (ns) (16) rfl rfl h2 rfl (by omega) (by omega) (fun c29 => ?_) (fun c29 => ?_)
      · refine zj_aload_n 18 rfl rfl rfl ?_
        refine zj_iload_n 19 rfl rfl rfl ?_
        refine zj_iload_n 20 rfl rfl rfl ?_
        refine zj_iload_n 21 rfl rfl rfl ?_
        refine zj_cvx 22 rfl rfl lk_8_201 ckM_addSheet (k_addSheet _ _ _ ns h2 hns) rfl mw_0 rfl rfl rfl ?_
        refine zj_ireturn 23 rfl rfl rfl ?_
        exact ⟨rfl, rfl, rfl⟩
      · exact absurd c29 (by omega)
    · exact absurd hli (zo_0.mp c13)
theorem k_Msheet_full (o night lines : Int32) (no : Nat) (h : M.1 0 532 = nI no) (hb : no ≤ 8) (h2 : M.1 0 549 = nI 16) (hv : zr o no ∧ pLast (rSn (M.1 0)) 16 ≤ night.toInt ∧ night.toInt ≤ 999) (hli : zr lines 268435456) : zM E YM_sheet 4 [.ref a, .int o, .int night, .int lines] (mw σ a M) (some (.int (-4))) (mw σ a M) := by
  refine zM.of oM_sheet (by decide +kernel) rfl rfl (fun n => ?_)
  refine zj_aload_n 0 rfl rfl rfl ?_
  refine zj_iload_n 1 rfl rfl rfl ?_
  refine zj_iload_n 2 rfl rfl rfl ?_
  refine zj_cvx 3 rfl rfl lk_8_197 ckM_isNext (k_isNext _ _ no 16 h hb h2 (by decide)) rfl mw_0 rfl rfl rfl ?_
  refine zj_if_eq 4 rfl rfl (fun c6 => ?_) (fun c6 => ?_)
  · exact absurd hv (zo_0.mp c6)
  · refine zj_iload_n 5 rfl rfl rfl ?_
    refine zj_csx 6 rfl rfl lk_8_174 ckM_isLines (k_isLines _) rfl rfl rfl rfl ?_
    refine zj_if_ne 7 rfl rfl (fun c13 => ?_) (fun c13 => ?_)
    · refine zj_aload_n 10 rfl rfl rfl ?_
      refine zj_get 11 rfl rfl mw_0 rfl ?_
      refine zj_sipush 12 (549) rfl rfl (by decide) ?_
      refine zn_iald 13 (549) rfl rfl mw_1 rfl (by omega) (by decide) ?_
      refine zj_bipush 14 (16) rfl rfl (by decide) ?_
      refine zn_icmp_ne 15 (16) (16) rfl rfl h2 rfl (by omega) (by omega) (fun c29 => ?_) (fun c29 => ?_)
      · exact absurd c29 (by decide)
      · refine zj_bipush 16 (-4) rfl rfl (by decide) ?_
        refine zj_goto 17 rfl rfl ?_
        refine zj_ireturn 23 rfl rfl rfl ?_
        exact ⟨rfl, rfl, rfl⟩
    · exact absurd hli (zo_0.mp c13)
theorem k_Msheet_bad (o night lines : Int32) (no ns : Nat) (h : M.1 0 532 = nI no) (hb : no ≤ 8) (h2 : M.1 0 549 = nI ns) (hb2 : ns ≤ 16) (hv : ¬ ((zr o no ∧ pLast (rSn (M.1 0)) ns ≤ night.toInt ∧ night.toInt ≤ 999) ∧ zr lines 268435456)) : zM E YM_sheet 4 [.ref a, .int o, .int night, .int lines] (mw σ a M) (some (.int (-2))) (mw σ a M) := by
  refine zM.of oM_sheet (by decide +kernel) rfl rfl (fun n => ?_)
  refine zj_aload_n 0 rfl rfl rfl ?_
  refine zj_iload_n 1 rfl rfl rfl ?_
  refine zj_iload_n 2 rfl rfl rfl ?_
  refine zj_cvx 3 rfl rfl lk_8_197 ckM_isNext (k_isNext _ _ no ns h hb h2 hb2) rfl mw_0 rfl rfl rfl ?_
  refine zj_if_eq 4 rfl rfl (fun c6 => ?_) (fun c6 => ?_)
  · refine zj_bipush 8 (-2) rfl rfl (by decide) ?_
    refine zj_ireturn 9 rfl rfl rfl ?_
    exact ⟨rfl, rfl, rfl⟩
  · refine zj_iload_n 5 rfl rfl rfl ?_
    refine zj_csx 6 rfl rfl lk_8_174 ckM_isLines (k_isLines _) rfl rfl rfl rfl ?_
    refine zj_if_ne 7 rfl rfl (fun c13 => ?_) (fun c13 => ?_)
    · exact absurd ⟨zo_n0.mp c6, zo_n0.mp c13⟩ hv
    · refine zj_bipush 8 (-2) rfl rfl (by decide) ?_
      refine zj_ireturn 9 rfl rfl rfl ?_
      exact ⟨rfl, rfl, rfl⟩
theorem k_Mshow (s o : Nat) (night : Int32) (no ns nh : Nat) (h : M.1 0 532 = nI no) (hb : no ≤ 8) (h2 : M.1 0 549 = nI ns) (hb2 : ns ≤ 16) (h3 : M.1 0 598 = nI nh) (hs : s < ns) (ho : o < no) (hv : (rSn (M.1 0) s).toInt ≤ night.toInt ∧ night.toInt ≤ 999) (hnh : nh < 60) : zM E YM_show 3 [.ref a, .int (nI s), .int (nI o), .int night] (mw σ a M) (some (.int (nI (nh + 1)))) (mw σ a (M.sA 0 (va_up (va_up (va_up (va_up (M.1 0) (599 + 3 * nh) (nI s)) (600 + 3 * nh) (nI o)) (601 + 3 * nh) night) 598 (nI (nh + 1))))) := by
  refine zM.of oM_show (by decide +kernel) rfl rfl (fun n => ?_)
  refine zj_aload_n 0 rfl rfl rfl ?_
  refine zj_iload_n 1 rfl rfl rfl ?_
  refine zj_cvx 2 rfl rfl lk_8_213 ckM_isSheet (k_isSheet _ ns h2 (by omega)) rfl mw_0 rfl rfl rfl ?_
  refine zj_if_eq 3 rfl rfl (fun c5 => ?_) (fun c5 => ?_)
  · exact absurd (zr_of (n := ns) (by omega) (by omega)) (zo_0.mp c5)
  · refine zj_aload_n 4 rfl rfl rfl ?_
    refine zj_iload_n 5 rfl rfl rfl ?_
    refine zj_cvx 6 rfl rfl lk_8_189 ckM_isObserver (k_isObserver _ no h (by omega)) rfl mw_0 rfl rfl rfl ?_
    refine zj_if_eq 7 rfl rfl (fun c13 => ?_) (fun c13 => ?_)
    · exact absurd (zr_of (n := no) (by omega) (by omega)) (zo_0.mp c13)
    · refine zj_iload_n 8 rfl rfl rfl ?_
      refine zj_i2l 9 rfl rfl ?_
      refine zj_aload_n 10 rfl rfl rfl ?_
      refine zj_iload_n 11 rfl rfl rfl ?_
      refine zj_cvx 12 rfl rfl lk_8_192 ckM_nightOf (k_nightOf _ (by omega)) rfl mw_0 rfl rfl rfl ?_
      refine zj_i2l 13 rfl rfl ?_
      refine zj_ldc2 14 (999) rfl rfl (by decide) ?_
      refine zj_csx 15 rfl rfl lk_8_51 ckM_in (k_in _ _ _) rfl rfl rfl rfl ?_
      refine zj_if_ne 16 rfl rfl (fun c30 => ?_) (fun c30 => ?_)
      · refine zj_aload_n 19 rfl rfl rfl ?_
        refine zj_get 20 rfl rfl mw_0 rfl ?_
        refine zj_sipush 21 (598) rfl rfl (by decide) ?_
        refine zn_iald 22 (598) rfl rfl mw_1 rfl (by omega) (by decide) ?_
        refine zj_istore 23 rfl rfl ?_
        refine zj_iload 24 rfl rfl rfl ?_
        refine zj_bipush 25 (60) rfl rfl (by decide) ?_
        refine zn_icmp_ne 26 (nh) (60) rfl rfl h3 rfl (by omega) (by omega) (fun c50 => ?_) (fun c50 => ?_)
        · refine zj_aload_n 29 rfl rfl rfl ?_
          refine zj_get 30 rfl rfl mw_0 rfl ?_
          refine zj_sipush 31 (599) rfl rfl (by decide) ?_
          refine zj_iconst 32 (3) rfl rfl (by decide) ?_
          refine zj_iload 33 rfl rfl rfl ?_
          refine zn_imul 34 (3) (nh) rfl rfl rfl h3 ?_
          refine zn_iadd 35 (599) (3 * nh) rfl rfl rfl rfl ?_
          refine zj_iload_n 36 rfl rfl rfl ?_
          refine zn_iast 37 ((599) + (3 * nh)) rfl rfl mw_1 rfl (by omega) (by decide) mw_u1 ?_
          refine zj_aload_n 38 rfl rfl rfl ?_
          refine zj_get 39 rfl rfl mw_0 rfl ?_
          refine zj_sipush 40 (600) rfl rfl (by decide) ?_
          refine zj_iconst 41 (3) rfl rfl (by decide) ?_
          refine zj_iload 42 rfl rfl rfl ?_
          refine zn_imul 43 (3) (nh) rfl rfl rfl h3 ?_
          refine zn_iadd 44 (600) (3 * nh) rfl rfl rfl rfl ?_
          refine zj_iload_n 45 rfl rfl rfl ?_
          refine zn_iast 46 ((600) + (3 * nh)) rfl rfl mw_1 rfl (by omega) (by decide) mw_u1 ?_
          refine zj_aload_n 47 rfl rfl rfl ?_
          refine zj_get 48 rfl rfl mw_0 rfl ?_
          refine zj_sipush 49 (601) rfl rfl (by decide) ?_
          refine zj_iconst 50 (3) rfl rfl (by decide) ?_
          refine zj_iload 51 rfl rfl rfl ?_
          refine zn_imul 52 (3) (nh) rfl rfl rfl h3 ?_
          refine zn_iadd 53 (601) (3 * nh) rfl rfl rfl rfl ?_
          refine zj_iload_n 54 rfl rfl rfl ?_
          refine zn_iast 55 ((601) + (3 * nh)) rfl rfl mw_1 rfl (by omega) (by decide) mw_u1 ?_
          refine zj_aload_n 56 rfl rfl rfl ?_
          refine zj_get 57 rfl rfl mw_0 rfl ?_
          refine zj_sipush 58 (598) rfl rfl (by decide) ?_
          refine zj_dup2 59 rfl rfl rfl rfl ?_
          refine zn_iald 60 (598) rfl rfl mw_1 rfl (by omega) (by decide) ?_
          refine zj_iconst 61 (1) rfl rfl (by decide) ?_
          refine zn_iadd 62 (nh) (1) rfl rfl (by simp [va_up, show ¬ (598 = 599 + 3 * nh) by omega, show ¬ (598 = 600 + 3 * nh) by omega, show ¬ (598 = 601 + 3 * nh) by omega, h3]) rfl ?_
          refine zn_iast 63 (598) rfl rfl mw_1 rfl (by omega) (by decide) mw_u1 ?_
          refine zj_iload 64 rfl rfl rfl ?_
          refine zj_iconst 65 (1) rfl rfl (by decide) ?_
          refine zn_iadd 66 (nh) (1) rfl rfl h3 rfl ?_
          refine zj_ireturn 67 rfl rfl rfl ?_
          exact ⟨rfl, rfl, by simp only [zMo.sA_sA]; rfl⟩
        · exact absurd c50 (by omega)
      · exact absurd (by rw [zl0, zl0]; exact hv) (zo_0.mp c30)
theorem k_Mshow_full (s o : Nat) (night : Int32) (no ns : Nat) (h : M.1 0 532 = nI no) (hb : no ≤ 8) (h2 : M.1 0 549 = nI ns) (hb2 : ns ≤ 16) (h3 : M.1 0 598 = nI 60) (hs : s < ns) (ho : o < no) (hv : (rSn (M.1 0) s).toInt ≤ night.toInt ∧ night.toInt ≤ 999) : zM E YM_show 3 [.ref a, .int (nI s), .int (nI o), .int night] (mw σ a M) (some (.int (-4))) (mw σ a M) := by
  refine zM.of oM_show (by decide +kernel) rfl rfl (fun n => ?_)
  refine zj_aload_n 0 rfl rfl rfl ?_
  refine zj_iload_n 1 rfl rfl rfl ?_
  refine zj_cvx 2 rfl rfl lk_8_213 ckM_isSheet (k_isSheet _ ns h2 (by omega)) rfl mw_0 rfl rfl rfl ?_
  refine zj_if_eq 3 rfl rfl (fun c5 => ?_) (fun c5 => ?_)
  · exact absurd (zr_of (n := ns) (by omega) (by omega)) (zo_0.mp c5)
  · refine zj_aload_n 4 rfl rfl rfl ?_
    refine zj_iload_n 5 rfl rfl rfl ?_
    refine zj_cvx 6 rfl rfl lk_8_189 ckM_isObserver (k_isObserver _ no h (by omega)) rfl mw_0 rfl rfl rfl ?_
    refine zj_if_eq 7 rfl rfl (fun c13 => ?_) (fun c13 => ?_)
    · exact absurd (zr_of (n := no) (by omega) (by omega)) (zo_0.mp c13)
    · refine zj_iload_n 8 rfl rfl rfl ?_
      refine zj_i2l 9 rfl rfl ?_
      refine zj_aload_n 10 rfl rfl rfl ?_
      refine zj_iload_n 11 rfl rfl rfl ?_
      refine zj_cvx 12 rfl rfl lk_8_192 ckM_nightOf (k_nightOf _ (by omega)) rfl mw_0 rfl rfl rfl ?_
      refine zj_i2l 13 rfl rfl ?_
      refine zj_ldc2 14 (999) rfl rfl (by decide) ?_
      refine zj_csx 15 rfl rfl lk_8_51 ckM_in (k_in _ _ _) rfl rfl rfl rfl ?_
      refine zj_if_ne 16 rfl rfl (fun c30 => ?_) (fun c30 => ?_)
      · refine zj_aload_n 19 rfl rfl rfl ?_
        refine zj_get 20 rfl rfl mw_0 rfl ?_
        refine zj_sipush 21 (598) rfl rfl (by decide) ?_
        refine zn_iald 22 (598) rfl rfl mw_1 rfl (by omega) (by decide) ?_
        refine zj_istore 23 rfl rfl ?_
        refine zj_iload 24 rfl rfl rfl ?_
        refine zj_bipush 25 (60) rfl rfl (by decide) ?_
        refine zn_icmp_ne 26 (60) (60) rfl rfl h3 rfl (by omega) (by omega) (fun c50 => ?_) (fun c50 => ?_)
        · exact absurd c50 (by decide)
        · refine zj_bipush 27 (-4) rfl rfl (by decide) ?_
          refine zj_ireturn 28 rfl rfl rfl ?_
          exact ⟨rfl, rfl, rfl⟩
      · exact absurd (by rw [zl0, zl0]; exact hv) (zo_0.mp c30)
theorem k_Mshow_bad (s o night : Int32) (no ns : Nat) (h : M.1 0 532 = nI no) (hb : no ≤ 8) (h2 : M.1 0 549 = nI ns) (hb2 : ns ≤ 16) (hv : ¬ (zr s ns ∧ zr o no ∧ (rSn (M.1 0) s.toNatClampNeg).toInt ≤ night.toInt ∧ night.toInt ≤ 999)) : zM E YM_show 3 [.ref a, .int s, .int o, .int night] (mw σ a M) (some (.int (-2))) (mw σ a M) := by
  refine zM.of oM_show (by decide +kernel) rfl rfl (fun n => ?_)
  refine zj_aload_n 0 rfl rfl rfl ?_
  refine zj_iload_n 1 rfl rfl rfl ?_
  refine zj_cvx 2 rfl rfl lk_8_213 ckM_isSheet (k_isSheet _ ns h2 (by omega)) rfl mw_0 rfl rfl rfl ?_
  refine zj_if_eq 3 rfl rfl (fun c5 => ?_) (fun c5 => ?_)
  · refine zj_bipush 17 (-2) rfl rfl (by decide) ?_
    refine zj_ireturn 18 rfl rfl rfl ?_
    exact ⟨rfl, rfl, rfl⟩
  · obtain ⟨j, hj, rfl⟩ := zr_nI (zo_n0.mp c5)
    refine zj_aload_n 4 rfl rfl rfl ?_
    refine zj_iload_n 5 rfl rfl rfl ?_
    refine zj_cvx 6 rfl rfl lk_8_189 ckM_isObserver (k_isObserver _ no h (by omega)) rfl mw_0 rfl rfl rfl ?_
    refine zj_if_eq 7 rfl rfl (fun c13 => ?_) (fun c13 => ?_)
    · refine zj_bipush 17 (-2) rfl rfl (by decide) ?_
      refine zj_ireturn 18 rfl rfl rfl ?_
      exact ⟨rfl, rfl, rfl⟩
    · refine zj_iload_n 8 rfl rfl rfl ?_
      refine zj_i2l 9 rfl rfl ?_
      refine zj_aload_n 10 rfl rfl rfl ?_
      refine zj_iload_n 11 rfl rfl rfl ?_
      refine zj_cvx 12 rfl rfl lk_8_192 ckM_nightOf (k_nightOf _ (by omega)) rfl mw_0 rfl rfl rfl ?_
      refine zj_i2l 13 rfl rfl ?_
      refine zj_ldc2 14 (999) rfl rfl (by decide) ?_
      refine zj_csx 15 rfl rfl lk_8_51 ckM_in (k_in _ _ _) rfl rfl rfl rfl ?_
      refine zj_if_ne 16 rfl rfl (fun c30 => ?_) (fun c30 => ?_)
      · rw [nI_clamp (by omega)] at hv
        exact absurd ⟨zo_n0.mp c5, zo_n0.mp c13, by have := zo_n0.mp c30; rw [zl0, zl0] at this; exact this⟩ hv
      · refine zj_bipush 17 (-2) rfl rfl (by decide) ?_
        refine zj_ireturn 18 rfl rfl rfl ?_
        exact ⟨rfl, rfl, rfl⟩
theorem k_sheetTold0 (s : Nat) (hs : s < 80) (nh ns : Nat) (h : M.1 0 598 = nI nh) (hb : nh ≤ 60) (h2 : M.1 0 549 = nI ns) (hb2 : ns ≤ 16) : zM E YM_sheetTold 4 [.ref a, .int (nI s), .int (nI 0)] (mw σ a M) (some (.int (M.1 0 (550 + 3 * s)))) (mw σ a M) := by
  refine zM.of oM_sheetTold (by decide +kernel) rfl rfl (fun n => ?_)
  refine zj_iload_n 0 rfl rfl rfl ?_
  refine zj_if_ne 1 rfl rfl (fun c1 => ?_) (fun c1 => ?_)
  · exact absurd c1 (by decide)
  · refine zj_aload_n 2 rfl rfl rfl ?_
    refine zj_iload_n 3 rfl rfl rfl ?_
    refine zj_cvx 4 rfl rfl lk_8_207 ckM_linesOf (k_linesOf _ (by omega)) rfl mw_0 rfl rfl rfl ?_
    refine zj_goto 5 rfl rfl ?_
    refine zj_ireturn 23 rfl rfl rfl ?_
    exact ⟨rfl, rfl, rfl⟩
theorem k_Mof0 (s : Nat) (nh ns : Nat) (h : M.1 0 598 = nI nh) (hb : nh ≤ 60) (h2 : M.1 0 549 = nI ns) (hb2 : ns ≤ 16) (hs : s < ns) : zM E YM_of 5 [.ref a, .int (nI s), .int (nI 0)] (mw σ a M) (some (.int (M.1 0 (550 + 3 * s)))) (mw σ a M) := by
  refine zM.of oM_of (by decide +kernel) rfl rfl (fun n => ?_)
  refine zj_aload_n 0 rfl rfl rfl ?_
  refine zj_iload_n 1 rfl rfl rfl ?_
  refine zj_cvx 2 rfl rfl lk_8_213 ckM_isSheet (k_isSheet _ ns h2 (by omega)) rfl mw_0 rfl rfl rfl ?_
  refine zj_if_eq 3 rfl rfl (fun c5 => ?_) (fun c5 => ?_)
  · exact absurd (zr_of (n := ns) (by omega) (by omega)) (zo_0.mp c5)
  · refine zj_iload_n 4 rfl rfl rfl ?_
    refine zj_i2l 5 rfl rfl ?_
    refine zj_lconst 6 (0) rfl rfl (by decide) ?_
    refine zj_ldc2 7 (3) rfl rfl (by decide) ?_
    refine zj_csx 8 rfl rfl lk_8_51 ckM_in (k_in0 _ _ 4 (by decide)) rfl rfl rfl rfl ?_
    refine zj_if_eq 9 rfl rfl (fun c17 => ?_) (fun c17 => ?_)
    · exact absurd (zr_of (n := 4) (by omega) (by decide)) (zo_0.mp c17)
    · refine zj_aload_n 10 rfl rfl rfl ?_
      refine zj_iload_n 11 rfl rfl rfl ?_
      refine zj_iload_n 12 rfl rfl rfl ?_
      refine zj_cvx 13 rfl rfl lk_8_222 ckM_sheetTold (k_sheetTold0 _ (by omega) nh ns h hb h2 hb2) rfl mw_0 rfl rfl rfl ?_
      refine zj_goto 14 rfl rfl ?_
      refine zj_ireturn 16 rfl rfl rfl ?_
      exact ⟨rfl, rfl, rfl⟩
theorem k_sheetTold1 (s : Nat) (hs : s < 80) (nh ns : Nat) (h : M.1 0 598 = nI nh) (hb : nh ≤ 60) (h2 : M.1 0 549 = nI ns) (hb2 : ns ≤ 16) : zM E YM_sheetTold 4 [.ref a, .int (nI s), .int (nI 1)] (mw σ a M) (some (.int (M.1 0 (551 + 3 * s)))) (mw σ a M) := by
  refine zM.of oM_sheetTold (by decide +kernel) rfl rfl (fun n => ?_)
  refine zj_iload_n 0 rfl rfl rfl ?_
  refine zj_if_ne 1 rfl rfl (fun c1 => ?_) (fun c1 => ?_)
  · refine zj_iload_n 6 rfl rfl rfl ?_
    refine zj_iconst 7 (1) rfl rfl (by decide) ?_
    refine zn_icmp_ne 8 (1) (1) rfl rfl rfl rfl (by omega) (by omega) (fun c14 => ?_) (fun c14 => ?_)
    · exact absurd c14 (by decide)
    · refine zj_aload_n 9 rfl rfl rfl ?_
      refine zj_iload_n 10 rfl rfl rfl ?_
      refine zj_cvx 11 rfl rfl lk_8_216 ckM_observerOf (k_observerOf _ (by omega)) rfl mw_0 rfl rfl rfl ?_
      refine zj_goto 12 rfl rfl ?_
      refine zj_ireturn 23 rfl rfl rfl ?_
      exact ⟨rfl, rfl, rfl⟩
  · exact absurd c1 (by decide)
theorem k_Mof1 (s : Nat) (nh ns : Nat) (h : M.1 0 598 = nI nh) (hb : nh ≤ 60) (h2 : M.1 0 549 = nI ns) (hb2 : ns ≤ 16) (hs : s < ns) : zM E YM_of 5 [.ref a, .int (nI s), .int (nI 1)] (mw σ a M) (some (.int (M.1 0 (551 + 3 * s)))) (mw σ a M) := by
  refine zM.of oM_of (by decide +kernel) rfl rfl (fun n => ?_)
  refine zj_aload_n 0 rfl rfl rfl ?_
  refine zj_iload_n 1 rfl rfl rfl ?_
  refine zj_cvx 2 rfl rfl lk_8_213 ckM_isSheet (k_isSheet _ ns h2 (by omega)) rfl mw_0 rfl rfl rfl ?_
  refine zj_if_eq 3 rfl rfl (fun c5 => ?_) (fun c5 => ?_)
  · exact absurd (zr_of (n := ns) (by omega) (by omega)) (zo_0.mp c5)
  · refine zj_iload_n 4 rfl rfl rfl ?_
    refine zj_i2l 5 rfl rfl ?_
    refine zj_lconst 6 (0) rfl rfl (by decide) ?_
    refine zj_ldc2 7 (3) rfl rfl (by decide) ?_
    refine zj_csx 8 rfl rfl lk_8_51 ckM_in (k_in0 _ _ 4 (by decide)) rfl rfl rfl rfl ?_
    refine zj_if_eq 9 rfl rfl (fun c17 => ?_) (fun c17 => ?_)
    · exact absurd (zr_of (n := 4) (by omega) (by decide)) (zo_0.mp c17)
    · refine zj_aload_n 10 rfl rfl rfl ?_
      refine zj_iload_n 11 rfl rfl rfl ?_
      refine zj_iload_n 12 rfl rfl rfl ?_
      refine zj_cvx 13 rfl rfl lk_8_222 ckM_sheetTold (k_sheetTold1 _ (by omega) nh ns h hb h2 hb2) rfl mw_0 rfl rfl rfl ?_
      refine zj_goto 14 rfl rfl ?_
      refine zj_ireturn 16 rfl rfl rfl ?_
      exact ⟨rfl, rfl, rfl⟩
theorem k_sheetTold2 (s : Nat) (hs : s < 80) (nh ns : Nat) (h : M.1 0 598 = nI nh) (hb : nh ≤ 60) (h2 : M.1 0 549 = nI ns) (hb2 : ns ≤ 16) : zM E YM_sheetTold 4 [.ref a, .int (nI s), .int (nI 2)] (mw σ a M) (some (.int (M.1 0 (552 + 3 * s)))) (mw σ a M) := by
  refine zM.of oM_sheetTold (by decide +kernel) rfl rfl (fun n => ?_)
  refine zj_iload_n 0 rfl rfl rfl ?_
  refine zj_if_ne 1 rfl rfl (fun c1 => ?_) (fun c1 => ?_)
  · refine zj_iload_n 6 rfl rfl rfl ?_
    refine zj_iconst 7 (1) rfl rfl (by decide) ?_
    refine zn_icmp_ne 8 (2) (1) rfl rfl rfl rfl (by omega) (by omega) (fun c14 => ?_) (fun c14 => ?_)
    · refine zj_iload_n 13 rfl rfl rfl ?_
      refine zj_iconst 14 (2) rfl rfl (by decide) ?_
      refine zn_icmp_ne 15 (2) (2) rfl rfl rfl rfl (by omega) (by omega) (fun c27 => ?_) (fun c27 => ?_)
      · exact absurd c27 (by decide)
      · refine zj_aload_n 16 rfl rfl rfl ?_
        refine zj_iload_n 17 rfl rfl rfl ?_
        refine zj_cvx 18 rfl rfl lk_8_192 ckM_nightOf (k_nightOf _ (by omega)) rfl mw_0 rfl rfl rfl ?_
        refine zj_goto 19 rfl rfl ?_
        refine zj_ireturn 23 rfl rfl rfl ?_
        exact ⟨rfl, rfl, rfl⟩
    · exact absurd c14 (by decide)
  · exact absurd c1 (by decide)
theorem k_Mof2 (s : Nat) (nh ns : Nat) (h : M.1 0 598 = nI nh) (hb : nh ≤ 60) (h2 : M.1 0 549 = nI ns) (hb2 : ns ≤ 16) (hs : s < ns) : zM E YM_of 5 [.ref a, .int (nI s), .int (nI 2)] (mw σ a M) (some (.int (M.1 0 (552 + 3 * s)))) (mw σ a M) := by
  refine zM.of oM_of (by decide +kernel) rfl rfl (fun n => ?_)
  refine zj_aload_n 0 rfl rfl rfl ?_
  refine zj_iload_n 1 rfl rfl rfl ?_
  refine zj_cvx 2 rfl rfl lk_8_213 ckM_isSheet (k_isSheet _ ns h2 (by omega)) rfl mw_0 rfl rfl rfl ?_
  refine zj_if_eq 3 rfl rfl (fun c5 => ?_) (fun c5 => ?_)
  · exact absurd (zr_of (n := ns) (by omega) (by omega)) (zo_0.mp c5)
  · refine zj_iload_n 4 rfl rfl rfl ?_
    refine zj_i2l 5 rfl rfl ?_
    refine zj_lconst 6 (0) rfl rfl (by decide) ?_
    refine zj_ldc2 7 (3) rfl rfl (by decide) ?_
    refine zj_csx 8 rfl rfl lk_8_51 ckM_in (k_in0 _ _ 4 (by decide)) rfl rfl rfl rfl ?_
    refine zj_if_eq 9 rfl rfl (fun c17 => ?_) (fun c17 => ?_)
    · exact absurd (zr_of (n := 4) (by omega) (by decide)) (zo_0.mp c17)
    · refine zj_aload_n 10 rfl rfl rfl ?_
      refine zj_iload_n 11 rfl rfl rfl ?_
      refine zj_iload_n 12 rfl rfl rfl ?_
      refine zj_cvx 13 rfl rfl lk_8_222 ckM_sheetTold (k_sheetTold2 _ (by omega) nh ns h hb h2 hb2) rfl mw_0 rfl rfl rfl ?_
      refine zj_goto 14 rfl rfl ?_
      refine zj_ireturn 16 rfl rfl rfl ?_
      exact ⟨rfl, rfl, rfl⟩
theorem k_sheetTold3 (s : Nat) (hs : s < 80) (nh ns : Nat) (h : M.1 0 598 = nI nh) (hb : nh ≤ 60) (h2 : M.1 0 549 = nI ns) (hb2 : ns ≤ 16) : zM E YM_sheetTold 4 [.ref a, .int (nI s), .int (nI 3)] (mw σ a M) (some (.int (pSHm (M.1 0) nh ns (rSo (M.1 0) s) (rSn (M.1 0) s)))) (mw σ a M) := by
  refine zM.of oM_sheetTold (by decide +kernel) rfl rfl (fun n => ?_)
  refine zj_iload_n 0 rfl rfl rfl ?_
  refine zj_if_ne 1 rfl rfl (fun c1 => ?_) (fun c1 => ?_)
  · refine zj_iload_n 6 rfl rfl rfl ?_
    refine zj_iconst 7 (1) rfl rfl (by decide) ?_
    refine zn_icmp_ne 8 (3) (1) rfl rfl rfl rfl (by omega) (by omega) (fun c14 => ?_) (fun c14 => ?_)
    · refine zj_iload_n 13 rfl rfl rfl ?_
      refine zj_iconst 14 (2) rfl rfl (by decide) ?_
      refine zn_icmp_ne 15 (3) (2) rfl rfl rfl rfl (by omega) (by omega) (fun c27 => ?_) (fun c27 => ?_)
      · refine zj_aload_n 20 rfl rfl rfl ?_
        refine zj_iload_n 21 rfl rfl rfl ?_
        refine zj_cvx 22 rfl rfl lk_8_219 ckM_shownFor (k_shownFor _ (by omega) nh ns h hb h2 hb2) rfl mw_0 rfl rfl rfl ?_
        refine zj_ireturn 23 rfl rfl rfl ?_
        exact ⟨rfl, rfl, rfl⟩
      · exact absurd c27 (by decide)
    · exact absurd c14 (by decide)
  · exact absurd c1 (by decide)
theorem k_Mof3 (s : Nat) (nh ns : Nat) (h : M.1 0 598 = nI nh) (hb : nh ≤ 60) (h2 : M.1 0 549 = nI ns) (hb2 : ns ≤ 16) (hs : s < ns) : zM E YM_of 5 [.ref a, .int (nI s), .int (nI 3)] (mw σ a M) (some (.int (pSHm (M.1 0) nh ns (rSo (M.1 0) s) (rSn (M.1 0) s)))) (mw σ a M) := by
  refine zM.of oM_of (by decide +kernel) rfl rfl (fun n => ?_)
  refine zj_aload_n 0 rfl rfl rfl ?_
  refine zj_iload_n 1 rfl rfl rfl ?_
  refine zj_cvx 2 rfl rfl lk_8_213 ckM_isSheet (k_isSheet _ ns h2 (by omega)) rfl mw_0 rfl rfl rfl ?_
  refine zj_if_eq 3 rfl rfl (fun c5 => ?_) (fun c5 => ?_)
  · exact absurd (zr_of (n := ns) (by omega) (by omega)) (zo_0.mp c5)
  · refine zj_iload_n 4 rfl rfl rfl ?_
    refine zj_i2l 5 rfl rfl ?_
    refine zj_lconst 6 (0) rfl rfl (by decide) ?_
    refine zj_ldc2 7 (3) rfl rfl (by decide) ?_
    refine zj_csx 8 rfl rfl lk_8_51 ckM_in (k_in0 _ _ 4 (by decide)) rfl rfl rfl rfl ?_
    refine zj_if_eq 9 rfl rfl (fun c17 => ?_) (fun c17 => ?_)
    · exact absurd (zr_of (n := 4) (by omega) (by decide)) (zo_0.mp c17)
    · refine zj_aload_n 10 rfl rfl rfl ?_
      refine zj_iload_n 11 rfl rfl rfl ?_
      refine zj_iload_n 12 rfl rfl rfl ?_
      refine zj_cvx 13 rfl rfl lk_8_222 ckM_sheetTold (k_sheetTold3 _ (by omega) nh ns h hb h2 hb2) rfl mw_0 rfl rfl rfl ?_
      refine zj_goto 14 rfl rfl ?_
      refine zj_ireturn 16 rfl rfl rfl ?_
      exact ⟨rfl, rfl, rfl⟩
theorem k_Mof_bad (s w : Int32) (ns : Nat) (h2 : M.1 0 549 = nI ns) (hb2 : ns ≤ 16) (hv : ¬ (zr s ns ∧ zr w 4)) : zM E YM_of 5 [.ref a, .int s, .int w] (mw σ a M) (some (.int (-2))) (mw σ a M) := by
  refine zM.of oM_of (by decide +kernel) rfl rfl (fun n => ?_)
  refine zj_aload_n 0 rfl rfl rfl ?_
  refine zj_iload_n 1 rfl rfl rfl ?_
  refine zj_cvx 2 rfl rfl lk_8_213 ckM_isSheet (k_isSheet _ ns h2 (by omega)) rfl mw_0 rfl rfl rfl ?_
  refine zj_if_eq 3 rfl rfl (fun c5 => ?_) (fun c5 => ?_)
  · refine zj_bipush 15 (-2) rfl rfl (by decide) ?_
    refine zj_ireturn 16 rfl rfl rfl ?_
    exact ⟨rfl, rfl, rfl⟩
  · refine zj_iload_n 4 rfl rfl rfl ?_
    refine zj_i2l 5 rfl rfl ?_
    refine zj_lconst 6 (0) rfl rfl (by decide) ?_
    refine zj_ldc2 7 (3) rfl rfl (by decide) ?_
    refine zj_csx 8 rfl rfl lk_8_51 ckM_in (k_in0 _ _ 4 (by decide)) rfl rfl rfl rfl ?_
    refine zj_if_eq 9 rfl rfl (fun c17 => ?_) (fun c17 => ?_)
    · refine zj_bipush 15 (-2) rfl rfl (by decide) ?_
      refine zj_ireturn 16 rfl rfl rfl ?_
      exact ⟨rfl, rfl, rfl⟩
    · exact absurd ⟨zo_n0.mp c5, zo_n0.mp c17⟩ hv
theorem k_isPair (x y : Int32) (ns : Nat) (h2 : M.1 0 549 = nI ns) (hb2 : ns ≤ 16) : zM E YM_isPair 3 [.ref a, .int x, .int y] (mw σ a M) (some (.int (zo (zr x ns ∧ zr y ns ∧ x ≠ y)))) (mw σ a M) := by
  refine zM.of oM_isPair (by decide +kernel) rfl rfl (fun n => ?_)
  refine zj_aload_n 0 rfl rfl rfl ?_
  refine zj_iload_n 1 rfl rfl rfl ?_
  refine zj_cvx 2 rfl rfl lk_8_213 ckM_isSheet (k_isSheet _ ns h2 (by omega)) rfl mw_0 rfl rfl rfl ?_
  refine zj_if_eq 3 rfl rfl (fun c5 => ?_) (fun c5 => ?_)
  · refine zj_iconst 13 (0) rfl rfl (by decide) ?_
    refine zj_zreturn 14 rfl rfl rfl rfl ?_
    first
      | exact ⟨zrt (zo_t ⟨zo_n0.mp c5, zo_n0.mp c13, c18⟩), rfl, rfl⟩
      | exact ⟨zrt (zo_f (fun g => zo_0.mp c5 g.1)), rfl, rfl⟩
      | exact ⟨zrt (zo_f (fun g => zo_0.mp c13 g.2.1)), rfl, rfl⟩
      | exact ⟨zrt (zo_f (fun g => g.2.2 c18)), rfl, rfl⟩
  · refine zj_aload_n 4 rfl rfl rfl ?_
    refine zj_iload_n 5 rfl rfl rfl ?_
    refine zj_cvx 6 rfl rfl lk_8_213 ckM_isSheet (k_isSheet _ ns h2 (by omega)) rfl mw_0 rfl rfl rfl ?_
    refine zj_if_eq 7 rfl rfl (fun c13 => ?_) (fun c13 => ?_)
    · refine zj_iconst 13 (0) rfl rfl (by decide) ?_
      refine zj_zreturn 14 rfl rfl rfl rfl ?_
      first
        | exact ⟨zrt (zo_t ⟨zo_n0.mp c5, zo_n0.mp c13, c18⟩), rfl, rfl⟩
        | exact ⟨zrt (zo_f (fun g => zo_0.mp c5 g.1)), rfl, rfl⟩
        | exact ⟨zrt (zo_f (fun g => zo_0.mp c13 g.2.1)), rfl, rfl⟩
        | exact ⟨zrt (zo_f (fun g => g.2.2 c18)), rfl, rfl⟩
    · refine zj_iload_n 8 rfl rfl rfl ?_
      refine zj_iload_n 9 rfl rfl rfl ?_
      refine zj_icmp_eq 10 rfl rfl (fun c18 => ?_) (fun c18 => ?_)
      · refine zj_iconst 13 (0) rfl rfl (by decide) ?_
        refine zj_zreturn 14 rfl rfl rfl rfl ?_
        first
          | exact ⟨zrt (zo_t ⟨zo_n0.mp c5, zo_n0.mp c13, c18⟩), rfl, rfl⟩
          | exact ⟨zrt (zo_f (fun g => zo_0.mp c5 g.1)), rfl, rfl⟩
          | exact ⟨zrt (zo_f (fun g => zo_0.mp c13 g.2.1)), rfl, rfl⟩
          | exact ⟨zrt (zo_f (fun g => g.2.2 c18)), rfl, rfl⟩
      · refine zj_iconst 11 (1) rfl rfl (by decide) ?_
        refine zj_goto 12 rfl rfl ?_
        refine zj_zreturn 14 rfl rfl rfl rfl ?_
        first
          | exact ⟨zrt (zo_t ⟨zo_n0.mp c5, zo_n0.mp c13, c18⟩), rfl, rfl⟩
          | exact ⟨zrt (zo_f (fun g => zo_0.mp c5 g.1)), rfl, rfl⟩
          | exact ⟨zrt (zo_f (fun g => zo_0.mp c13 g.2.1)), rfl, rfl⟩
          | exact ⟨zrt (zo_f (fun g => g.2.2 c18)), rfl, rfl⟩
theorem k_Magree0 (x y : Nat) (nh ns : Nat) (h : M.1 0 598 = nI nh) (hb : nh ≤ 60) (h2 : M.1 0 549 = nI ns) (hb2 : ns ≤ 16) (hx : x < ns) (hy : y < ns) (hne : x ≠ y) : zM E YM_agree 4 [.ref a, .int (nI x), .int (nI y), .int (nI 0)] (mw σ a M) (some (.int (zb28 (rSl (M.1 0) x &&& rSl (M.1 0) y) 28))) (mw σ a M) := by
  refine zM.of oM_agree (by decide +kernel) rfl rfl (fun n => ?_)
  refine zj_aload_n 0 rfl rfl rfl ?_
  refine zj_iload_n 1 rfl rfl rfl ?_
  refine zj_iload_n 2 rfl rfl rfl ?_
  refine zj_cvx 3 rfl rfl lk_8_225 ckM_isPair (k_isPair _ _ ns h2 hb2) rfl mw_0 rfl rfl rfl ?_
  refine zj_if_eq 4 rfl rfl (fun c6 => ?_) (fun c6 => ?_)
  · exact absurd ⟨zr_of (n := ns) (by omega) (by omega), zr_of (n := ns) (by omega) (by omega), fun e => hne ((nI_eq (by omega) (by omega)).mp e)⟩ (zo_0.mp c6)
  · refine zj_iload_n 5 rfl rfl rfl ?_
    refine zj_i2l 6 rfl rfl ?_
    refine zj_lconst 7 (0) rfl rfl (by decide) ?_
    refine zj_lconst 8 (1) rfl rfl (by decide) ?_
    refine zj_csx 9 rfl rfl lk_8_51 ckM_in (k_in0 _ _ 2 (by decide)) rfl rfl rfl rfl ?_
    refine zj_if_ne 10 rfl rfl (fun c16 => ?_) (fun c16 => ?_)
    · refine zj_aload_n 13 rfl rfl rfl ?_
      refine zj_iload_n 14 rfl rfl rfl ?_
      refine zj_cvx 15 rfl rfl lk_8_207 ckM_linesOf (k_linesOf _ (by omega)) rfl mw_0 rfl rfl rfl ?_
      refine zj_aload_n 16 rfl rfl rfl ?_
      refine zj_iload_n 17 rfl rfl rfl ?_
      refine zj_cvx 18 rfl rfl lk_8_207 ckM_linesOf (k_linesOf _ (by omega)) rfl mw_0 rfl rfl rfl ?_
      refine zj_iand 19 rfl rfl ?_
      refine zj_istore 20 rfl rfl ?_
      refine zj_iload_n 21 rfl rfl rfl ?_
      refine zj_if_ne 22 rfl rfl (fun c36 => ?_) (fun c36 => ?_)
      · exact absurd c36 (by decide)
      · refine zj_iload 23 rfl rfl rfl ?_
        refine zj_goto 24 rfl rfl ?_
        refine zj_csx 34 rfl rfl lk_8_184 ckM_bitsOf (k_bitsOf _) rfl rfl rfl rfl ?_
        refine zj_ireturn 35 rfl rfl rfl ?_
        exact ⟨rfl, rfl, rfl⟩
    · exact absurd (zr_of (n := 2) (by omega) (by decide)) (zo_0.mp c16)
theorem k_Magree1 (x y : Nat) (nh ns : Nat) (h : M.1 0 598 = nI nh) (hb : nh ≤ 60) (h2 : M.1 0 549 = nI ns) (hb2 : ns ≤ 16) (hx : x < ns) (hy : y < ns) (hne : x ≠ y) : zM E YM_agree 4 [.ref a, .int (nI x), .int (nI y), .int (nI 1)] (mw σ a M) (some (.int (zb28 (rSl (M.1 0) x &&& rSl (M.1 0) y &&& pSHm (M.1 0) nh ns (rSo (M.1 0) x) (rSn (M.1 0) x) &&& pSHm (M.1 0) nh ns (rSo (M.1 0) y) (rSn (M.1 0) y)) 28))) (mw σ a M) := by
  refine zM.of oM_agree (by decide +kernel) rfl rfl (fun n => ?_)
  refine zj_aload_n 0 rfl rfl rfl ?_
  refine zj_iload_n 1 rfl rfl rfl ?_
  refine zj_iload_n 2 rfl rfl rfl ?_
  refine zj_cvx 3 rfl rfl lk_8_225 ckM_isPair (k_isPair _ _ ns h2 hb2) rfl mw_0 rfl rfl rfl ?_
  refine zj_if_eq 4 rfl rfl (fun c6 => ?_) (fun c6 => ?_)
  · exact absurd ⟨zr_of (n := ns) (by omega) (by omega), zr_of (n := ns) (by omega) (by omega), fun e => hne ((nI_eq (by omega) (by omega)).mp e)⟩ (zo_0.mp c6)
  · refine zj_iload_n 5 rfl rfl rfl ?_
    refine zj_i2l 6 rfl rfl ?_
    refine zj_lconst 7 (0) rfl rfl (by decide) ?_
    refine zj_lconst 8 (1) rfl rfl (by decide) ?_
    refine zj_csx 9 rfl rfl lk_8_51 ckM_in (k_in0 _ _ 2 (by decide)) rfl rfl rfl rfl ?_
    refine zj_if_ne 10 rfl rfl (fun c16 => ?_) (fun c16 => ?_)
    · refine zj_aload_n 13 rfl rfl rfl ?_
      refine zj_iload_n 14 rfl rfl rfl ?_
      refine zj_cvx 15 rfl rfl lk_8_207 ckM_linesOf (k_linesOf _ (by omega)) rfl mw_0 rfl rfl rfl ?_
      refine zj_aload_n 16 rfl rfl rfl ?_
      refine zj_iload_n 17 rfl rfl rfl ?_
      refine zj_cvx 18 rfl rfl lk_8_207 ckM_linesOf (k_linesOf _ (by omega)) rfl mw_0 rfl rfl rfl ?_
      refine zj_iand 19 rfl rfl ?_
      refine zj_istore 20 rfl rfl ?_
      refine zj_iload_n 21 rfl rfl rfl ?_
      refine zj_if_ne 22 rfl rfl (fun c36 => ?_) (fun c36 => ?_)
      · refine zj_iload 25 rfl rfl rfl ?_
        refine zj_aload_n 26 rfl rfl rfl ?_
        refine zj_iload_n 27 rfl rfl rfl ?_
        refine zj_cvx 28 rfl rfl lk_8_219 ckM_shownFor (k_shownFor _ (by omega) nh ns h hb h2 hb2) rfl mw_0 rfl rfl rfl ?_
        refine zj_iand 29 rfl rfl ?_
        refine zj_aload_n 30 rfl rfl rfl ?_
        refine zj_iload_n 31 rfl rfl rfl ?_
        refine zj_cvx 32 rfl rfl lk_8_219 ckM_shownFor (k_shownFor _ (by omega) nh ns h hb h2 hb2) rfl mw_0 rfl rfl rfl ?_
        refine zj_iand 33 rfl rfl ?_
        refine zj_csx 34 rfl rfl lk_8_184 ckM_bitsOf (k_bitsOf _) rfl rfl rfl rfl ?_
        refine zj_ireturn 35 rfl rfl rfl ?_
        exact ⟨rfl, rfl, rfl⟩
      · exact absurd c36 (by decide)
    · exact absurd (zr_of (n := 2) (by omega) (by decide)) (zo_0.mp c16)
theorem k_Magree_bad (x y w : Int32) (ns : Nat) (h2 : M.1 0 549 = nI ns) (hb2 : ns ≤ 16) (hv : ¬ ((zr x ns ∧ zr y ns ∧ x ≠ y) ∧ zr w 2)) : zM E YM_agree 4 [.ref a, .int x, .int y, .int w] (mw σ a M) (some (.int (-2))) (mw σ a M) := by
  refine zM.of oM_agree (by decide +kernel) rfl rfl (fun n => ?_)
  refine zj_aload_n 0 rfl rfl rfl ?_
  refine zj_iload_n 1 rfl rfl rfl ?_
  refine zj_iload_n 2 rfl rfl rfl ?_
  refine zj_cvx 3 rfl rfl lk_8_225 ckM_isPair (k_isPair _ _ ns h2 hb2) rfl mw_0 rfl rfl rfl ?_
  refine zj_if_eq 4 rfl rfl (fun c6 => ?_) (fun c6 => ?_)
  · refine zj_bipush 11 (-2) rfl rfl (by decide) ?_
    refine zj_ireturn 12 rfl rfl rfl ?_
    exact ⟨rfl, rfl, rfl⟩
  · refine zj_iload_n 5 rfl rfl rfl ?_
    refine zj_i2l 6 rfl rfl ?_
    refine zj_lconst 7 (0) rfl rfl (by decide) ?_
    refine zj_lconst 8 (1) rfl rfl (by decide) ?_
    refine zj_csx 9 rfl rfl lk_8_51 ckM_in (k_in0 _ _ 2 (by decide)) rfl rfl rfl rfl ?_
    refine zj_if_ne 10 rfl rfl (fun c16 => ?_) (fun c16 => ?_)
    · exact absurd ⟨zo_n0.mp c6, zo_n0.mp c16⟩ hv
    · refine zj_bipush 11 (-2) rfl rfl (by decide) ?_
      refine zj_ireturn 12 rfl rfl rfl ?_
      exact ⟨rfl, rfl, rfl⟩
end
