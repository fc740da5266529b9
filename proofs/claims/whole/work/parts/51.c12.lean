/-! the component: the eye aims -/
theorem zabsd : ∀ x, x < 9 → ∀ y, y < 9 → (if (0 : Int32) ≤ nI x - nI y then nI x - nI y else 0 - (nI x - nI y)) = nI (zap x y) := by decide +kernel
theorem zap_lt {x y : Nat} (hx : x < 9) (hy : y < 9) : zap x y < 2 ^ 20 := by unfold zap; split <;> omega
theorem zmaxn {x y : Nat} (hx : x < 2 ^ 20) (hy : y < 2 ^ 20) : (if nI x < nI y then nI y else nI x) = nI (max x y) := by
  by_cases h : x < y
  · rw [if_pos ((nI_ltI (by omega) (by omega)).mpr h), show max x y = y by omega]
  · rw [if_neg (fun e => h ((nI_ltI (by omega) (by omega)).mp e)), show max x y = x by omega]
theorem zmaxn' {x y : Int32} {m k : Nat} (hx : x = nI m) (hy : y = nI k) (h1 : m < 2 ^ 20) (h2 : k < 2 ^ 20) : (if x < y then y else x) = nI (max m k) := by
  subst hx; subst hy; exact zmaxn h1 h2
theorem zfar_max (p q : Nat) : max (zap (p / 9) (q / 9)) (zap (p % 9) (q % 9)) = zfar p q := by
  unfold zfar; split <;> omega
theorem zkp_in {σ : zH} {e : Nat} {M N : zMo} (h : zkpAt σ (e + 1) N) : zkpAt (zke σ e M) (e + 1) N := by
  obtain ⟨h0, h1, h2, h3⟩ := h
  exact ⟨by rw [zke_ne (by omega)]; exact h0, by rw [zke_ne (by omega)]; exact h1, by rw [zke_ne (by omega)]; exact h2, by rw [zke_ne (by omega)]; exact h3⟩
section
variable {E : zE} {σ : zH} {a b : Nat} {M N : zMo}
theorem k_aimAt (hP : zkpAt σ (a + 1) N) (p q : Nat) (hp : p < 81) (hq : q < 81) : zM E YEy_aimAt 2 [.ref a, .int (nI p), .int (nI q)] (zke σ a M) (none) (zke σ a (M.sB 0 (va_up (va_up (va_up (va_up (M.2.1 0) 1 (N.1 2 p).toInt64) 2 (N.1 2 q).toInt64) 3 (nI (zfar p q)).toInt64) 4 (N.1 2 (zmid p q)).toInt64))) := by
  have hmid : 9 * ((p / 9 + q / 9) / 2) + (p % 9 + q % 9) / 2 < 81 := by omega
  refine zM.of oEy_aimAt (by decide +kernel) rfl rfl (fun n => ?_)
  refine zj_iload_n 0 rfl rfl rfl ?_
  refine zj_bipush 1 (9) rfl rfl (by decide) ?_
  refine zn_idiv 2 (p) (9) rfl rfl rfl rfl (by omega) (by omega) (by omega) ?_
  refine zj_iload_n 3 rfl rfl rfl ?_
  refine zj_bipush 4 (9) rfl rfl (by decide) ?_
  refine zn_idiv 5 (q) (9) rfl rfl rfl rfl (by omega) (by omega) (by omega) ?_
  refine zn_iadd 6 (p / 9) (q / 9) rfl rfl rfl rfl ?_
  refine zj_istore_n 7 rfl rfl ?_
  refine zj_iload_n 8 rfl rfl rfl ?_
  refine zj_bipush 9 (9) rfl rfl (by decide) ?_
  refine zn_irem 10 (p) (9) rfl rfl rfl rfl (by omega) (by omega) (by omega) ?_
  refine zj_iload_n 11 rfl rfl rfl ?_
  refine zj_bipush 12 (9) rfl rfl (by decide) ?_
  refine zn_irem 13 (q) (9) rfl rfl rfl rfl (by omega) (by omega) (by omega) ?_
  refine zn_iadd 14 (p % 9) (q % 9) rfl rfl rfl rfl ?_
  refine zj_istore 15 rfl rfl ?_
  refine zj_iload_n 16 rfl rfl rfl ?_
  refine zj_bipush 17 (9) rfl rfl (by decide) ?_
  refine zn_idiv 18 (p) (9) rfl rfl rfl rfl (by omega) (by omega) (by omega) ?_
  refine zj_iload_n 19 rfl rfl rfl ?_
  refine zj_bipush 20 (9) rfl rfl (by decide) ?_
  refine zn_idiv 21 (q) (9) rfl rfl rfl rfl (by omega) (by omega) (by omega) ?_
  refine zj_isub 22 rfl rfl ?_
  refine zj_mabs 23 rfl rfl lk_1_58 rfl rfl rfl rfl ?_
  refine zj_istore 24 rfl rfl ?_
  refine zj_iload_n 25 rfl rfl rfl ?_
  refine zj_bipush 26 (9) rfl rfl (by decide) ?_
  refine zn_irem 27 (p) (9) rfl rfl rfl rfl (by omega) (by omega) (by omega) ?_
  refine zj_iload_n 28 rfl rfl rfl ?_
  refine zj_bipush 29 (9) rfl rfl (by decide) ?_
  refine zn_irem 30 (q) (9) rfl rfl rfl rfl (by omega) (by omega) (by omega) ?_
  refine zj_isub 31 rfl rfl ?_
  refine zj_mabs 32 rfl rfl lk_1_58 rfl rfl rfl rfl ?_
  refine zj_istore 33 rfl rfl ?_
  refine zj_bipush 34 (9) rfl rfl (by decide) ?_
  refine zj_iload_n 35 rfl rfl rfl ?_
  refine zj_iconst 36 (2) rfl rfl (by decide) ?_
  refine zn_idiv 37 ((p / 9) + (q / 9)) (2) rfl rfl rfl rfl (by omega) (by omega) (by omega) ?_
  refine zn_imul 38 (9) (((p / 9) + (q / 9)) / (2)) rfl rfl rfl rfl ?_
  refine zj_iload 39 rfl rfl rfl ?_
  refine zj_iconst 40 (2) rfl rfl (by decide) ?_
  refine zn_idiv 41 ((p % 9) + (q % 9)) (2) rfl rfl rfl rfl (by omega) (by omega) (by omega) ?_
  refine zn_iadd 42 ((9) * (((p / 9) + (q / 9)) / (2))) (((p % 9) + (q % 9)) / (2)) rfl rfl rfl rfl ?_
  refine zj_istore 43 rfl rfl ?_
  refine zj_iload_n 44 rfl rfl rfl ?_
  refine zj_bipush 45 (81) rfl rfl (by decide) ?_
  refine zj_csx 46 rfl rfl lk_1_64 ckD_isOneOf (k_isOneOf _ _) rfl rfl rfl rfl ?_
  refine zj_if_eq 47 rfl rfl (fun c68 => ?_) (fun c68 => ?_)
  · exact absurd (zr_of (n := 81) (by omega) (by decide)) (zo_0.mp c68)
  · refine zj_iload_n 48 rfl rfl rfl ?_
    refine zj_bipush 49 (81) rfl rfl (by decide) ?_
    refine zj_csx 50 rfl rfl lk_1_64 ckD_isOneOf (k_isOneOf _ _) rfl rfl rfl rfl ?_
    refine zj_if_eq 51 rfl rfl (fun c77 => ?_) (fun c77 => ?_)
    · exact absurd (zr_of (n := 81) (by omega) (by decide)) (zo_0.mp c77)
    · refine zj_iload 52 rfl rfl rfl ?_
      refine zj_bipush 53 (81) rfl rfl (by decide) ?_
      refine zj_csx 54 rfl rfl lk_1_64 ckD_isOneOf (k_isOneOf _ _) rfl rfl rfl rfl ?_
      refine zj_if_eq 55 rfl rfl (fun c87 => ?_) (fun c87 => ?_)
      · exact absurd (zr_of (n := 81) (by omega) (by decide)) (zo_0.mp c87)
      · refine zj_aload_n 56 rfl rfl rfl ?_
        refine zj_get 57 rfl rfl zke_0 rfl ?_
        refine zj_iconst 58 (1) rfl rfl (by decide) ?_
        refine zj_aload_n 59 rfl rfl rfl ?_
        refine zj_get 60 rfl rfl zke_0 rfl ?_
        refine zj_get 61 rfl rfl (zkp_in hP).1 rfl ?_
        refine zj_iload_n 62 rfl rfl rfl ?_
        refine zn_iald 63 (p) rfl rfl (zkp_in hP).2.2.2 rfl (by omega) (by decide) ?_
        refine zj_i2l 64 rfl rfl ?_
        refine zn_last 65 (1) rfl rfl zke_5 rfl (by omega) (by decide) zke_u5 ?_
        refine zj_aload_n 66 rfl rfl rfl ?_
        refine zj_get 67 rfl rfl zke_0 rfl ?_
        refine zj_iconst 68 (2) rfl rfl (by decide) ?_
        refine zj_aload_n 69 rfl rfl rfl ?_
        refine zj_get 70 rfl rfl zke_0 rfl ?_
        refine zj_get 71 rfl rfl (zkp_in hP).1 rfl ?_
        refine zj_iload_n 72 rfl rfl rfl ?_
        refine zn_iald 73 (q) rfl rfl (zkp_in hP).2.2.2 rfl (by omega) (by decide) ?_
        refine zj_i2l 74 rfl rfl ?_
        refine zn_last 75 (2) rfl rfl zke_5 rfl (by omega) (by decide) zke_u5 ?_
        refine zj_aload_n 76 rfl rfl rfl ?_
        refine zj_get 77 rfl rfl zke_0 rfl ?_
        refine zj_iconst 78 (3) rfl rfl (by decide) ?_
        refine zj_iload 79 rfl rfl rfl ?_
        refine zj_iload 80 rfl rfl rfl ?_
        refine zj_mmax 81 rfl rfl lk_1_72 rfl rfl rfl rfl ?_
        rw [zmaxn' (zabsd (p / 9) (by omega) (q / 9) (by omega)) (zabsd (p % 9) (by omega) (q % 9) (by omega)) (zap_lt (by omega) (by omega)) (zap_lt (by omega) (by omega)), zfar_max]
        refine zj_i2l 82 rfl rfl ?_
        refine zn_last 83 (3) rfl rfl zke_5 rfl (by omega) (by decide) zke_u5 ?_
        refine zj_aload_n 84 rfl rfl rfl ?_
        refine zj_get 85 rfl rfl zke_0 rfl ?_
        refine zj_iconst 86 (4) rfl rfl (by decide) ?_
        refine zj_aload_n 87 rfl rfl rfl ?_
        refine zj_get 88 rfl rfl zke_0 rfl ?_
        refine zj_get 89 rfl rfl (zkp_in hP).1 rfl ?_
        refine zj_iload 90 rfl rfl rfl ?_
        refine zn_iald 91 (((9) * (((p / 9) + (q / 9)) / (2))) + (((p % 9) + (q % 9)) / (2))) rfl rfl (zkp_in hP).2.2.2 rfl (by omega) (by decide) ?_
        refine zj_i2l 92 rfl rfl ?_
        refine zn_last 93 (4) rfl rfl zke_5 rfl (by omega) (by decide) zke_u5 ?_
        refine zj_return 94 rfl rfl rfl ?_
        refine ⟨rfl, rfl, ?_⟩
        simp only [sB_sB]
        rfl
end
