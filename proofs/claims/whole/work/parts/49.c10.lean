/-! the component: pictures blurred -/
theorem zmax0 {r g : Nat} (hr : r < 2 ^ 20) (hg : g < 2 ^ 20) : (if (0 : Int32) < nI r - nI g then nI r - nI g else 0) = nI (r - g) := by
  by_cases h : g ≤ r
  · rw [pk_sub h]
    split
    · rfl
    · next e =>
      have : r - g = 0 := by
        rcases Nat.eq_zero_or_pos (r - g) with z | z
        · exact z
        · exact absurd ((nI_ltI (a := 0) (by omega) (by omega)).mpr z) e
      rw [this]; rfl
  · rw [if_neg (fun e => absurd (pk_sneg (a := r) (b := g) (by omega) (by omega)) (Int32.not_lt.mpr (Int32.le_of_lt e))), show r - g = 0 by omega]; rfl
theorem zmin9 {y : Nat} (hy : y < 2 ^ 20) : (if nI y < (9 : Int32) then nI y else 9) = nI (min 9 y) := by
  show (if nI y < nI 9 then nI y else nI 9) = _
  by_cases h : y < 9
  · rw [if_pos ((nI_ltI (b := 9) (by omega) (by omega)).mpr h), show min 9 y = y by omega]
  · rw [if_neg (fun e => h ((nI_ltI (b := 9) (by omega) (by omega)).mp e)), show min 9 y = 9 by omega]
abbrev pBs (s : Nat → Int32) (g r c : Nat) : Int32 := s (10 * min 9 (r + g + 1) + min 9 (c + g + 1)) - s (10 * (r - g) + min 9 (c + g + 1)) - s (10 * min 9 (r + g + 1) + (c - g)) + s (10 * (r - g) + (c - g))
abbrev pBc (g r c : Nat) : Nat := (min 9 (r + g + 1) - (r - g)) * (min 9 (c + g + 1) - (c - g))
def pBlr (s : Nat → Int32) (g r c : Nat) : Int32 := pBs s g r c / nI (pBc g r c)
theorem pBc_pos : ∀ g, g < 4 → ∀ r, r < 9 → ∀ c, c < 9 → 0 < pBc g r c ∧ pBc g r c < 100 := by decide +kernel
section
variable {E : zE} {σ : zH} {a b : Nat} {M N : zMo}
theorem k_blurredAt (h : zkpAt σ a M) (g r c : Nat) (hg : g < 4) (hgl : M.2.2.1 0 = nI g) (hr : r < 9) (hc : c < 9) : zM E YPi_blurredAt 2 [.ref a, .int (nI r), .int (nI c)] (σ) (some (.int (pBlr (M.1 1) g r c))) (σ) := by
  have hp : 0 < (min 9 (r + g + 1) - (r - g)) * (min 9 (c + g + 1) - (c - g)) ∧ (min 9 (r + g + 1) - (r - g)) * (min 9 (c + g + 1) - (c - g)) < 100 := pBc_pos g hg r hr c hc
  refine zM.of oPi_blurredAt (by decide +kernel) rfl rfl (fun n => ?_)
  refine zj_iconst 0 (0) rfl rfl (by decide) ?_
  refine zj_iload_n 1 rfl rfl rfl ?_
  refine zj_aload_n 2 rfl rfl rfl ?_
  refine zj_get 3 rfl rfl h.1 rfl ?_
  rw [hgl]
  refine zj_isub 4 rfl rfl ?_
  refine zj_mmax 5 rfl rfl lk_4_58 rfl rfl rfl rfl ?_
  refine zj_istore_n 6 rfl rfl ?_
  refine zj_bipush 7 (9) rfl rfl (by decide) ?_
  refine zj_iload_n 8 rfl rfl rfl ?_
  refine zj_aload_n 9 rfl rfl rfl ?_
  refine zj_get 10 rfl rfl h.1 rfl ?_
  refine zn_iadd 11 (r) (g) rfl rfl rfl hgl ?_
  refine zj_iconst 12 (1) rfl rfl (by decide) ?_
  refine zn_iadd 13 (r + g) (1) rfl rfl rfl rfl ?_
  refine zj_mmin 14 rfl rfl lk_4_63 rfl rfl rfl rfl ?_
  refine zj_istore 15 rfl rfl ?_
  refine zj_iconst 16 (0) rfl rfl (by decide) ?_
  refine zj_iload_n 17 rfl rfl rfl ?_
  refine zj_aload_n 18 rfl rfl rfl ?_
  refine zj_get 19 rfl rfl h.1 rfl ?_
  rw [hgl]
  refine zj_isub 20 rfl rfl ?_
  refine zj_mmax 21 rfl rfl lk_4_58 rfl rfl rfl rfl ?_
  refine zj_istore 22 rfl rfl ?_
  refine zj_bipush 23 (9) rfl rfl (by decide) ?_
  refine zj_iload_n 24 rfl rfl rfl ?_
  refine zj_aload_n 25 rfl rfl rfl ?_
  refine zj_get 26 rfl rfl h.1 rfl ?_
  refine zn_iadd 27 (c) (g) rfl rfl rfl hgl ?_
  refine zj_iconst 28 (1) rfl rfl (by decide) ?_
  refine zn_iadd 29 (c + g) (1) rfl rfl rfl rfl ?_
  refine zj_mmin 30 rfl rfl lk_4_63 rfl rfl rfl rfl ?_
  refine zj_istore 31 rfl rfl ?_
  refine zj_iload 32 rfl rfl rfl ?_
  refine zj_iload_n 33 rfl rfl rfl ?_
  refine zn_isub 34 (min 9 (r + g + 1)) (r - g) rfl rfl (zmin9 (by omega)) (zmax0 (by omega) (by omega)) (by omega) ?_
  refine zj_iload 35 rfl rfl rfl ?_
  refine zj_iload 36 rfl rfl rfl ?_
  refine zn_isub 37 (min 9 (c + g + 1)) (c - g) rfl rfl (zmin9 (by omega)) (zmax0 (by omega) (by omega)) (by omega) ?_
  refine zn_imul 38 ((min 9 (r + g + 1)) - (r - g)) ((min 9 (c + g + 1)) - (c - g)) rfl rfl rfl rfl ?_
  refine zj_istore 39 rfl rfl ?_
  refine zj_aload_n 40 rfl rfl rfl ?_
  refine zj_get 41 rfl rfl h.1 rfl ?_
  refine zj_bipush 42 (10) rfl rfl (by decide) ?_
  refine zj_iload 43 rfl rfl rfl ?_
  refine zn_imul 44 (10) (min 9 (r + g + 1)) rfl rfl rfl (zmin9 (by omega)) ?_
  refine zj_iload 45 rfl rfl rfl ?_
  refine zn_iadd 46 ((10) * (min 9 (r + g + 1))) (min 9 (c + g + 1)) rfl rfl rfl (zmin9 (by omega)) ?_
  refine zn_iald 47 (((10) * (min 9 (r + g + 1))) + (min 9 (c + g + 1))) rfl rfl h.2.2.1 rfl (by omega) (by decide) ?_
  refine zj_aload_n 48 rfl rfl rfl ?_
  refine zj_get 49 rfl rfl h.1 rfl ?_
  refine zj_bipush 50 (10) rfl rfl (by decide) ?_
  refine zj_iload_n 51 rfl rfl rfl ?_
  refine zn_imul 52 (10) (r - g) rfl rfl rfl (zmax0 (by omega) (by omega)) ?_
  refine zj_iload 53 rfl rfl rfl ?_
  refine zn_iadd 54 ((10) * (r - g)) (min 9 (c + g + 1)) rfl rfl rfl (zmin9 (by omega)) ?_
  refine zn_iald 55 (((10) * (r - g)) + (min 9 (c + g + 1))) rfl rfl h.2.2.1 rfl (by omega) (by decide) ?_
  refine zj_isub 56 rfl rfl ?_
  refine zj_aload_n 57 rfl rfl rfl ?_
  refine zj_get 58 rfl rfl h.1 rfl ?_
  refine zj_bipush 59 (10) rfl rfl (by decide) ?_
  refine zj_iload 60 rfl rfl rfl ?_
  refine zn_imul 61 (10) (min 9 (r + g + 1)) rfl rfl rfl (zmin9 (by omega)) ?_
  refine zj_iload 62 rfl rfl rfl ?_
  refine zn_iadd 63 ((10) * (min 9 (r + g + 1))) (c - g) rfl rfl rfl (zmax0 (by omega) (by omega)) ?_
  refine zn_iald 64 (((10) * (min 9 (r + g + 1))) + (c - g)) rfl rfl h.2.2.1 rfl (by omega) (by decide) ?_
  refine zj_isub 65 rfl rfl ?_
  refine zj_aload_n 66 rfl rfl rfl ?_
  refine zj_get 67 rfl rfl h.1 rfl ?_
  refine zj_bipush 68 (10) rfl rfl (by decide) ?_
  refine zj_iload_n 69 rfl rfl rfl ?_
  refine zn_imul 70 (10) (r - g) rfl rfl rfl (zmax0 (by omega) (by omega)) ?_
  refine zj_iload 71 rfl rfl rfl ?_
  refine zn_iadd 72 ((10) * (r - g)) (c - g) rfl rfl rfl (zmax0 (by omega) (by omega)) ?_
  refine zn_iald 73 (((10) * (r - g)) + (c - g)) rfl rfl h.2.2.1 rfl (by omega) (by decide) ?_
  refine zj_iadd 74 rfl rfl ?_
  refine zj_istore 75 rfl rfl ?_
  refine zj_iload 76 rfl rfl rfl ?_
  refine zj_if_le 77 rfl rfl (fun c122 => ?_) (fun c122 => ?_)
  · exact absurd ((nI_leI (b := 0) (by omega) (by omega)).mp c122) (by omega)
  · refine zj_iload 78 rfl rfl rfl ?_
    refine zj_iload 79 rfl rfl rfl ?_
    refine zj_idiv 80 rfl rfl (by exact fun e => absurd ((nI_eq (b := 0) (by omega) (by omega)).mp e) (by omega)) ?_
    refine zj_goto 81 rfl rfl ?_
    refine zj_ireturn 83 rfl rfl rfl ?_
    exact ⟨rfl, rfl, rfl⟩
theorem k_blurredAt' (h : zkpAt σ a M) (g r c : Nat) (x y : Int32) (hx : x = nI r) (hy : y = nI c) (hg : g < 4) (hgl : M.2.2.1 0 = nI g) (hr : r < 9) (hc : c < 9) : zM E YPi_blurredAt 2 [.ref a, .int x, .int y] σ (some (.int (pBlr (M.1 1) g r c))) σ := by
  subst hx; subst hy; exact k_blurredAt h g r c hg hgl hr hc
theorem l_Pblur_in (g : Nat) (hg : g < 4) (hgl : M.2.2.1 0 = nI g) (rs cs : Int32) (Rr Cc : Nat → Nat) (hR : ∀ r, r < 9 → Rr r < 9 ∧ (if zr (nI r + rs) 9 then nI r + rs else nI r) = nI (Rr r)) (hC : ∀ c, c < 9 → Cc c < 9 ∧ (if zr (nI c + cs) 9 then nI c + cs else nI c) = nI (Cc c)) (r : Nat) (hr : r < 9) (x4 : Int32) (h4 : x4 = nI (Rr r)) (kk : ∀ n o6, zB E YPi_blur 3 n none (zkp σ a (M.sA 2 (zfl (fun j => pBlr (M.1 1) g (Rr (j / 9)) (Cc (j % 9))) (M.1 2) (81)))) (zkp σ a (M.sA 2 (zfl (fun j => pBlr (M.1 1) g (Rr (j / 9)) (Cc (j % 9))) (M.1 2) (9 * (r + 1))))) 87 [some (.ref a), some (.int rs), some (.int cs), some (.int (nI r)), some (.int x4), some (.int (nI 9)), o6] []) : ∀ (m : Nat) (c : Nat) (o6 : Option Value), (c + m = 9) → ∀ n, zB E YPi_blur 3 n (none) (zkp σ a (M.sA 2 (zfl (fun j => pBlr (M.1 1) g (Rr (j / 9)) (Cc (j % 9))) (M.1 2) (81)))) (zkp σ a (M.sA 2 (zfl (fun j => pBlr (M.1 1) g (Rr (j / 9)) (Cc (j % 9))) (M.1 2) (9 * r + c)))) 31 [some (.ref a), some (.int rs), some (.int cs), some (.int (nI r)), some (.int x4), some (.int (nI c)), o6] [] := by
  intro m
  induction m using Nat.strongRecOn with
  | ind m ih =>
  intro c o6 hk n
  refine zj_iload 19 rfl rfl rfl ?_
  refine zj_bipush 20 (9) rfl rfl (by decide) ?_
  refine zn_icmp_ge 21 (c) (9) rfl rfl rfl rfl (by omega) (by omega) (fun c35 => ?_) (fun c35 => ?_)
  · obtain rfl : c = 9 := by omega
    exact kk n _
  · refine zj_iload 22 rfl rfl rfl ?_
    refine zj_iload_n 23 rfl rfl rfl ?_
    refine zj_iadd 24 rfl rfl ?_
    refine zj_bipush 25 (9) rfl rfl (by decide) ?_
    refine zj_csx 26 rfl rfl lk_4_34 ckD_isOneOf (k_isOneOf _ _) rfl rfl rfl rfl ?_
    refine zj_if_eq 27 rfl rfl (fun c47 => ?_) (fun c47 => ?_)
    · refine zj_iload 32 rfl rfl rfl ?_
      have e6 : nI c = nI (Cc c) := by
        have q := (hC c (by omega)).2
        rw [if_neg (show ¬ zr (nI c + cs) 9 from zo_0.mp c47)] at q
        exact q
      refine zj_istore 33 rfl rfl ?_
      refine zj_aload_n 34 rfl rfl rfl ?_
      refine zj_get 35 rfl rfl zkp_0 rfl ?_
      refine zj_bipush 36 (9) rfl rfl (by decide) ?_
      refine zj_iload_n 37 rfl rfl rfl ?_
      refine zn_imul 38 (9) (r) rfl rfl rfl rfl ?_
      refine zj_iload 39 rfl rfl rfl ?_
      refine zn_iadd 40 (9 * r) (c) rfl rfl rfl rfl ?_
      refine zj_aload_n 41 rfl rfl rfl ?_
      refine zj_iload 42 rfl rfl rfl ?_
      refine zj_iload 43 rfl rfl rfl ?_
      refine zj_cvx 44 rfl rfl lk_4_55 ckPi_blurredAt (k_blurredAt' (M := M.sA 2 (zfl (fun j => pBlr (M.1 1) g (Rr (j / 9)) (Cc (j % 9))) (M.1 2) (9 * r + c))) zkp_at g (Rr r) (Cc c) _ _ h4 e6 hg hgl (hR r hr).1 (hC c (by omega)).1) rfl zkp_0 rfl rfl rfl ?_
      refine zn_iast 45 ((9 * r) + (c)) rfl rfl zkp_3 rfl (by omega) (by decide) zkp_u3 ?_
      refine zn_iinc 46 (c) rfl rfl rfl rfl ?_
      refine zj_goto 47 rfl rfl ?_
      have e : zkp σ a ((M.sA 2 (zfl (fun j => pBlr (M.1 1) g (Rr (j / 9)) (Cc (j % 9))) (M.1 2) (9 * r + c))).sA 2 (va_up (zfl (fun j => pBlr (M.1 1) g (Rr (j / 9)) (Cc (j % 9))) (M.1 2) (9 * r + c)) (9 * r + c) (pBlr (M.1 1) g (Rr r) (Cc c)))) = zkp σ a (M.sA 2 (zfl (fun j => pBlr (M.1 1) g (Rr (j / 9)) (Cc (j % 9))) (M.1 2) (9 * r + (c + 1)))) := by
        rw [zMo.sA_sA, zfl_up' (by show _ = pBlr (M.1 1) g (Rr ((9 * r + c) / 9)) (Cc ((9 * r + c) % 9)); rw [show (9 * r + c) / 9 = r by omega, show (9 * r + c) % 9 = c by omega])]; rfl
      exact e ▸ ih (m - 1) (by omega) (c + 1) _ (by omega) n
    · refine zj_iload 28 rfl rfl rfl ?_
      refine zj_iload_n 29 rfl rfl rfl ?_
      refine zj_iadd 30 rfl rfl ?_
      refine zj_goto 31 rfl rfl ?_
      have e6 : nI c + cs = nI (Cc c) := by
        have q := (hC c (by omega)).2
        rw [if_pos (show zr (nI c + cs) 9 from zo_n0.mp c47)] at q
        exact q
      refine zj_istore 33 rfl rfl ?_
      refine zj_aload_n 34 rfl rfl rfl ?_
      refine zj_get 35 rfl rfl zkp_0 rfl ?_
      refine zj_bipush 36 (9) rfl rfl (by decide) ?_
      refine zj_iload_n 37 rfl rfl rfl ?_
      refine zn_imul 38 (9) (r) rfl rfl rfl rfl ?_
      refine zj_iload 39 rfl rfl rfl ?_
      refine zn_iadd 40 (9 * r) (c) rfl rfl rfl rfl ?_
      refine zj_aload_n 41 rfl rfl rfl ?_
      refine zj_iload 42 rfl rfl rfl ?_
      refine zj_iload 43 rfl rfl rfl ?_
      refine zj_cvx 44 rfl rfl lk_4_55 ckPi_blurredAt (k_blurredAt' (M := M.sA 2 (zfl (fun j => pBlr (M.1 1) g (Rr (j / 9)) (Cc (j % 9))) (M.1 2) (9 * r + c))) zkp_at g (Rr r) (Cc c) _ _ h4 e6 hg hgl (hR r hr).1 (hC c (by omega)).1) rfl zkp_0 rfl rfl rfl ?_
      refine zn_iast 45 ((9 * r) + (c)) rfl rfl zkp_3 rfl (by omega) (by decide) zkp_u3 ?_
      refine zn_iinc 46 (c) rfl rfl rfl rfl ?_
      refine zj_goto 47 rfl rfl ?_
      have e : zkp σ a ((M.sA 2 (zfl (fun j => pBlr (M.1 1) g (Rr (j / 9)) (Cc (j % 9))) (M.1 2) (9 * r + c))).sA 2 (va_up (zfl (fun j => pBlr (M.1 1) g (Rr (j / 9)) (Cc (j % 9))) (M.1 2) (9 * r + c)) (9 * r + c) (pBlr (M.1 1) g (Rr r) (Cc c)))) = zkp σ a (M.sA 2 (zfl (fun j => pBlr (M.1 1) g (Rr (j / 9)) (Cc (j % 9))) (M.1 2) (9 * r + (c + 1)))) := by
        rw [zMo.sA_sA, zfl_up' (by show _ = pBlr (M.1 1) g (Rr ((9 * r + c) / 9)) (Cc ((9 * r + c) % 9)); rw [show (9 * r + c) / 9 = r by omega, show (9 * r + c) % 9 = c by omega])]; rfl
      exact e ▸ ih (m - 1) (by omega) (c + 1) _ (by omega) n
theorem l_Pblur (g : Nat) (hg : g < 4) (hgl : M.2.2.1 0 = nI g) (rs cs : Int32) (Rr Cc : Nat → Nat) (hR : ∀ r, r < 9 → Rr r < 9 ∧ (if zr (nI r + rs) 9 then nI r + rs else nI r) = nI (Rr r)) (hC : ∀ c, c < 9 → Cc c < 9 ∧ (if zr (nI c + cs) 9 then nI c + cs else nI c) = nI (Cc c)) : ∀ (m : Nat) (r : Nat) (o4 o5 o6 : Option Value), (r + m = 9) → ∀ n, zB E YPi_blur 3 n (none) (zkp σ a (M.sA 2 (zfl (fun j => pBlr (M.1 1) g (Rr (j / 9)) (Cc (j % 9))) (M.1 2) (81)))) (zkp σ a (M.sA 2 (zfl (fun j => pBlr (M.1 1) g (Rr (j / 9)) (Cc (j % 9))) (M.1 2) (9 * r)))) 2 [some (.ref a), some (.int rs), some (.int cs), some (.int (nI r)), o4, o5, o6] [] := by
  intro m
  induction m using Nat.strongRecOn with
  | ind m ih =>
  intro r o4 o5 o6 hk n
  refine zj_iload_n 2 rfl rfl rfl ?_
  refine zj_bipush 3 (9) rfl rfl (by decide) ?_
  refine zn_icmp_ge 4 (r) (9) rfl rfl rfl rfl (by omega) (by omega) (fun c5 => ?_) (fun c5 => ?_)
  · refine zj_return 50 rfl rfl rfl ?_
    obtain rfl : r = 9 := by omega
    exact ⟨rfl, rfl, rfl⟩
  · refine zj_iload_n 5 rfl rfl rfl ?_
    refine zj_iload_n 6 rfl rfl rfl ?_
    refine zj_iadd 7 rfl rfl ?_
    refine zj_bipush 8 (9) rfl rfl (by decide) ?_
    refine zj_csx 9 rfl rfl lk_4_34 ckD_isOneOf (k_isOneOf _ _) rfl rfl rfl rfl ?_
    refine zj_if_eq 10 rfl rfl (fun c16 => ?_) (fun c16 => ?_)
    · refine zj_iload_n 15 rfl rfl rfl ?_
      have e4 : nI r = nI (Rr r) := by
        have q := (hR r (by omega)).2
        rw [if_neg (show ¬ zr (nI r + rs) 9 from zo_0.mp c16)] at q
        exact q
      refine zj_istore 16 rfl rfl ?_
      refine zj_iconst 17 (0) rfl rfl (by decide) ?_
      refine zj_istore 18 rfl rfl ?_
      refine l_Pblur_in g hg hgl rs cs Rr Cc hR hC r (by omega) _ e4 (fun n o6 => ?_) 9 0 _ (by omega) n
      refine zn_iinc 48 (r) rfl rfl rfl rfl ?_
      refine zj_goto 49 rfl rfl ?_
      exact ih (m - 1) (by omega) (r + 1) _ _ _ (by omega) n
    · refine zj_iload_n 11 rfl rfl rfl ?_
      refine zj_iload_n 12 rfl rfl rfl ?_
      refine zj_iadd 13 rfl rfl ?_
      refine zj_goto 14 rfl rfl ?_
      have e4 : nI r + rs = nI (Rr r) := by
        have q := (hR r (by omega)).2
        rw [if_pos (show zr (nI r + rs) 9 from zo_n0.mp c16)] at q
        exact q
      refine zj_istore 16 rfl rfl ?_
      refine zj_iconst 17 (0) rfl rfl (by decide) ?_
      refine zj_istore 18 rfl rfl ?_
      refine l_Pblur_in g hg hgl rs cs Rr Cc hR hC r (by omega) _ e4 (fun n o6 => ?_) 9 0 _ (by omega) n
      refine zn_iinc 48 (r) rfl rfl rfl rfl ?_
      refine zj_goto 49 rfl rfl ?_
      exact ih (m - 1) (by omega) (r + 1) _ _ _ (by omega) n
theorem k_Pblur (g : Nat) (hg : g < 4) (hgl : M.2.2.1 0 = nI g) (rs cs : Int32) (Rr Cc : Nat → Nat) (hR : ∀ r, r < 9 → Rr r < 9 ∧ (if zr (nI r + rs) 9 then nI r + rs else nI r) = nI (Rr r)) (hC : ∀ c, c < 9 → Cc c < 9 ∧ (if zr (nI c + cs) 9 then nI c + cs else nI c) = nI (Cc c)) : zM E YPi_blur 3 [.ref a, .int rs, .int cs] (zkp σ a M) (none) (zkp σ a (M.sA 2 (zfl (fun j => pBlr (M.1 1) g (Rr (j / 9)) (Cc (j % 9))) (M.1 2) (81)))) := by
  refine zM.of oPi_blur (by decide +kernel) rfl rfl (fun n => ?_)
  refine zj_iconst 0 (0) rfl rfl (by decide) ?_
  refine zj_istore_n 1 rfl rfl ?_
  have e : zkp σ a M = zkp σ a (M.sA 2 (zfl (fun j => pBlr (M.1 1) g (Rr (j / 9)) (Cc (j % 9))) (M.1 2) (9 * 0))) := by rw [Nat.mul_zero, zfl_0, zMo.sA_self]
  rw [e]
  exact l_Pblur g hg hgl rs cs Rr Cc hR hC 9 0 _ _ _ (by omega) n
end
