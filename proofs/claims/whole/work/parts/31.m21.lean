/-! the reference: drawnOf -/
section
variable {E : zE} {σ : zH} {a : Nat} {M : zMo}
theorem zap_le (x y : Nat) : zap x y ≤ x + y := by unfold zap; split <;> omega
theorem l_drawnOf (cs : List (Int32 × Int64)) (l g air : Nat) (shown : Int32) (mk : Nat → Nat) (hg : g < 4) (ha : air < 5) (hmk : ∀ m, m < 8 → M.1 0 (360 + m) = nI (mk m) ∧ mk m < 81) (hlen : cs.length ≤ 40) (hcm : M.2.2.1 0 = nI cs.length) (hcs : ∀ i x, cs[i]? = some x → M.1 4 i = x.1 ∧ M.2.1 0 i = x.2) (hq : ∀ x ∈ cs, qCode x.1) (hev : ∀ lt, ∃ v, evC lt cs [] = some [v]) : ∀ (m : Nat) (x y : Nat) (f g2 : Nat → Int64) (o9 o10 o11 o12 : Option Value), ((7 - x) * 9 + (8 - y) ≤ m) → (x < 8) → (x < y) → (y ≤ 8) → ∀ n, zXB E YM_drawnOf 7 n (some (.int (pDr (mTr cs (mSeen (M.1 3) g air) g shown mk) 28))) (fun s => ∃ f g2, s = mw σ a ((M.sB 2 g2).sB 1 f)) (mw σ a ((M.sB 2 g2).sB 1 f)) 33 [some (.ref a), some (.int (nI l)), some (.int (nI g)), some (.int (nI air)), some (.int shown), some (.int (pDr (mTr cs (mSeen (M.1 3) g air) g shown mk) (pNo x y))), some (.int (nI (pNo x y))), some (.int (nI x)), some (.int (nI y)), o9, o10, o11, o12] [] := by
  intro m
  induction m using Nat.strongRecOn with
  | ind m ih =>
  intro x y f g2 o9 o10 o11 o12 hm hx hxy hy n
  have hz1 := zap_le (mk x / 9) (mk y / 9)
  have hz2 := zap_le (mk x % 9) (mk y % 9)
  refine zj_iload 20 rfl rfl rfl ?_
  refine zj_bipush 21 (8) rfl rfl (by decide) ?_
  refine zn_icmp_ge 22 (y) (8) rfl rfl rfl rfl (by omega) (by omega) (fun c37 => ?_) (fun c37 => ?_)
  · refine zn_iinc 145 (x) rfl rfl rfl rfl ?_
    refine zj_goto 146 rfl rfl ?_
    refine zj_iload 13 rfl rfl rfl ?_
    refine zj_bipush 14 (8) rfl rfl (by decide) ?_
    refine zn_icmp_ge 15 (x + 1) (8) rfl rfl rfl rfl (by omega) (by omega) (fun c24 => ?_) (fun c24 => ?_)
    · refine zj_iload 147 rfl rfl rfl ?_
      refine zj_ireturn 148 rfl rfl rfl ?_
      obtain rfl : x = 7 := by omega
      obtain rfl : y = 8 := by omega
      rw [pNo_end]
      exact ⟨rfl, rfl, f, g2, rfl⟩
    · refine zj_iload 16 rfl rfl rfl ?_
      refine zj_iconst 17 (1) rfl rfl (by decide) ?_
      refine zn_iadd 18 (x + 1) (1) rfl rfl rfl rfl ?_
      refine zj_istore 19 rfl rfl ?_
      obtain rfl : y = 8 := by omega
      have hx7 : x < 7 := by omega
      rw [pNo_next x hx7]
      exact ih ((7 - (x + 1)) * 9 + (8 - (x + 2))) (by omega) (x + 1) (x + 2) _ _ _ _ _ _ (Nat.le_refl _) (by omega) (by omega) (by omega) n
  · obtain ⟨hN0, hA, hB, hN⟩ := pNo_ok x hx y (by omega) hxy
    have hp := (hmk x (by omega)).2
    have hqq := (hmk y (by omega)).2
    refine zj_aload_n 23 rfl rfl rfl ?_
    refine zj_get 24 rfl rfl mw_0 rfl ?_
    refine zj_sipush 25 (360) rfl rfl (by decide) ?_
    refine zj_iload 26 rfl rfl rfl ?_
    refine zn_iadd 27 (360) (x) rfl rfl rfl rfl ?_
    refine zn_iald 28 (360 + x) rfl rfl (show mw σ a ((M.sB 2 _).sB 1 _) (a + 1) = some (.inl (0, 818, .inl (M.1 0))) from mw_1) rfl (by omega) (by decide) ?_
    rw [(hmk x (by omega)).1]
    refine zj_istore 29 rfl rfl ?_
    refine zj_norm [_, _, _, _, _, _, _, _, _, _, _, _, _] rfl ?_
    refine zj_aload_n 30 rfl rfl rfl ?_
    refine zj_get 31 rfl rfl mw_0 rfl ?_
    refine zj_sipush 32 (360) rfl rfl (by decide) ?_
    refine zj_iload 33 rfl rfl rfl ?_
    refine zn_iadd 34 (360) (y) rfl rfl rfl rfl ?_
    refine zn_iald 35 (360 + y) rfl rfl (show mw σ a ((M.sB 2 _).sB 1 _) (a + 1) = some (.inl (0, 818, .inl (M.1 0))) from mw_1) rfl (by omega) (by decide) ?_
    rw [(hmk y (by omega)).1]
    refine zj_istore 36 rfl rfl ?_
    refine zj_iload 37 rfl rfl rfl ?_
    refine zj_bipush 38 (9) rfl rfl (by decide) ?_
    refine zn_idiv 39 (mk x) (9) rfl rfl rfl rfl (by omega) (by omega) (by omega) ?_
    refine zj_iload 40 rfl rfl rfl ?_
    refine zj_bipush 41 (9) rfl rfl (by decide) ?_
    refine zn_idiv 42 (mk y) (9) rfl rfl rfl rfl (by omega) (by omega) (by omega) ?_
    refine zj_csx 43 rfl rfl lk_8_161 ckM_apart (k_apart ((mk x) / (9)) ((mk y) / (9)) (by omega) (by omega)) rfl rfl rfl rfl ?_
    refine zj_istore 44 rfl rfl ?_
    refine zj_iload 45 rfl rfl rfl ?_
    refine zj_bipush 46 (9) rfl rfl (by decide) ?_
    refine zn_irem 47 (mk x) (9) rfl rfl rfl rfl (by omega) (by omega) (by omega) ?_
    refine zj_iload 48 rfl rfl rfl ?_
    refine zj_bipush 49 (9) rfl rfl (by decide) ?_
    refine zn_irem 50 (mk y) (9) rfl rfl rfl rfl (by omega) (by omega) (by omega) ?_
    refine zj_csx 51 rfl rfl lk_8_161 ckM_apart (k_apart ((mk x) % (9)) ((mk y) % (9)) (by omega) (by omega)) rfl rfl rfl rfl ?_
    refine zj_istore 52 rfl rfl ?_
    refine zj_norm [_, _, _, _, _, _, _, _, _, _, _, _, _] rfl ?_
    refine zj_aload_n 53 rfl rfl rfl ?_
    refine zj_get 54 rfl rfl mw_0 rfl ?_
    refine zj_iconst 55 (0) rfl rfl (by decide) ?_
    refine zj_aload_n 56 rfl rfl rfl ?_
    refine zj_iload_n 57 rfl rfl rfl ?_
    refine zj_iload_n 58 rfl rfl rfl ?_
    refine zj_iload 59 rfl rfl rfl ?_
    refine zj_cvx 60 rfl rfl lk_8_90 ckM_seenAt (k_seenB _ _ g air (mk x) hg ha (by omega)) rfl mw_0 rfl rfl rfl ?_
    refine zj_i2l 61 rfl rfl ?_
    refine zn_last 62 (0) rfl rfl mw_9 rfl (by omega) (by decide) mw_u9b ?_
    refine zj_aload_n 63 rfl rfl rfl ?_
    refine zj_get 64 rfl rfl mw_0 rfl ?_
    refine zj_iconst 65 (1) rfl rfl (by decide) ?_
    refine zj_aload_n 66 rfl rfl rfl ?_
    refine zj_iload_n 67 rfl rfl rfl ?_
    refine zj_iload_n 68 rfl rfl rfl ?_
    refine zj_iload 69 rfl rfl rfl ?_
    refine zj_cvx 70 rfl rfl lk_8_90 ckM_seenAt (k_seenB _ _ g air (mk y) hg ha (by omega)) rfl mw_0 rfl rfl rfl ?_
    refine zj_i2l 71 rfl rfl ?_
    refine zn_last 72 (1) rfl rfl mw_9 rfl (by omega) (by decide) mw_u9b ?_
    refine zj_aload_n 73 rfl rfl rfl ?_
    refine zj_get 74 rfl rfl mw_0 rfl ?_
    refine zj_iconst 75 (2) rfl rfl (by decide) ?_
    refine zj_iload 76 rfl rfl rfl ?_
    refine zj_iload 77 rfl rfl rfl ?_
    refine zn_icmp_le 78 (zap (mk x / 9) (mk y / 9)) (zap (mk x % 9) (mk y % 9)) rfl rfl rfl rfl (by omega) (by omega) (fun c135 => ?_) (fun c135 => ?_)
    · refine zj_iload 82 rfl rfl rfl ?_
      refine zj_i2l 83 rfl rfl ?_
      refine zn_last 84 (2) rfl rfl mw_9 rfl (by omega) (by decide) mw_u9b ?_
      refine zj_aload_n 85 rfl rfl rfl ?_
      refine zj_get 86 rfl rfl mw_0 rfl ?_
      refine zj_iconst 87 (3) rfl rfl (by decide) ?_
      refine zj_aload_n 88 rfl rfl rfl ?_
      refine zj_iload_n 89 rfl rfl rfl ?_
      refine zj_iload_n 90 rfl rfl rfl ?_
      refine zj_bipush 91 (9) rfl rfl (by decide) ?_
      refine zj_iload 92 rfl rfl rfl ?_
      refine zj_bipush 93 (9) rfl rfl (by decide) ?_
      refine zn_idiv 94 (mk x) (9) rfl rfl rfl rfl (by omega) (by omega) (by omega) ?_
      refine zj_iload 95 rfl rfl rfl ?_
      refine zj_bipush 96 (9) rfl rfl (by decide) ?_
      refine zn_idiv 97 (mk y) (9) rfl rfl rfl rfl (by omega) (by omega) (by omega) ?_
      refine zn_iadd 98 ((mk x) / (9)) ((mk y) / (9)) rfl rfl rfl rfl ?_
      refine zj_iconst 99 (2) rfl rfl (by decide) ?_
      refine zn_idiv 100 (((mk x) / (9)) + ((mk y) / (9))) (2) rfl rfl rfl rfl (by omega) (by omega) (by omega) ?_
      refine zn_imul 101 (9) ((((mk x) / (9)) + ((mk y) / (9))) / (2)) rfl rfl rfl rfl ?_
      refine zj_iload 102 rfl rfl rfl ?_
      refine zj_bipush 103 (9) rfl rfl (by decide) ?_
      refine zn_irem 104 (mk x) (9) rfl rfl rfl rfl (by omega) (by omega) (by omega) ?_
      refine zj_iload 105 rfl rfl rfl ?_
      refine zj_bipush 106 (9) rfl rfl (by decide) ?_
      refine zn_irem 107 (mk y) (9) rfl rfl rfl rfl (by omega) (by omega) (by omega) ?_
      refine zn_iadd 108 ((mk x) % (9)) ((mk y) % (9)) rfl rfl rfl rfl ?_
      refine zj_iconst 109 (2) rfl rfl (by decide) ?_
      refine zn_idiv 110 (((mk x) % (9)) + ((mk y) % (9))) (2) rfl rfl rfl rfl (by omega) (by omega) (by omega) ?_
      refine zn_iadd 111 ((9) * ((((mk x) / (9)) + ((mk y) / (9))) / (2))) ((((mk x) % (9)) + ((mk y) % (9))) / (2)) rfl rfl rfl rfl ?_
      refine zj_cvx 112 rfl rfl lk_8_90 ckM_seenAt (k_seenB _ _ g air (((9) * ((((mk x) / (9)) + ((mk y) / (9))) / (2))) + ((((mk x) % (9)) + ((mk y) % (9))) / (2))) hg ha (by omega)) rfl mw_0 rfl rfl rfl ?_
      refine zj_i2l 113 rfl rfl ?_
      refine zn_last 114 (3) rfl rfl mw_9 rfl (by omega) (by decide) mw_u9b ?_
      refine zj_aload_n 115 rfl rfl rfl ?_
      refine zj_get 116 rfl rfl mw_0 rfl ?_
      refine zj_iconst 117 (4) rfl rfl (by decide) ?_
      refine zj_iload 118 rfl rfl rfl ?_
      refine zj_iload 119 rfl rfl rfl ?_
      refine zj_ishr 120 rfl rfl ?_
      refine zj_iconst 121 (1) rfl rfl (by decide) ?_
      refine zj_iand 122 rfl rfl ?_
      refine zj_i2l 123 rfl rfl ?_
      refine zn_last 124 (4) rfl rfl mw_9 rfl (by omega) (by decide) mw_u9b ?_
      refine zj_aload_n 125 rfl rfl rfl ?_
      refine zj_get 126 rfl rfl mw_0 rfl ?_
      refine zj_iconst 127 (5) rfl rfl (by decide) ?_
      refine zj_iload_n 128 rfl rfl rfl ?_
      refine zj_i2l 129 rfl rfl ?_
      refine zn_last 130 (5) rfl rfl mw_9 rfl (by omega) (by decide) mw_u9b ?_
      refine zj_iload 131 rfl rfl rfl ?_
      refine zj_aload_n 132 rfl rfl rfl ?_
      refine zj_cvxX 133 rfl rfl lk_8_164 ckM_tells (k_tellsB _ _ cs hlen hcm hcs hq hev (mLt (mSeen (M.1 3) g air) g (mk x) (mk y) ((shown >>> (nI (pNo x y) &&& 31)) &&& 1)) (by
  intro j hj
  match j, hj with
  | 0, _ => rfl
  | 1, _ => rfl
  | 2, _ => show _ = (nI (zfar (mk x) (mk y))).toInt64; unfold zfar; rw [if_neg (by omega)]; rfl
  | 3, _ => rfl
  | 4, _ => rfl
  | 5, _ => rfl)) rfl mw_0 rfl rfl rfl (fun s1 hP1 => ?_)
      obtain ⟨g3, rfl⟩ := hP1
      refine zj_if_eq 134 rfl rfl (fun c219 => ?_) (fun c219 => ?_)
      · refine zj_iconst 139 (0) rfl rfl (by decide) ?_
        refine zj_ior 140 rfl rfl ?_
        refine zj_istore 141 rfl rfl ?_
        refine zn_iinc 142 (pNo x y) rfl rfl rfl rfl ?_
        refine zn_iinc 143 (y) rfl rfl rfl rfl ?_
        refine zj_norm [_, _, _, _, _, _, _, _, _, _, _, _, _] rfl ?_
        refine zj_goto 144 rfl rfl ?_
        have e : pDr (mTr cs (mSeen (M.1 3) g air) g shown mk) (pNo x y + 1) = pDr (mTr cs (mSeen (M.1 3) g air) g shown mk) (pNo x y) ||| (if (mTr cs (mSeen (M.1 3) g air) g shown mk) (pNo x y) then 1 <<< (nI (pNo x y) &&& 31) else 0) := rfl
        rw [if_neg (by unfold mTr; rw [hA, hB]; simpa using zo_0.mp c219)] at e
        have hh := ih ((7 - x) * 9 + (8 - (y + 1))) (by omega) x (y + 1)
        rw [hN, e] at hh
        exact hh _ _ _ _ _ _ (Nat.le_refl _) (by omega) (by omega) (by omega) n
      · refine zj_iconst 135 (1) rfl rfl (by decide) ?_
        refine zj_iload 136 rfl rfl rfl ?_
        refine zj_ishl 137 rfl rfl ?_
        refine zj_goto 138 rfl rfl ?_
        refine zj_ior 140 rfl rfl ?_
        refine zj_istore 141 rfl rfl ?_
        refine zn_iinc 142 (pNo x y) rfl rfl rfl rfl ?_
        refine zn_iinc 143 (y) rfl rfl rfl rfl ?_
        refine zj_norm [_, _, _, _, _, _, _, _, _, _, _, _, _] rfl ?_
        refine zj_goto 144 rfl rfl ?_
        have e : pDr (mTr cs (mSeen (M.1 3) g air) g shown mk) (pNo x y + 1) = pDr (mTr cs (mSeen (M.1 3) g air) g shown mk) (pNo x y) ||| (if (mTr cs (mSeen (M.1 3) g air) g shown mk) (pNo x y) then 1 <<< (nI (pNo x y) &&& 31) else 0) := rfl
        rw [if_pos (by unfold mTr; rw [hA, hB]; exact decide_eq_true (zo_n0.mp c219))] at e
        have hh := ih ((7 - x) * 9 + (8 - (y + 1))) (by omega) x (y + 1)
        rw [hN, e] at hh
        exact hh _ _ _ _ _ _ (Nat.le_refl _) (by omega) (by omega) (by omega) n
    · refine zj_iload 79 rfl rfl rfl ?_
      refine zj_i2l 80 rfl rfl ?_
      refine zj_goto 81 rfl rfl ?_
      refine zn_last 84 (2) rfl rfl mw_9 rfl (by omega) (by decide) mw_u9b ?_
      refine zj_aload_n 85 rfl rfl rfl ?_
      refine zj_get 86 rfl rfl mw_0 rfl ?_
      refine zj_iconst 87 (3) rfl rfl (by decide) ?_
      refine zj_aload_n 88 rfl rfl rfl ?_
      refine zj_iload_n 89 rfl rfl rfl ?_
      refine zj_iload_n 90 rfl rfl rfl ?_
      refine zj_bipush 91 (9) rfl rfl (by decide) ?_
      refine zj_iload 92 rfl rfl rfl ?_
      refine zj_bipush 93 (9) rfl rfl (by decide) ?_
      refine zn_idiv 94 (mk x) (9) rfl rfl rfl rfl (by omega) (by omega) (by omega) ?_
      refine zj_iload 95 rfl rfl rfl ?_
      refine zj_bipush 96 (9) rfl rfl (by decide) ?_
      refine zn_idiv 97 (mk y) (9) rfl rfl rfl rfl (by omega) (by omega) (by omega) ?_
      refine zn_iadd 98 ((mk x) / (9)) ((mk y) / (9)) rfl rfl rfl rfl ?_
      refine zj_iconst 99 (2) rfl rfl (by decide) ?_
      refine zn_idiv 100 (((mk x) / (9)) + ((mk y) / (9))) (2) rfl rfl rfl rfl (by omega) (by omega) (by omega) ?_
      refine zn_imul 101 (9) ((((mk x) / (9)) + ((mk y) / (9))) / (2)) rfl rfl rfl rfl ?_
      refine zj_iload 102 rfl rfl rfl ?_
      refine zj_bipush 103 (9) rfl rfl (by decide) ?_
      refine zn_irem 104 (mk x) (9) rfl rfl rfl rfl (by omega) (by omega) (by omega) ?_
      refine zj_iload 105 rfl rfl rfl ?_
      refine zj_bipush 106 (9) rfl rfl (by decide) ?_
      refine zn_irem 107 (mk y) (9) rfl rfl rfl rfl (by omega) (by omega) (by omega) ?_
      refine zn_iadd 108 ((mk x) % (9)) ((mk y) % (9)) rfl rfl rfl rfl ?_
      refine zj_iconst 109 (2) rfl rfl (by decide) ?_
      refine zn_idiv 110 (((mk x) % (9)) + ((mk y) % (9))) (2) rfl rfl rfl rfl (by omega) (by omega) (by omega) ?_
      refine zn_iadd 111 ((9) * ((((mk x) / (9)) + ((mk y) / (9))) / (2))) ((((mk x) % (9)) + ((mk y) % (9))) / (2)) rfl rfl rfl rfl ?_
      refine zj_cvx 112 rfl rfl lk_8_90 ckM_seenAt (k_seenB _ _ g air (((9) * ((((mk x) / (9)) + ((mk y) / (9))) / (2))) + ((((mk x) % (9)) + ((mk y) % (9))) / (2))) hg ha (by omega)) rfl mw_0 rfl rfl rfl ?_
      refine zj_i2l 113 rfl rfl ?_
      refine zn_last 114 (3) rfl rfl mw_9 rfl (by omega) (by decide) mw_u9b ?_
      refine zj_aload_n 115 rfl rfl rfl ?_
      refine zj_get 116 rfl rfl mw_0 rfl ?_
      refine zj_iconst 117 (4) rfl rfl (by decide) ?_
      refine zj_iload 118 rfl rfl rfl ?_
      refine zj_iload 119 rfl rfl rfl ?_
      refine zj_ishr 120 rfl rfl ?_
      refine zj_iconst 121 (1) rfl rfl (by decide) ?_
      refine zj_iand 122 rfl rfl ?_
      refine zj_i2l 123 rfl rfl ?_
      refine zn_last 124 (4) rfl rfl mw_9 rfl (by omega) (by decide) mw_u9b ?_
      refine zj_aload_n 125 rfl rfl rfl ?_
      refine zj_get 126 rfl rfl mw_0 rfl ?_
      refine zj_iconst 127 (5) rfl rfl (by decide) ?_
      refine zj_iload_n 128 rfl rfl rfl ?_
      refine zj_i2l 129 rfl rfl ?_
      refine zn_last 130 (5) rfl rfl mw_9 rfl (by omega) (by decide) mw_u9b ?_
      refine zj_iload 131 rfl rfl rfl ?_
      refine zj_aload_n 132 rfl rfl rfl ?_
      refine zj_cvxX 133 rfl rfl lk_8_164 ckM_tells (k_tellsB _ _ cs hlen hcm hcs hq hev (mLt (mSeen (M.1 3) g air) g (mk x) (mk y) ((shown >>> (nI (pNo x y) &&& 31)) &&& 1)) (by
  intro j hj
  match j, hj with
  | 0, _ => rfl
  | 1, _ => rfl
  | 2, _ => show _ = (nI (zfar (mk x) (mk y))).toInt64; unfold zfar; rw [if_pos c135]; rfl
  | 3, _ => rfl
  | 4, _ => rfl
  | 5, _ => rfl)) rfl mw_0 rfl rfl rfl (fun s1 hP1 => ?_)
      obtain ⟨g3, rfl⟩ := hP1
      refine zj_if_eq 134 rfl rfl (fun c219 => ?_) (fun c219 => ?_)
      · refine zj_iconst 139 (0) rfl rfl (by decide) ?_
        refine zj_ior 140 rfl rfl ?_
        refine zj_istore 141 rfl rfl ?_
        refine zn_iinc 142 (pNo x y) rfl rfl rfl rfl ?_
        refine zn_iinc 143 (y) rfl rfl rfl rfl ?_
        refine zj_norm [_, _, _, _, _, _, _, _, _, _, _, _, _] rfl ?_
        refine zj_goto 144 rfl rfl ?_
        have e : pDr (mTr cs (mSeen (M.1 3) g air) g shown mk) (pNo x y + 1) = pDr (mTr cs (mSeen (M.1 3) g air) g shown mk) (pNo x y) ||| (if (mTr cs (mSeen (M.1 3) g air) g shown mk) (pNo x y) then 1 <<< (nI (pNo x y) &&& 31) else 0) := rfl
        rw [if_neg (by unfold mTr; rw [hA, hB]; simpa using zo_0.mp c219)] at e
        have hh := ih ((7 - x) * 9 + (8 - (y + 1))) (by omega) x (y + 1)
        rw [hN, e] at hh
        exact hh _ _ _ _ _ _ (Nat.le_refl _) (by omega) (by omega) (by omega) n
      · refine zj_iconst 135 (1) rfl rfl (by decide) ?_
        refine zj_iload 136 rfl rfl rfl ?_
        refine zj_ishl 137 rfl rfl ?_
        refine zj_goto 138 rfl rfl ?_
        refine zj_ior 140 rfl rfl ?_
        refine zj_istore 141 rfl rfl ?_
        refine zn_iinc 142 (pNo x y) rfl rfl rfl rfl ?_
        refine zn_iinc 143 (y) rfl rfl rfl rfl ?_
        refine zj_norm [_, _, _, _, _, _, _, _, _, _, _, _, _] rfl ?_
        refine zj_goto 144 rfl rfl ?_
        have e : pDr (mTr cs (mSeen (M.1 3) g air) g shown mk) (pNo x y + 1) = pDr (mTr cs (mSeen (M.1 3) g air) g shown mk) (pNo x y) ||| (if (mTr cs (mSeen (M.1 3) g air) g shown mk) (pNo x y) then 1 <<< (nI (pNo x y) &&& 31) else 0) := rfl
        rw [if_pos (by unfold mTr; rw [hA, hB]; exact decide_eq_true (zo_n0.mp c219))] at e
        have hh := ih ((7 - x) * 9 + (8 - (y + 1))) (by omega) x (y + 1)
        rw [hN, e] at hh
        exact hh _ _ _ _ _ _ (Nat.le_refl _) (by omega) (by omega) (by omega) n
end
