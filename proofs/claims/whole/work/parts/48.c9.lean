/-! the component: laws copied; sums of a picture -/
def pRs (sh : Nat → Int32) (r : Nat) : Nat → Int32
  | 0 => 0
  | c + 1 => pRs sh r c + sh (9 * r + c)
def pS (sh : Nat → Int32) : Nat → Nat → Int32
  | 0, _ => 0
  | r + 1, c => pS sh r c + pRs sh r c
theorem pS_0 (sh : Nat → Int32) : ∀ r, pS sh r 0 = 0
  | 0 => rfl
  | r + 1 => by simp only [pS, pRs]; rw [pS_0 sh r]; rfl
def adJ (sh : Nat → Int32) (r : Nat) (f : Nat → Int32) : Prop := (∀ r' c', r' ≤ r → c' ≤ 9 → f (10 * r' + c') = pS sh r' c') ∧ ∀ r', r' ≤ 9 → f (10 * r') = 0
def adI (sh : Nat → Int32) (r c : Nat) (f : Nat → Int32) : Prop := adJ sh r f ∧ ∀ c', c' ≤ c → f (10 * (r + 1) + c') = pS sh (r + 1) c'
theorem adI_0 {sh : Nat → Int32} {r : Nat} {f : Nat → Int32} (h : adJ sh r f) (hr : r < 9) : adI sh r 0 f := by
  refine ⟨h, fun c' hc => ?_⟩
  obtain rfl : c' = 0 := by omega
  rw [pS_0]; exact h.2 (r + 1) (by omega)
theorem adI_s {sh : Nat → Int32} {r c : Nat} {f : Nat → Int32} (h : adI sh r c f) (hr : r < 9) (hc : c < 9) : adI sh r (c + 1) (va_up f (10 * (r + 1) + c + 1) (f (10 * (r + 1) + c + 1 - 10) + (pRs sh r c + sh (9 * r + c)))) := by
  obtain ⟨⟨h1, h2⟩, h3⟩ := h
  refine ⟨⟨fun r' c' hr' hc' => ?_, fun r' hr' => ?_⟩, fun c' hc' => ?_⟩
  · rw [va_up_ne' (by omega)]; exact h1 r' c' hr' hc'
  · rw [va_up_ne' (by omega)]; exact h2 r' hr'
  · by_cases e : c' = c + 1
    · subst e
      unfold va_up
      rw [if_pos (by omega), show 10 * (r + 1) + c + 1 - 10 = 10 * r + (c + 1) by omega, h1 r (c + 1) (Nat.le_refl _) (by omega)]
      rfl
    · rw [va_up_ne' (by omega)]; exact h3 c' (by omega)
theorem adI_9 {sh : Nat → Int32} {r : Nat} {f : Nat → Int32} (h : adI sh r 9 f) : adJ sh (r + 1) f := by
  refine ⟨fun r' c' hr' hc' => ?_, h.1.2⟩
  by_cases e : r' = r + 1
  · subst e; exact h.2 c' hc'
  · exact h.1.1 r' c' (by omega) hc'
section
variable {E : zE} {σ : zH} {a b : Nat} {M N : zMo}
theorem k_Lcopy (hN : zktAt σ b N) (hd : a + 3 ≤ b ∨ b + 3 ≤ a) (hbn : narrow .boolean (.int (N.2.2.1 3)) = .int (N.2.2.1 3)) (hbf : fits .boolean (.int (N.2.2.1 3)) = true) : zX E YLa_copy 3 [.ref a, .ref b] (zkt σ a M) (none) (fun s => ∃ M1, s = zkt σ a M1 ∧ zeqb [40, 40] 4 N M1 ∧ M1.2.2.1 4 = M.2.2.1 4) := by
  refine zX.of oLa_copy (by decide +kernel) rfl rfl (fun n => ?_)
  refine zj_aload_n 0 rfl rfl rfl ?_
  refine zj_get 1 rfl rfl (by rw [zkt_ne (by omega)]; exact hN.1) rfl ?_
  refine zj_aload_n 2 rfl rfl rfl ?_
  refine zj_get 3 rfl rfl zkt_0 rfl ?_
  refine zj_csv 4 rfl rfl lk_3_28 ckD_copyRow (k_copyRow' (b + 1) (a + 1) 40 _ _ (by rw [zkt_ne (by omega)]; exact hN.2.1) zkt_1 (by decide) zkt_u1) rfl rfl rfl rfl ?_
  refine zj_aload_n 5 rfl rfl rfl ?_
  refine zj_aload_n 6 rfl rfl rfl ?_
  refine zj_get 7 rfl rfl (by rw [zkt_ne (by omega)]; exact hN.1) rfl ?_
  refine zn_put 8 rfl rfl zkt_0 rfl rfl rfl rfl zkt_p_length ?_
  refine zj_aload_n 9 rfl rfl rfl ?_
  refine zj_aload_n 10 rfl rfl rfl ?_
  refine zj_get 11 rfl rfl (by rw [zkt_ne (by omega)]; exact hN.1) rfl ?_
  refine zn_put 12 rfl rfl zkt_0 rfl rfl rfl rfl zkt_p_fault ?_
  refine zj_aload_n 13 rfl rfl rfl ?_
  refine zj_get 14 rfl rfl (by rw [zkt_ne (by omega)]; exact hN.1) rfl ?_
  refine zj_aload_n 15 rfl rfl rfl ?_
  refine zj_get 16 rfl rfl zkt_0 rfl ?_
  refine zj_csv 17 rfl rfl lk_3_28 ckD_copyRow (k_copyRow' (b + 2) (a + 2) 40 _ _ (by rw [zkt_ne (by omega)]; exact hN.2.2) zkt_2 (by decide) zkt_u2) rfl rfl rfl rfl ?_
  refine zj_aload_n 18 rfl rfl rfl ?_
  refine zj_aload_n 19 rfl rfl rfl ?_
  refine zj_get 20 rfl rfl (by rw [zkt_ne (by omega)]; exact hN.1) rfl ?_
  refine zn_put 21 rfl rfl zkt_0 rfl rfl rfl rfl zkt_p_stepCount ?_
  refine zj_aload_n 22 rfl rfl rfl ?_
  refine zj_aload_n 23 rfl rfl rfl ?_
  refine zj_get 24 rfl rfl (by rw [zkt_ne (by omega)]; exact hN.1) rfl ?_
  refine zn_put 25 rfl rfl zkt_0 rfl hbn hbf rfl zkt_p_asksShown ?_
  refine zj_return 26 rfl rfl rfl ?_
  refine ⟨rfl, rfl, _, rfl, ⟨fun i ln hi j hj => ?_, fun i hi => ?_⟩, rfl⟩
  · match i, hi with
    | 0, hi => simp at hi; subst hi; simp [va_up, zcpy_lt hj]
    | 1, hi => simp at hi; subst hi; simp [va_up, zcpy_lt hj]
    | i + 2, hi => simp at hi
  · match i, hi with
    | 0, _ => rfl
    | 1, _ => rfl
    | 2, _ => rfl
    | 3, _ => rfl
    | i + 4, hi => omega
theorem k_Lmix (h : zktAt σ a M) (ml : Nat) (hm : M.2.2.1 0 = nI ml) (hb : ml ≤ 40) (h0 : Int64) : zM E YLa_mixInto 3 [.ref a, .long h0] (σ) (some (.long (pTR (M.1 0) (31 * h0 + (nI ml).toInt64) ml))) (σ) := by
  refine zM.of oLa_mixInto (by decide +kernel) rfl rfl (fun n => ?_)
  refine zj_lload_n 0 rfl rfl rfl ?_
  refine zj_aload_n 1 rfl rfl rfl ?_
  refine zj_get 2 rfl rfl h.1 rfl ?_
  rw [hm]
  refine zj_i2l 3 rfl rfl ?_
  refine zj_csx 4 rfl rfl lk_3_39 ckD_mix (k_mix _ _) rfl rfl rfl rfl ?_
  refine zj_aload_n 5 rfl rfl rfl ?_
  refine zj_get 6 rfl rfl h.1 rfl ?_
  refine zj_aload_n 7 rfl rfl rfl ?_
  refine zj_get 8 rfl rfl h.1 rfl ?_
  rw [hm]
  refine zj_csx 9 rfl rfl lk_3_43 ckD_mixRow (k_mixRow _ 40 _ h.2.1 (by decide) _ ml hb) rfl rfl rfl rfl ?_
  refine zj_lreturn 10 rfl rfl rfl ?_
  exact ⟨rfl, rfl, rfl⟩
theorem k_linesIfShown (h : zkeAt σ a M) (shown : Int32) : zM E YEy_linesIfShown 1 [.ref a, .int shown] (σ) (some (.int ((M.2.2.1 0 &&& (shown ^^^ (-1))) ||| (M.2.2.1 1 &&& shown)))) (σ) := by
  refine zM.of oEy_linesIfShown (by decide +kernel) rfl rfl (fun n => ?_)
  refine zj_aload_n 0 rfl rfl rfl ?_
  refine zj_get 1 rfl rfl h.1 rfl ?_
  refine zj_iload_n 2 rfl rfl rfl ?_
  refine zj_iconst 3 (-1) rfl rfl (by decide) ?_
  refine zj_ixor 4 rfl rfl ?_
  refine zj_iand 5 rfl rfl ?_
  refine zj_aload_n 6 rfl rfl rfl ?_
  refine zj_get 7 rfl rfl h.1 rfl ?_
  refine zj_iload_n 8 rfl rfl rfl ?_
  refine zj_iand 9 rfl rfl ?_
  refine zj_ior 10 rfl rfl ?_
  refine zj_ireturn 11 rfl rfl rfl ?_
  exact ⟨rfl, rfl, rfl⟩
theorem k_unitAt (h : zkeAt σ a M) (i : Nat) (hi : i < 7) : zM E YEy_unitAt 1 [.ref a, .int (nI i)] (σ) (some (.long (M.2.1 0 i))) (σ) := by
  refine zM.of oEy_unitAt (by decide +kernel) rfl rfl (fun n => ?_)
  refine zj_iload_n 0 rfl rfl rfl ?_
  refine zj_bipush 1 (7) rfl rfl (by decide) ?_
  refine zn_icmp_ge 2 (i) (7) rfl rfl rfl rfl (by omega) (by omega) (fun c3 => ?_) (fun c3 => ?_)
  · exact absurd c3 (by omega)
  · refine zj_aload_n 3 rfl rfl rfl ?_
    refine zj_get 4 rfl rfl h.1 rfl ?_
    refine zj_iload_n 5 rfl rfl rfl ?_
    refine zn_lald 6 (i) rfl rfl h.2.1 rfl (by omega) (by decide) ?_
    refine zj_goto 7 rfl rfl ?_
    refine zj_lreturn 9 rfl rfl rfl ?_
    exact ⟨rfl, rfl, rfl⟩
theorem l_addUp_in (r : Nat) (hr : r < 9) (kk : ∀ n f o4, adI (M.1 0) r 9 f → zXB E YPi_addUp 1 n none (fun s => ∃ f, s = zkp σ a (M.sA 1 f) ∧ adJ (M.1 0) 9 f) (zkp σ a (M.sA 1 f)) 69 [some (.ref a), some (.int (nI r)), some (.int (pRs (M.1 0) r 9)), some (.int (nI 9)), o4] []) : ∀ (m : Nat) (c : Nat) (f : Nat → Int32) (o4 : Option Value), (c + m = 9) → (adI (M.1 0) r c f) → ∀ n, zXB E YPi_addUp 1 n (none) (fun s => ∃ f, s = zkp σ a (M.sA 1 f) ∧ adJ (M.1 0) 9 f) (zkp σ a (M.sA 1 f)) 12 [some (.ref a), some (.int (nI r)), some (.int (pRs (M.1 0) r c)), some (.int (nI c)), o4] [] := by
  intro m
  induction m using Nat.strongRecOn with
  | ind m ih =>
  intro c f o4 hk hI n
  refine zj_iload_n 9 rfl rfl rfl ?_
  refine zj_bipush 10 (9) rfl rfl (by decide) ?_
  refine zn_icmp_ge 11 (c) (9) rfl rfl rfl rfl (by omega) (by omega) (fun c15 => ?_) (fun c15 => ?_)
  · obtain rfl : c = 9 := by omega
    exact kk n f _ hI
  · refine zj_iload_n 12 rfl rfl rfl ?_
    refine zj_aload_n 13 rfl rfl rfl ?_
    refine zj_get 14 rfl rfl zkp_0 rfl ?_
    refine zj_bipush 15 (9) rfl rfl (by decide) ?_
    refine zj_iload_n 16 rfl rfl rfl ?_
    refine zn_imul 17 (9) (r) rfl rfl rfl rfl ?_
    refine zj_iload_n 18 rfl rfl rfl ?_
    refine zn_iadd 19 (9 * r) (c) rfl rfl rfl rfl ?_
    refine zn_iald 20 ((9 * r) + (c)) rfl rfl zkp_1 rfl (by omega) (by decide) ?_
    refine zj_iadd 21 rfl rfl ?_
    refine zj_istore_n 22 rfl rfl ?_
    refine zj_bipush 23 (10) rfl rfl (by decide) ?_
    refine zj_iload_n 24 rfl rfl rfl ?_
    refine zj_iconst 25 (1) rfl rfl (by decide) ?_
    refine zn_iadd 26 (r) (1) rfl rfl rfl rfl ?_
    refine zn_imul 27 (10) (r + 1) rfl rfl rfl rfl ?_
    refine zj_iload_n 28 rfl rfl rfl ?_
    refine zn_iadd 29 ((10) * (r + 1)) (c) rfl rfl rfl rfl ?_
    refine zj_iconst 30 (1) rfl rfl (by decide) ?_
    refine zn_iadd 31 (((10) * (r + 1)) + (c)) (1) rfl rfl rfl rfl ?_
    refine zj_istore 32 rfl rfl ?_
    refine zj_aload_n 33 rfl rfl rfl ?_
    refine zj_get 34 rfl rfl zkp_0 rfl ?_
    refine zj_iload 35 rfl rfl rfl ?_
    refine zj_aload_n 36 rfl rfl rfl ?_
    refine zj_get 37 rfl rfl zkp_0 rfl ?_
    refine zj_iload 38 rfl rfl rfl ?_
    refine zj_bipush 39 (10) rfl rfl (by decide) ?_
    refine zn_isub 40 ((((10) * (r + 1)) + (c)) + (1)) (10) rfl rfl rfl rfl (by omega) ?_
    refine zn_iald 41 (((((10) * (r + 1)) + (c)) + (1)) - (10)) rfl rfl zkp_2 rfl (by omega) (by decide) ?_
    refine zj_iload_n 42 rfl rfl rfl ?_
    refine zj_iadd 43 rfl rfl ?_
    refine zn_iast 44 ((((10) * (r + 1)) + (c)) + (1)) rfl rfl zkp_2 rfl (by omega) (by decide) zkp_u2 ?_
    refine zn_iinc 45 (c) rfl rfl rfl rfl ?_
    refine zj_goto 46 rfl rfl ?_
    have e : zkp σ a ((M.sA 1 f).sA 1 (va_up f (10 * (r + 1) + c + 1) (f (10 * (r + 1) + c + 1 - 10) + (pRs (M.1 0) r c + M.1 0 (9 * r + c))))) = zkp σ a (M.sA 1 (va_up f (10 * (r + 1) + c + 1) (f (10 * (r + 1) + c + 1 - 10) + (pRs (M.1 0) r c + M.1 0 (9 * r + c))))) := by rw [zMo.sA_sA]
    exact e ▸ ih (m - 1) (by omega) (c + 1) _ _ (by omega) (adI_s hI hr (by omega)) n
theorem l_addUp  : ∀ (m : Nat) (r : Nat) (f : Nat → Int32) (o2 o3 o4 : Option Value), (r + m = 9) → (adJ (M.1 0) r f) → ∀ n, zXB E YPi_addUp 1 n (none) (fun s => ∃ f, s = zkp σ a (M.sA 1 f) ∧ adJ (M.1 0) 9 f) (zkp σ a (M.sA 1 f)) 2 [some (.ref a), some (.int (nI r)), o2, o3, o4] [] := by
  intro m
  induction m using Nat.strongRecOn with
  | ind m ih =>
  intro r f o2 o3 o4 hk hJ n
  refine zj_iload_n 2 rfl rfl rfl ?_
  refine zj_bipush 3 (9) rfl rfl (by decide) ?_
  refine zn_icmp_ge 4 (r) (9) rfl rfl rfl rfl (by omega) (by omega) (fun c5 => ?_) (fun c5 => ?_)
  · refine zj_return 49 rfl rfl rfl ?_
    obtain rfl : r = 9 := by omega
    exact ⟨rfl, rfl, f, rfl, hJ⟩
  · refine zj_iconst 5 (0) rfl rfl (by decide) ?_
    refine zj_istore_n 6 rfl rfl ?_
    refine zj_iconst 7 (0) rfl rfl (by decide) ?_
    refine zj_istore_n 8 rfl rfl ?_
    refine l_addUp_in r (by omega) (fun n f o4 hI => ?_) 9 0 f _ (by omega) (adI_0 hJ (by omega)) n
    refine zn_iinc 47 (r) rfl rfl rfl rfl ?_
    refine zj_goto 48 rfl rfl ?_
    exact ih (m - 1) (by omega) (r + 1) f _ _ _ (by omega) (adI_9 hI) n
theorem k_addUp (h1 : ∀ c, c ≤ 9 → M.1 1 c = 0) (h2 : ∀ r, r ≤ 9 → M.1 1 (10 * r) = 0) : zX E YPi_addUp 1 [.ref a] (zkp σ a M) (none) (fun s => ∃ f, s = zkp σ a (M.sA 1 f) ∧ adJ (M.1 0) 9 f) := by
  refine zX.of oPi_addUp (by decide +kernel) rfl rfl (fun n => ?_)
  refine zj_iconst 0 (0) rfl rfl (by decide) ?_
  refine zj_istore_n 1 rfl rfl ?_
  have e : zkp σ a M = zkp σ a (M.sA 1 (M.1 1)) := by rw [zMo.sA_self]
  rw [e]
  exact l_addUp 9 0 (M.1 1) _ _ _ (by omega) ⟨fun r' c' hr hc => (by obtain rfl : r' = 0 := (by omega); rw [Nat.mul_zero, Nat.zero_add]; exact h1 c' hc), h2⟩ n
end
