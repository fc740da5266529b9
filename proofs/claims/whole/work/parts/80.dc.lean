/-! the component: parts, fairest -/
abbrev pAhd (W : Int32) (f : Nat → Int32) (l w : Nat) : Prop := ∃ v, v < w ∧ zhas W (nI v) ∧ f (4 * l + v) = f (4 * l + w)
theorem ahead_iff {W : Int32} {f d : Nat → Int32} {l k : Nat} (hd : ∀ w, w < 4 → zhas W (nI w) → f (4 * l + w) = d w) (hk : k < 4) (hz : zhas W (nI k)) : pAhd W f l k ↔ d k ∈ pUn W d k := by
  rw [pUn_mem]
  constructor
  · rintro ⟨v, h1, h2, h3⟩
    rw [hd v (by omega) h2, hd k hk hz] at h3
    exact ⟨v, h1, h2, h3⟩
  · rintro ⟨v, h1, h2, h3⟩
    refine ⟨v, h1, h2, ?_⟩
    rw [hd v (by omega) h2, hd k hk hz, h3]
theorem wd_bit (gw : Nat → Int32) (may : Int32) : ∀ n, (∀ g, g < n → zr (gw g) 4) → pWd gw may n ≠ 0 → ∃ w, w < 4 ∧ zhas (pWd gw may n) (nI w)
  | 0, _, h => absurd rfl h
  | n + 1, hz, h => by
    simp only [pWd] at h ⊢
    obtain ⟨j, hj, e⟩ := zr_nI (n := 4) (hz n (by omega))
    rw [e] at h ⊢
    by_cases hm : zhas may (nI n)
    · refine ⟨j, hj, (zhas_bit _ (by omega)).mpr ?_⟩
      rw [if_pos hm, zbit_or, zbit_1shl j (by omega) j (by omega)]
      simp
    · rw [if_neg hm, zor0] at h ⊢
      exact wd_bit gw may n (fun g hg => hz g (by omega)) h
def qPt (u : Nat → Nat → Int32) : Nat → Int32 × Int32
  | 0 => (0, 0)
  | g + 1 => pPl (u g) g (qPt u g) 4
theorem pPl_eq (u : Nat → Int32) (g : Nat) (s s' : Int32 × Int32) (h : s.2 < u 0) (h' : s'.2 < u 0) : ∀ l, pPl u g s (l + 1) = pPl u g s' (l + 1)
  | 0 => by
    show (if s.2 < u 0 then _ else _) = (if s'.2 < u 0 then _ else _)
    rw [if_pos h, if_pos h']
  | l + 1 => by
    rw [pPl_s u g s (l + 1), pPl_s u g s' (l + 1), pPl_eq u g s s' h h' l]
theorem qPt_eq (u : Nat → Nat → Int32) (h : 0 < u 0 0) : ∀ g, qPt u (g + 1) = pPt u (g + 1)
  | 0 => pPl_eq (u 0) 0 (0, 0) (-1, 0) h h 3
  | g + 1 => by
    show pPl (u (g + 1)) (g + 1) (qPt u (g + 1)) 4 = pPl (u (g + 1)) (g + 1) (pPt u (g + 1)) 4
    rw [qPt_eq u h g]
theorem un_pos (W : Int32) (d : Nat → Int32) (h : ∃ w, w < 4 ∧ zhas W (nI w)) : (0 : Int32) < nI (pUn W d 4).length := by
  obtain ⟨w, hw, hz⟩ := h
  have hm : d w ∈ pUn W d 4 := (pUn_mem W d (d w) 4).mpr ⟨w, hw, hz, rfl⟩
  have hl := pUn_len W d 4
  have hp : 0 < (pUn W d 4).length := List.length_pos_of_mem hm
  exact (nI_ltI (a := 0) (by omega) (by omega)).mpr hp
theorem zab_eq (x : Int32) : (if 0 ≤ x then x else 0 - x) = zab x := by
  unfold zab
  by_cases h : 0 ≤ x
  · rw [if_pos h, if_neg (Int32.not_lt.mpr h)]
  · rw [if_neg h, if_pos (Int32.not_le.mp h), Int32.zero_sub]
section
variable {E : zE} {σ : zH} {c : Nat} {K : zDc}
theorem l_DisAhead (h : dAt σ c K) (W : Int32) (l : Nat) (hl : l < 4) (w0 : Nat) (hw : w0 < 4) (v : Int32) (hv : (v = 1 ∧ pAhd W K.d l w0) ∨ (v = 0 ∧ ¬ pAhd W K.d l w0)) : ∀ (m : Nat) (k : Nat), (k + m = w0) → (∀ i, i < k → ¬ (zhas W (nI i) ∧ K.d (4 * l + i) = K.d (4 * l + w0))) → ∀ n, zB E YD_isDrawnAhead 2 n (some (.int v)) (σ) (σ) 3 [some (.ref c), some (.int W), some (.int (nI l)), some (.int (nI w0)), some (.int (nI k))] [] := by
  intro m
  induction m using Nat.strongRecOn with
  | ind m ih =>
  intro k hk hI n
  refine zj_iload 2 rfl rfl rfl ?_
  refine zj_iload_n 3 rfl rfl rfl ?_
  refine zn_icmp_ge 4 (k) (w0) rfl rfl rfl rfl (by omega) (by omega) (fun c6 => ?_) (fun c6 => ?_)
  · refine zj_iconst 30 (0) rfl rfl (by decide) ?_
    refine zj_zreturn 31 rfl rfl rfl rfl ?_
    obtain rfl : k = w0 := by omega
    rcases hv with ⟨_, v1, g1, g2, g3⟩ | ⟨rfl, _⟩
    · exact absurd ⟨g2, g3⟩ (hI v1 g1)
    · exact ⟨rfl, rfl, rfl⟩
  · refine zj_iload_n 5 rfl rfl rfl ?_
    refine zj_iload 6 rfl rfl rfl ?_
    refine zj_csx 7 rfl rfl lk_7_232 ckD_has (k_has _ _) rfl rfl rfl rfl ?_
    refine zj_if_eq 8 rfl rfl (fun c15 => ?_) (fun c15 => ?_)
    · refine zn_iinc 28 (k) rfl rfl rfl rfl ?_
      refine zj_goto 29 rfl rfl ?_
      refine ih (m - 1) (by omega) (k + 1) (by omega) (fun i hi g => ?_) n
      by_cases e : i = k
      · subst e
        exact absurd g.1 (zo_0.mp c15)
      · exact hI i (by omega) g
    · refine zj_aload_n 9 rfl rfl rfl ?_
      refine zj_get 10 rfl rfl h.1 rfl ?_
      refine zj_iconst 11 (4) rfl rfl (by decide) ?_
      refine zj_iload_n 12 rfl rfl rfl ?_
      refine zn_imul 13 (4) (l) rfl rfl rfl rfl ?_
      refine zj_iload 14 rfl rfl rfl ?_
      refine zn_iadd 15 (4 * l) (k) rfl rfl rfl rfl ?_
      refine zn_iald 16 ((4 * l) + (k)) rfl rfl h.2.2.2.2.2.2.2.2 rfl (by omega) (by decide) ?_
      refine zj_aload_n 17 rfl rfl rfl ?_
      refine zj_get 18 rfl rfl h.1 rfl ?_
      refine zj_iconst 19 (4) rfl rfl (by decide) ?_
      refine zj_iload_n 20 rfl rfl rfl ?_
      refine zn_imul 21 (4) (l) rfl rfl rfl rfl ?_
      refine zj_iload_n 22 rfl rfl rfl ?_
      refine zn_iadd 23 (4 * l) (w0) rfl rfl rfl rfl ?_
      refine zn_iald 24 ((4 * l) + (w0)) rfl rfl h.2.2.2.2.2.2.2.2 rfl (by omega) (by decide) ?_
      refine zj_icmp_ne 25 rfl rfl (fun c39 => ?_) (fun c39 => ?_)
      · refine zn_iinc 28 (k) rfl rfl rfl rfl ?_
        refine zj_goto 29 rfl rfl ?_
        refine ih (m - 1) (by omega) (k + 1) (by omega) (fun i hi g => ?_) n
        by_cases e : i = k
        · subst e
          exact absurd g.2 c39
        · exact hI i (by omega) g
      · refine zj_iconst 26 (1) rfl rfl (by decide) ?_
        refine zj_zreturn 27 rfl rfl rfl rfl ?_
        rcases hv with ⟨rfl, _⟩ | ⟨_, g⟩
        · exact ⟨rfl, rfl, rfl⟩
        · exact absurd ⟨k, by omega, zo_n0.mp c15, c39⟩ g
theorem k_DisAhead (h : dAt σ c K) (W : Int32) (l : Nat) (hl : l < 4) (w0 : Nat) (hw : w0 < 4) (v : Int32) (hv : (v = 1 ∧ pAhd W K.d l w0) ∨ (v = 0 ∧ ¬ pAhd W K.d l w0)) : zM E YD_isDrawnAhead 2 [.ref c, .int W, .int (nI l), .int (nI w0)] (σ) (some (.int v)) (σ) := by
  refine zM.of oD_isDrawnAhead (by decide +kernel) rfl rfl (fun n => ?_)
  refine zj_iconst 0 (0) rfl rfl (by decide) ?_
  refine zj_istore 1 rfl rfl ?_
  exact l_DisAhead h W l hl w0 hw v hv w0 0 (by omega) (fun i hi => absurd hi (by omega)) n
theorem l_DcUn (h : dAt σ c K) (W : Int32) (l : Nat) (hl : l < 4) (d : Nat → Int32) (hd : ∀ w, w < 4 → zhas W (nI w) → K.d (4 * l + w) = d w) : ∀ (m : Nat) (k : Nat), (k + m = 4) → ∀ n, zB E YD_countUnlike 3 n (some (.int (nI (pUn W d 4).length))) (σ) (σ) 5 [some (.ref c), some (.int W), some (.int (nI l)), some (.int (nI (cUn W d k))), some (.int (nI k))] [] := by
  intro m
  induction m using Nat.strongRecOn with
  | ind m ih =>
  intro k hk n
  obtain ⟨v, hv⟩ : ∃ v : Int32, (v = 1 ∧ d k ∈ pUn W d k) ∨ (v = 0 ∧ ¬ d k ∈ pUn W d k) := by
    by_cases g : d k ∈ pUn W d k
    · exact ⟨1, Or.inl ⟨rfl, g⟩⟩
    · exact ⟨0, Or.inr ⟨rfl, g⟩⟩
  refine zj_iload 4 rfl rfl rfl ?_
  refine zj_iconst 5 (4) rfl rfl (by decide) ?_
  refine zn_icmp_ge 6 (k) (4) rfl rfl rfl rfl (by omega) (by omega) (fun c8 => ?_) (fun c8 => ?_)
  · refine zj_iload_n 20 rfl rfl rfl ?_
    refine zj_ireturn 21 rfl rfl rfl ?_
    obtain rfl : k = 4 := by omega
    exact ⟨zrt (by rw [cUn_eq]), rfl, rfl⟩
  · refine zj_iload_n 7 rfl rfl rfl ?_
    refine zj_iload 8 rfl rfl rfl ?_
    refine zj_csx 9 rfl rfl lk_7_232 ckD_has (k_has _ _) rfl rfl rfl rfl ?_
    refine zj_if_eq 10 rfl rfl (fun c17 => ?_) (fun c17 => ?_)
    · refine zn_iinc 18 (k) rfl rfl rfl rfl ?_
      refine zj_goto 19 rfl rfl ?_
      have e : cUn W d (k + 1) = cUn W d k := by show _ + _ = _; rw [if_neg (fun g => zo_0.mp c17 g.1), Nat.add_zero]
      have hh := ih (m - 1) (by omega) (k + 1) (by omega) n
      rw [e] at hh
      exact hh
    · refine zj_aload_n 11 rfl rfl rfl ?_
      refine zj_iload_n 12 rfl rfl rfl ?_
      refine zj_iload_n 13 rfl rfl rfl ?_
      refine zj_iload 14 rfl rfl rfl ?_
      refine zj_cvx 15 rfl rfl lk_7_298 ckD_isDrawnAhead (k_DisAhead h W l hl k (by omega) v (by rw [ahead_iff hd (by omega) (zo_n0.mp c17)]; exact hv)) rfl h.1 rfl rfl rfl ?_
      refine zj_if_ne 16 rfl rfl (fun c28 => ?_) (fun c28 => ?_)
      · refine zn_iinc 18 (k) rfl rfl rfl rfl ?_
        refine zj_goto 19 rfl rfl ?_
        have e : cUn W d (k + 1) = cUn W d k := by
          show _ + _ = _
          rw [if_neg, Nat.add_zero]
          rintro ⟨_, g⟩
          rcases hv with ⟨_, g2⟩ | ⟨rfl, _⟩
          · exact g g2
          · exact absurd rfl c28
        have hh := ih (m - 1) (by omega) (k + 1) (by omega) n
        rw [e] at hh
        exact hh
      · refine zn_iinc 17 (cUn W d k) rfl rfl rfl rfl ?_
        refine zn_iinc 18 (k) rfl rfl rfl rfl ?_
        refine zj_goto 19 rfl rfl ?_
        have e : cUn W d (k + 1) = cUn W d k + 1 := by
          show _ + _ = _
          rw [if_pos]
          refine ⟨zo_n0.mp c17, fun g => ?_⟩
          rcases hv with ⟨rfl, _⟩ | ⟨_, g2⟩
          · exact absurd c28 (by decide)
          · exact g2 g
        have hh := ih (m - 1) (by omega) (k + 1) (by omega) n
        rw [e] at hh
        exact hh
theorem k_DcUn (h : dAt σ c K) (W : Int32) (l : Nat) (hl : l < 4) (d : Nat → Int32) (hd : ∀ w, w < 4 → zhas W (nI w) → K.d (4 * l + w) = d w) : zM E YD_countUnlike 3 [.ref c, .int W, .int (nI l)] (σ) (some (.int (nI (pUn W d 4).length))) (σ) := by
  refine zM.of oD_countUnlike (by decide +kernel) rfl rfl (fun n => ?_)
  refine zj_iconst 0 (0) rfl rfl (by decide) ?_
  refine zj_istore_n 1 rfl rfl ?_
  refine zj_iconst 2 (0) rfl rfl (by decide) ?_
  refine zj_istore 3 rfl rfl ?_
  exact l_DcUn h W l hl d hd 4 0 (by omega) n
theorem l_Ddraw_in (h : dAt σ c K) {no ns nh ng : Nat} {ml mk : Nat → Nat} {r : Nat → Int32} (ok : mOk r no ns nh ng ml mk) (ok2 : mOk2 r ns) (hs : sRl K.n r ml) (W : Int32) (g : Nat) (hg : g < 4) (w : Nat) (hw : w < 4) (D0 : Nat → Int32) (kk : ∀ n τ K1, zsm σ τ c (c + 134) → dAt τ c K1 → dSc K K1 → (∀ l, l < 4 → K1.d (4 * l + w) = mD r ml mk l w g 0) → (∀ w', w' < 4 → w' ≠ w → ∀ l, l < 4 → K1.d (4 * l + w') = D0 (4 * l + w')) → zXB E YD_drawByAllLaws 5 n none (fun τ => zsm σ τ c (c + 134) ∧ ∃ K', dAt τ c K' ∧ dSc K K' ∧ ∀ w, w < 4 → zhas W (nI w) → ∀ l, l < 4 → K'.d (4 * l + w) = mD r ml mk l w g 0) τ 88 [some (.ref c), some (.int W), some (.int (nI g)), some (.int (nI w)), some (.int (nI 4))] []) : ∀ (m : Nat) (k : Nat) (τ : zH) (K1 : zDc), (k + m = 4) → (zsm σ τ c (c + 134)) → (dAt τ c K1) → (dSc K K1) → (pcT K1.p (mSeen (mPic r w 0) g 0) g) → (∀ l, l < k → K1.d (4 * l + w) = mD r ml mk l w g 0) → (∀ w', w' < 4 → w' ≠ w → ∀ l, l < 4 → K1.d (4 * l + w') = D0 (4 * l + w')) → ∀ n, zXB E YD_drawByAllLaws 5 n (none) (fun τ => zsm σ τ c (c + 134) ∧ ∃ K', dAt τ c K' ∧ dSc K K' ∧ ∀ w, w < 4 → zhas W (nI w) → ∀ l, l < 4 → K'.d (4 * l + w) = mD r ml mk l w g 0) (τ) 40 [some (.ref c), some (.int W), some (.int (nI g)), some (.int (nI w)), some (.int (nI k))] [] := by
  intro m
  induction m using Nat.strongRecOn with
  | ind m ih =>
  intro k τ K1 hk hz h1 hd ht hD hO n
  have hs1 : sRl K1.n r ml := by rw [hd.1]; exact hs
  refine zj_iload 23 rfl rfl rfl ?_
  refine zj_iconst 24 (4) rfl rfl (by decide) ?_
  refine zn_icmp_ge 25 (k) (4) rfl rfl rfl rfl (by omega) (by omega) (fun c43 => ?_) (fun c43 => ?_)
  · obtain rfl : k = 4 := by omega
    exact kk n τ K1 hz h1 hd hD hO
  · refine zj_aload_n 26 rfl rfl rfl ?_
    refine zj_get 27 rfl rfl h1.1 rfl ?_
    refine zj_iconst 28 (4) rfl rfl (by decide) ?_
    refine zj_iload 29 rfl rfl rfl ?_
    refine zn_imul 30 (4) (k) rfl rfl rfl rfl ?_
    refine zj_iload_n 31 rfl rfl rfl ?_
    refine zn_iadd 32 (4 * k) (w) rfl rfl rfl rfl ?_
    refine zj_aload_n 33 rfl rfl rfl ?_
    refine zj_get 34 rfl rfl h1.1 rfl ?_
    refine zj_aload_n 35 rfl rfl rfl ?_
    refine zj_get 36 rfl rfl h1.1 rfl ?_
    refine zj_get 37 rfl rfl h1.2.1.1 rfl ?_
    refine zj_iload 38 rfl rfl rfl ?_
    refine zn_aald 39 (k) rfl rfl h1.2.1.2.2.2.2.1 (by decide) rfl (by omega) (by decide) rfl ?_
    refine zj_aload_n 40 rfl rfl rfl ?_
    refine zj_get 41 rfl rfl h1.1 rfl ?_
    refine zj_get 42 rfl rfl h1.2.1.1 rfl ?_
    refine zj_iconst 43 (0) rfl rfl (by decide) ?_
    refine zj_cvxX 44 rfl rfl lk_7_235 ckEy_linesOf (kLines h1 ok hs1 k (by omega) ht) rfl h1.2.2.2.2.2.1.1 rfl rfl rfl (fun s1 hP1 => ?_)
    obtain ⟨z2, Y2, h2⟩ := hP1
    refine zn_iast 45 ((4 * k) + (w)) rfl rfl h2.2.2.2.2.2.2.2.2 rfl (by omega) (by decide) rfl ?_
    refine zn_iinc 46 (k) rfl rfl rfl rfl ?_
    refine zj_goto 47 rfl rfl ?_
    have h3 := h2.ud (f := va_up K1.d (4 * k + w) (mD r ml mk k w g 0)) zsm_zup (zup_eq _ _ _)
    refine ih (m - 1) (by omega) (k + 1) _ _ (by omega) ((hz.trans z2).trans (zsm_zup.wide (by omega) (by omega))) h3 (hd.trans ⟨rfl, rfl, rfl, rfl, rfl⟩) ht (fun l hl => ?_) (fun w' h4 hn l hl => ?_) n
    · show va_up K1.d (4 * k + w) _ (4 * l + w) = _
      by_cases e : l = k
      · subst e; rw [zva_eq]
      · rw [va_up_ne' (by omega)]; exact hD l (by omega)
    · show va_up K1.d (4 * k + w) _ (4 * l + w') = _
      rw [va_up_ne' (by omega)]; exact hO w' h4 hn l hl
theorem l_DdrawAll (h : dAt σ c K) {no ns nh ng : Nat} {ml mk : Nat → Nat} {r : Nat → Int32} (ok : mOk r no ns nh ng ml mk) (ok2 : mOk2 r ns) (hs : sRl K.n r ml) (W : Int32) (g : Nat) (hg : g < 4) : ∀ (m : Nat) (w : Nat) (τ : zH) (K1 : zDc) (o4 : Option Value), (w + m = 4) → (zsm σ τ c (c + 134)) → (dAt τ c K1) → (dSc K K1) → (∀ w', w' < w → zhas W (nI w') → ∀ l, l < 4 → K1.d (4 * l + w') = mD r ml mk l w' g 0) → ∀ n, zXB E YD_drawByAllLaws 5 n (none) (fun τ => zsm σ τ c (c + 134) ∧ ∃ K', dAt τ c K' ∧ dSc K K' ∧ ∀ w, w < 4 → zhas W (nI w) → ∀ l, l < 4 → K'.d (4 * l + w) = mD r ml mk l w g 0) (τ) 2 [some (.ref c), some (.int W), some (.int (nI g)), some (.int (nI w)), o4] [] := by
  intro m
  induction m using Nat.strongRecOn with
  | ind m ih =>
  intro w τ K1 o4 hk hz h1 hd hA n
  have hs1 : sRl K1.n r ml := by rw [hd.1]; exact hs
  refine zj_iload_n 2 rfl rfl rfl ?_
  refine zj_iconst 3 (4) rfl rfl (by decide) ?_
  refine zn_icmp_ge 4 (w) (4) rfl rfl rfl rfl (by omega) (by omega) (fun c4 => ?_) (fun c4 => ?_)
  · refine zj_return 50 rfl rfl rfl ?_
    obtain rfl : w = 4 := by omega
    exact ⟨rfl, rfl, hz, K1, h1, hd, hA⟩
  · refine zj_iload_n 5 rfl rfl rfl ?_
    refine zj_iload_n 6 rfl rfl rfl ?_
    refine zj_csx 7 rfl rfl lk_7_232 ckD_has (k_has _ _) rfl rfl rfl rfl ?_
    refine zj_if_eq 8 rfl rfl (fun c12 => ?_) (fun c12 => ?_)
    · refine zn_iinc 48 (w) rfl rfl rfl rfl ?_
      refine zj_goto 49 rfl rfl ?_
      refine ih (m - 1) (by omega) (w + 1) _ K1 _ (by omega) hz h1 hd (fun w' hw' hz' l hl => ?_) n
      by_cases e : w' = w
      · subst e; exact absurd hz' (zo_0.mp c12)
      · exact hA w' (by omega) hz' l hl
    · refine zj_aload_n 9 rfl rfl rfl ?_
      refine zj_get 10 rfl rfl h1.1 rfl ?_
      refine zj_get 11 rfl rfl h1.2.2.2.2.2.1.1 rfl ?_
      refine zj_aload_n 12 rfl rfl rfl ?_
      refine zj_get 13 rfl rfl h1.1 rfl ?_
      refine zj_get 14 rfl rfl h1.2.1.1 rfl ?_
      refine zj_iload_n 15 rfl rfl rfl ?_
      refine zn_aald 16 (w) rfl rfl h1.2.1.2.1 (by decide) rfl (by omega) (by decide) rfl ?_
      refine zj_iconst 17 (0) rfl rfl (by decide) ?_
      refine zj_iload_n 18 rfl rfl rfl ?_
      refine zj_iconst 19 (0) rfl rfl (by decide) ?_
      refine zj_cvvX 20 rfl rfl lk_7_76 ckPi_takeWorld (kTake h1 ok2 hs1.1 w (by omega) 0 (by decide) g 0 hg (by decide)) rfl h1.2.2.2.2.2.2.1.1 rfl rfl rfl (fun s1 hP1 => ?_)
      obtain ⟨z2, P2, h2, t2⟩ := hP1
      refine zj_iconst 21 (0) rfl rfl (by decide) ?_
      refine zj_istore 22 rfl rfl ?_
      refine l_Ddraw_in h ok ok2 hs W g hg w (by omega) K1.d (fun n τ3 K3 z3 h3 d3 D3 O3 => ?_) 4 0 _ _ (by omega) (hz.trans z2) h2 (hd.trans ⟨rfl, rfl, rfl, rfl, rfl⟩) t2 (fun l hl => absurd hl (by omega)) (fun w' _ _ l _ => rfl) n
      refine zn_iinc 48 (w) rfl rfl rfl rfl ?_
      refine zj_goto 49 rfl rfl ?_
      refine ih (m - 1) (by omega) (w + 1) τ3 K3 _ (by omega) z3 h3 d3 (fun w' hw' hz' l hl => ?_) n
      by_cases e : w' = w
      · subst e; exact D3 l hl
      · rw [O3 w' (by omega) e l hl]; exact hA w' (by omega) hz' l hl
theorem k_DdrawAll (h : dAt σ c K) {no ns nh ng : Nat} {ml mk : Nat → Nat} {r : Nat → Int32} (ok : mOk r no ns nh ng ml mk) (ok2 : mOk2 r ns) (hs : sRl K.n r ml) (W : Int32) (g : Nat) (hg : g < 4) : zX E YD_drawByAllLaws 5 [.ref c, .int W, .int (nI g)] (σ) (none) (fun τ => zsm σ τ c (c + 134) ∧ ∃ K', dAt τ c K' ∧ dSc K K' ∧ ∀ w, w < 4 → zhas W (nI w) → ∀ l, l < 4 → K'.d (4 * l + w) = mD r ml mk l w g 0) := by
  refine zX.of oD_drawByAllLaws (by decide +kernel) rfl rfl (fun n => ?_)
  refine zj_iconst 0 (0) rfl rfl (by decide) ?_
  refine zj_istore_n 1 rfl rfl ?_
  exact l_DdrawAll h ok ok2 hs W g hg 4 0 σ K _ (by omega) zsm.rfl' h (dSc.refl K) (fun w' hw => absurd hw (by omega)) n
theorem l_Dparts_in (h : dAt σ c K) {ml mk : Nat → Nat} {r : Nat → Int32} (sheets what W : Int32) (g : Nat) (hg : g < 4) (sv : Int32 × Int32) (hD : ∀ w, w < 4 → zhas W (nI w) → ∀ l, l < 4 → K.d (4 * l + w) = mD r ml mk l w g 0) {rv : Option Value} {Pp : zH → Prop} (kk : ∀ n o, zXB E YD_parts 8 n rv Pp σ 108 [some (.ref c), some (.int sheets), some (.int what), some (.int W), some (.int (pPl ((mUn r ml mk W) g) g sv 4).1), some (.int (pPl ((mUn r ml mk W) g) g sv 4).2), some (.int (nI g)), some (.int (nI 4)), o] []) : ∀ (m : Nat) (k : Nat) (o8 : Option Value), (k + m = 4) → ∀ n, zXB E YD_parts 8 n (rv) (Pp) (σ) 66 [some (.ref c), some (.int sheets), some (.int what), some (.int W), some (.int (pPl ((mUn r ml mk W) g) g sv k).1), some (.int (pPl ((mUn r ml mk W) g) g sv k).2), some (.int (nI g)), some (.int (nI k)), o8] [] := by
  intro m
  induction m using Nat.strongRecOn with
  | ind m ih =>
  intro k o8 hk n
  refine zj_iload 37 rfl rfl rfl ?_
  refine zj_iconst 38 (4) rfl rfl (by decide) ?_
  refine zn_icmp_ge 39 (k) (4) rfl rfl rfl rfl (by omega) (by omega) (fun c69 => ?_) (fun c69 => ?_)
  · obtain rfl : k = 4 := by omega
    exact kk n _
  · refine zj_aload_n 40 rfl rfl rfl ?_
    refine zj_iload_n 41 rfl rfl rfl ?_
    refine zj_iload 42 rfl rfl rfl ?_
    refine zj_cvx 43 rfl rfl lk_7_243 ckD_countUnlike (k_DcUn h W k (by omega) (fun w => mD r ml mk k w g 0) (fun w hw hz => hD w hw hz k (by omega))) rfl h.1 rfl rfl rfl ?_
    refine zj_istore 44 rfl rfl ?_
    refine zj_norm [_, _, _, _, _, _, _, _, _] rfl ?_
    refine zj_iload 45 rfl rfl rfl ?_
    refine zj_iload 46 rfl rfl rfl ?_
    refine zj_icmp_le 47 rfl rfl (fun c85 => ?_) (fun c85 => ?_)
    · refine zn_iinc 56 (k) rfl rfl rfl rfl ?_
      refine zj_norm [_, _, _, _, _, _, _, _, _] rfl ?_
      refine zj_goto 57 rfl rfl ?_
      have e : pPl ((mUn r ml mk W) g) g sv (k + 1) = if (pPl ((mUn r ml mk W) g) g sv k).2 < (mUn r ml mk W) g k then (nI (10 * g + k), (mUn r ml mk W) g k) else (pPl ((mUn r ml mk W) g) g sv k) := rfl
      rw [if_neg (Int32.not_lt.mpr c85)] at e
      rw [← e]
      exact ih (m - 1) (by omega) (k + 1) _ (by omega) n
    · refine zj_iload 48 rfl rfl rfl ?_
      refine zj_istore 49 rfl rfl ?_
      refine zj_norm [_, _, _, _, _, _, _, _, _] rfl ?_
      refine zj_bipush 50 (10) rfl rfl (by decide) ?_
      refine zj_iload 51 rfl rfl rfl ?_
      refine zn_imul 52 (10) (g) rfl rfl rfl rfl ?_
      refine zj_iload 53 rfl rfl rfl ?_
      refine zn_iadd 54 (10 * g) (k) rfl rfl rfl rfl ?_
      refine zj_istore 55 rfl rfl ?_
      refine zj_norm [_, _, _, _, _, _, _, _, _] rfl ?_
      refine zn_iinc 56 (k) rfl rfl rfl rfl ?_
      refine zj_norm [_, _, _, _, _, _, _, _, _] rfl ?_
      refine zj_goto 57 rfl rfl ?_
      have e : pPl ((mUn r ml mk W) g) g sv (k + 1) = if (pPl ((mUn r ml mk W) g) g sv k).2 < (mUn r ml mk W) g k then (nI (10 * g + k), (mUn r ml mk W) g k) else (pPl ((mUn r ml mk W) g) g sv k) := rfl
      rw [if_pos (Int32.not_le.mp c85)] at e
      have hh := fun o => ih (m - 1) (by omega) (k + 1) o (by omega) n
      rw [e] at hh
      exact hh _
theorem l_Dparts (h : dAt σ c K) {no ns nh ng : Nat} {ml mk : Nat → Nat} {r : Nat → Int32} (ok : mOk r no ns nh ng ml mk) (ok2 : mOk2 r ns) (hs : sRl K.n r ml) (sheets what W : Int32) : ∀ (m : Nat) (g : Nat) (τ : zH) (K1 : zDc) (o7 o8 : Option Value), (g + m = 4) → (zsm σ τ c (c + 134)) → (dAt τ c K1) → (dSc K K1) → ∀ n, zXB E YD_parts 8 n (some (.int (if what = 0 then (qPt (mUn r ml mk W) 4).1 else (qPt (mUn r ml mk W) 4).2))) (dQ σ c K) (τ) 50 [some (.ref c), some (.int sheets), some (.int what), some (.int W), some (.int (qPt (mUn r ml mk W) g).1), some (.int (qPt (mUn r ml mk W) g).2), some (.int (nI g)), o7, o8] [] := by
  intro m
  induction m using Nat.strongRecOn with
  | ind m ih =>
  intro g τ K1 o7 o8 hk hz h1 hd n
  have hs1 : sRl K1.n r ml := by rw [hd.1]; exact hs
  refine zj_iload 28 rfl rfl rfl ?_
  refine zj_iconst 29 (4) rfl rfl (by decide) ?_
  refine zn_icmp_ge 30 (g) (4) rfl rfl rfl rfl (by omega) (by omega) (fun c53 => ?_) (fun c53 => ?_)
  · refine zj_iload_n 60 rfl rfl rfl ?_
    refine zj_if_ne 61 rfl rfl (fun c115 => ?_) (fun c115 => ?_)
    · refine zj_iload 64 rfl rfl rfl ?_
      refine zj_ireturn 65 rfl rfl rfl ?_
      obtain rfl : g = 4 := by omega
      exact ⟨zrt (if_neg c115).symm, rfl, hz, K1, h1, hd⟩
    · refine zj_iload 62 rfl rfl rfl ?_
      refine zj_goto 63 rfl rfl ?_
      refine zj_ireturn 65 rfl rfl rfl ?_
      obtain rfl : g = 4 := by omega
      exact ⟨zrt (if_pos c115).symm, rfl, hz, K1, h1, hd⟩
  · refine zj_aload_n 31 rfl rfl rfl ?_
    refine zj_iload_n 32 rfl rfl rfl ?_
    refine zj_iload 33 rfl rfl rfl ?_
    refine zj_cvvX 34 rfl rfl lk_7_239 ckD_drawByAllLaws (k_DdrawAll h1 ok ok2 hs1 W g (by omega)) rfl h1.1 rfl rfl rfl (fun s1 hP1 => ?_)
    obtain ⟨z2, K2, h2, d2, D2⟩ := hP1
    refine zj_iconst 35 (0) rfl rfl (by decide) ?_
    refine zj_istore 36 rfl rfl ?_
    refine l_Dparts_in h2 sheets what W g (by omega) (qPt (mUn r ml mk W) g) D2 (fun n o => ?_) 4 0 _ (by omega) n
    refine zn_iinc 58 (g) rfl rfl rfl rfl ?_
    refine zj_goto 59 rfl rfl ?_
    exact ih (m - 1) (by omega) (g + 1) _ _ _ _ (by omega) (hz.trans z2) h2 (hd.trans d2) n
theorem k_Dparts (h : dAt σ c K) {no ns nh ng : Nat} {ml mk : Nat → Nat} {r : Nat → Int32} (ok : mOk r no ns nh ng ml mk) (ok2 : mOk2 r ns) (hs : sRl K.n r ml) (sheets what : Int32) (hv : zr sheets (2 ^ ns : Nat)) (hw : zr what 2) : zX E YD_parts 8 [.ref c, .int sheets, .int what] (σ) (some (.int (mPt r ml mk (mWd r ns nh ng ml mk sheets) what))) (dQ σ c K) := by
  refine zX.of oD_parts (by decide +kernel) rfl rfl (fun n => ?_)
  refine zj_aload_n 0 rfl rfl rfl ?_
  refine zj_iload_n 1 rfl rfl rfl ?_
  refine zj_cvx 2 rfl rfl lk_7_221 ckD_areSheets (k_DareSheets h ok hs _) rfl h.1 rfl rfl rfl ?_
  refine zj_if_eq 3 rfl rfl (fun c5 => ?_) (fun c5 => ?_)
  · exact absurd hv (zo_0.mp c5)
  · refine zj_iload_n 4 rfl rfl rfl ?_
    refine zj_iconst 5 (2) rfl rfl (by decide) ?_
    refine zj_csx 6 rfl rfl lk_7_42 ckD_isOneOf (k_isOneOf _ _) rfl rfl rfl rfl ?_
    refine zj_if_ne 7 rfl rfl (fun c13 => ?_) (fun c13 => ?_)
    · refine zj_aload_n 10 rfl rfl rfl ?_
      refine zj_get 11 rfl rfl h.1 rfl ?_
      refine zj_get 12 rfl rfl h.2.1.1 rfl ?_
      refine zj_aload_n 13 rfl rfl rfl ?_
      refine zj_iload_n 14 rfl rfl rfl ?_
      refine zj_cvxX 15 rfl rfl lk_7_225 ckD_guessesAllowing (k_DguessesA h ok ok2 hs sheets) rfl h.1 rfl rfl rfl (fun s1 hP1 => ?_)
      obtain ⟨z1, K1, h1, d1⟩ := hP1
      have hs1 : sRl K1.n r ml := by rw [d1.1]; exact hs
      refine zj_cvx 16 rfl rfl lk_7_228 ckGu_worldsIn (k_worldsIn h1.2.1.2.2.2.2.2.2.2 ng (kN3 ok hs1).1 (kN3 ok hs1).2 _) rfl h1.2.1.2.2.2.2.2.2.2.1 rfl rfl rfl ?_
      rw [gu_wd hs1.2.2.2.2.1 (kN3 ok hs1).2]
      refine zj_istore_n 17 rfl rfl ?_
      refine zj_iload_n 18 rfl rfl rfl ?_
      refine zj_if_ne 19 rfl rfl (fun c36 => ?_) (fun c36 => ?_)
      · refine zj_iconst 22 (0) rfl rfl (by decide) ?_
        refine zj_istore 23 rfl rfl ?_
        refine zj_iconst 24 (0) rfl rfl (by decide) ?_
        refine zj_istore 25 rfl rfl ?_
        refine zj_iconst 26 (0) rfl rfl (by decide) ?_
        refine zj_istore 27 rfl rfl ?_
        have e : mPt r ml mk (mWd r ns nh ng ml mk sheets) what = _ := if_neg c36
        have hu := un_pos (mWd r ns nh ng ml mk sheets) (fun w => mD r ml mk 0 w 0 0) (wd_bit _ _ ng (fun g hg => (ok.2.2.2.2.2.2.2.2 g hg).1) c36)
        rw [e, ← qPt_eq (mUn r ml mk (mWd r ns nh ng ml mk sheets)) hu 3]
        exact l_Dparts h ok ok2 hs sheets what _ 4 0 _ K1 _ _ (by omega) z1 h1 d1 n
      · refine zj_iconst 20 (-1) rfl rfl (by decide) ?_
        refine zj_ireturn 21 rfl rfl rfl ?_
        exact ⟨zrt (if_pos c36).symm, rfl, z1, K1, h1, d1⟩
    · exact absurd hw (zo_0.mp c13)
theorem k_Dparts_bad (h : dAt σ c K) {no ns nh ng : Nat} {ml mk : Nat → Nat} {r : Nat → Int32} (ok : mOk r no ns nh ng ml mk) (hs : sRl K.n r ml) (sheets what : Int32) (hv : ¬ (zr sheets (2 ^ ns : Nat) ∧ zr what 2)) : zM E YD_parts 8 [.ref c, .int sheets, .int what] (σ) (some (.int (-2))) (σ) := by
  refine zM.of oD_parts (by decide +kernel) rfl rfl (fun n => ?_)
  refine zj_aload_n 0 rfl rfl rfl ?_
  refine zj_iload_n 1 rfl rfl rfl ?_
  refine zj_cvx 2 rfl rfl lk_7_221 ckD_areSheets (k_DareSheets h ok hs _) rfl h.1 rfl rfl rfl ?_
  refine zj_if_eq 3 rfl rfl (fun c5 => ?_) (fun c5 => ?_)
  · refine zj_bipush 8 (-2) rfl rfl (by decide) ?_
    refine zj_ireturn 9 rfl rfl rfl ?_
    exact ⟨rfl, rfl, rfl⟩
  · refine zj_iload_n 4 rfl rfl rfl ?_
    refine zj_iconst 5 (2) rfl rfl (by decide) ?_
    refine zj_csx 6 rfl rfl lk_7_42 ckD_isOneOf (k_isOneOf _ _) rfl rfl rfl rfl ?_
    refine zj_if_ne 7 rfl rfl (fun c13 => ?_) (fun c13 => ?_)
    · exact absurd ⟨zo_n0.mp c5, zo_n0.mp c13⟩ hv
    · refine zj_bipush 8 (-2) rfl rfl (by decide) ?_
      refine zj_ireturn 9 rfl rfl rfl ?_
      exact ⟨rfl, rfl, rfl⟩
theorem l_Dfairest (h : dAt σ c K) {no ns nh ng : Nat} {ml mk : Nat → Nat} {r : Nat → Int32} (ok : mOk r no ns nh ng ml mk) (ok2 : mOk2 r ns) (hs : sRl K.n r ml) (l1 l2 w : Nat) (what : Int32) (hl1 : l1 < 4) (hl2 : l2 < 4) (hw : w < 4) : ∀ (m : Nat) (k : Nat) (τ : zH) (K1 : zDc) (o8 o9 o10 : Option Value), (k + m = 4) → (zsm σ τ c (c + 134)) → (dAt τ c K1) → (dSc K K1) → ∀ n, zXB E YD_fairest 6 n (some (.int (if what = 0 then (pFr (fun g => zb28 (mFar r ml mk l1 w g) 28 - zb28 (mFar r ml mk l2 w g) 28) 4).1 else (pFr (fun g => zb28 (mFar r ml mk l1 w g) 28 - zb28 (mFar r ml mk l2 w g) 28) 4).2))) (dQ σ c K) (τ) 45 [some (.ref c), some (.int (nI l1)), some (.int (nI l2)), some (.int (nI w)), some (.int what), some (.int (pFr (fun g => zb28 (mFar r ml mk l1 w g) 28 - zb28 (mFar r ml mk l2 w g) 28) k).1), some (.int (pFr (fun g => zb28 (mFar r ml mk l1 w g) 28 - zb28 (mFar r ml mk l2 w g) 28) k).2), some (.int (nI k)), o8, o9, o10] [] := by
  intro m
  induction m using Nat.strongRecOn with
  | ind m ih =>
  intro k τ K1 o8 o9 o10 hk hz h1 hd n
  have hs1 : sRl K1.n r ml := by rw [hd.1]; exact hs
  refine zj_iload 24 rfl rfl rfl ?_
  refine zj_iconst 25 (4) rfl rfl (by decide) ?_
  refine zn_icmp_ge 26 (k) (4) rfl rfl rfl rfl (by omega) (by omega) (fun c48 => ?_) (fun c48 => ?_)
  · refine zj_iload 55 rfl rfl rfl ?_
    refine zj_if_ne 56 rfl rfl (fun c110 => ?_) (fun c110 => ?_)
    · refine zj_iload 59 rfl rfl rfl ?_
      refine zj_ireturn 60 rfl rfl rfl ?_
      obtain rfl : k = 4 := by omega
      exact ⟨zrt (if_neg c110).symm, rfl, hz, K1, h1, hd⟩
    · refine zj_iload 57 rfl rfl rfl ?_
      refine zj_goto 58 rfl rfl ?_
      refine zj_ireturn 60 rfl rfl rfl ?_
      obtain rfl : k = 4 := by omega
      exact ⟨zrt (if_pos c110).symm, rfl, hz, K1, h1, hd⟩
  · refine zj_aload_n 27 rfl rfl rfl ?_
    refine zj_iload_n 28 rfl rfl rfl ?_
    refine zj_iload_n 29 rfl rfl rfl ?_
    refine zj_iload 30 rfl rfl rfl ?_
    refine zj_cvxX 31 rfl rfl lk_7_120 ckD_linesFromFar (k_Dlff h1 ok ok2 hs1 l1 w k hl1 hw (by omega)) rfl h1.1 rfl rfl rfl (fun s1 hP1 => ?_)
    obtain ⟨z2, K2, h2, d2⟩ := hP1
    have hs2 : sRl K2.n r ml := by rw [d2.1]; exact hs1
    refine zj_csx 32 rfl rfl lk_7_124 ckJ_bitCount (k_bitCount _) rfl rfl rfl rfl ?_
    rw [jBits_eq _ (mDw_28 _ _ _ _ _ _)]
    refine zj_istore 33 rfl rfl ?_
    refine zj_norm [_, _, _, _, _, _, _, _, _, _, _] rfl ?_
    refine zj_aload_n 34 rfl rfl rfl ?_
    refine zj_iload_n 35 rfl rfl rfl ?_
    refine zj_iload_n 36 rfl rfl rfl ?_
    refine zj_iload 37 rfl rfl rfl ?_
    refine zj_cvxX 38 rfl rfl lk_7_120 ckD_linesFromFar (k_Dlff h2 ok ok2 hs2 l2 w k hl2 hw (by omega)) rfl h2.1 rfl rfl rfl (fun s1 hP1 => ?_)
    obtain ⟨z3, K3, h3, d3⟩ := hP1
    refine zj_csx 39 rfl rfl lk_7_124 ckJ_bitCount (k_bitCount _) rfl rfl rfl rfl ?_
    rw [jBits_eq _ (mDw_28 _ _ _ _ _ _)]
    refine zj_istore 40 rfl rfl ?_
    refine zj_norm [_, _, _, _, _, _, _, _, _, _, _] rfl ?_
    refine zj_iload 41 rfl rfl rfl ?_
    refine zj_iload 42 rfl rfl rfl ?_
    refine zj_isub 43 rfl rfl ?_
    refine zj_mabs 44 rfl rfl lk_7_129 rfl rfl rfl rfl ?_
    rw [zab_eq]
    refine zj_istore 45 rfl rfl ?_
    refine zj_norm [_, _, _, _, _, _, _, _, _, _, _] rfl ?_
    refine zj_iload 46 rfl rfl rfl ?_
    refine zj_iload 47 rfl rfl rfl ?_
    refine zj_icmp_le 48 rfl rfl (fun c91 => ?_) (fun c91 => ?_)
    · refine zn_iinc 53 (k) rfl rfl rfl rfl ?_
      refine zj_norm [_, _, _, _, _, _, _, _, _, _, _] rfl ?_
      refine zj_goto 54 rfl rfl ?_
      have e : pFr (fun g => zb28 (mFar r ml mk l1 w g) 28 - zb28 (mFar r ml mk l2 w g) 28) (k + 1) = if (pFr (fun g => zb28 (mFar r ml mk l1 w g) 28 - zb28 (mFar r ml mk l2 w g) 28) k).2 < zab ((fun g => zb28 (mFar r ml mk l1 w g) 28 - zb28 (mFar r ml mk l2 w g) 28) k) then (nI k, zab ((fun g => zb28 (mFar r ml mk l1 w g) 28 - zb28 (mFar r ml mk l2 w g) 28) k)) else pFr (fun g => zb28 (mFar r ml mk l1 w g) 28 - zb28 (mFar r ml mk l2 w g) 28) k := rfl
      rw [if_neg (Int32.not_lt.mpr c91)] at e
      rw [← e]
      exact ih (m - 1) (by omega) (k + 1) _ K3 _ _ _ (by omega) (((hz.trans z2).trans z3)) h3 ((hd.trans d2).trans d3) n
    · refine zj_iload 49 rfl rfl rfl ?_
      refine zj_istore 50 rfl rfl ?_
      refine zj_norm [_, _, _, _, _, _, _, _, _, _, _] rfl ?_
      refine zj_iload 51 rfl rfl rfl ?_
      refine zj_istore 52 rfl rfl ?_
      refine zj_norm [_, _, _, _, _, _, _, _, _, _, _] rfl ?_
      refine zn_iinc 53 (k) rfl rfl rfl rfl ?_
      refine zj_norm [_, _, _, _, _, _, _, _, _, _, _] rfl ?_
      refine zj_goto 54 rfl rfl ?_
      have e : pFr (fun g => zb28 (mFar r ml mk l1 w g) 28 - zb28 (mFar r ml mk l2 w g) 28) (k + 1) = if (pFr (fun g => zb28 (mFar r ml mk l1 w g) 28 - zb28 (mFar r ml mk l2 w g) 28) k).2 < zab ((fun g => zb28 (mFar r ml mk l1 w g) 28 - zb28 (mFar r ml mk l2 w g) 28) k) then (nI k, zab ((fun g => zb28 (mFar r ml mk l1 w g) 28 - zb28 (mFar r ml mk l2 w g) 28) k)) else pFr (fun g => zb28 (mFar r ml mk l1 w g) 28 - zb28 (mFar r ml mk l2 w g) 28) k := rfl
      rw [if_pos (Int32.not_le.mp c91)] at e
      have hh := fun o8 o9 o10 => ih (m - 1) (by omega) (k + 1) _ K3 o8 o9 o10 (by omega) (((hz.trans z2).trans z3)) h3 ((hd.trans d2).trans d3) n
      rw [e] at hh
      exact hh _ _ _
theorem k_Dfairest (h : dAt σ c K) {no ns nh ng : Nat} {ml mk : Nat → Nat} {r : Nat → Int32} (ok : mOk r no ns nh ng ml mk) (ok2 : mOk2 r ns) (hs : sRl K.n r ml) (l1 l2 w : Nat) (what : Int32) (hl1 : l1 < 4) (hl2 : l2 < 4) (hw : w < 4) (hv : zr what 2) : zX E YD_fairest 6 [.ref c, .int (nI l1), .int (nI l2), .int (nI w), .int what] (σ) (some (.int (if what = 0 then (pFr (fun g => zb28 (mFar r ml mk l1 w g) 28 - zb28 (mFar r ml mk l2 w g) 28) 4).1 else (pFr (fun g => zb28 (mFar r ml mk l1 w g) 28 - zb28 (mFar r ml mk l2 w g) 28) 4).2))) (dQ σ c K) := by
  refine zX.of oD_fairest (by decide +kernel) rfl rfl (fun n => ?_)
  refine zj_iload_n 0 rfl rfl rfl ?_
  refine zj_iconst 1 (4) rfl rfl (by decide) ?_
  refine zj_csx 2 rfl rfl lk_7_42 ckD_isOneOf (k_isOneOf _ _) rfl rfl rfl rfl ?_
  refine zj_if_eq 3 rfl rfl (fun c5 => ?_) (fun c5 => ?_)
  · exact absurd (zr_of (n := 4) (by omega) (by decide)) (zo_0.mp c5)
  · refine zj_iload_n 4 rfl rfl rfl ?_
    refine zj_iconst 5 (4) rfl rfl (by decide) ?_
    refine zj_csx 6 rfl rfl lk_7_42 ckD_isOneOf (k_isOneOf _ _) rfl rfl rfl rfl ?_
    refine zj_if_eq 7 rfl rfl (fun c13 => ?_) (fun c13 => ?_)
    · exact absurd (zr_of (n := 4) (by omega) (by decide)) (zo_0.mp c13)
    · refine zj_iload_n 8 rfl rfl rfl ?_
      refine zj_iconst 9 (4) rfl rfl (by decide) ?_
      refine zj_csx 10 rfl rfl lk_7_42 ckD_isOneOf (k_isOneOf _ _) rfl rfl rfl rfl ?_
      refine zj_if_eq 11 rfl rfl (fun c21 => ?_) (fun c21 => ?_)
      · exact absurd (zr_of (n := 4) (by omega) (by decide)) (zo_0.mp c21)
      · refine zj_iload 12 rfl rfl rfl ?_
        refine zj_iconst 13 (2) rfl rfl (by decide) ?_
        refine zj_csx 14 rfl rfl lk_7_42 ckD_isOneOf (k_isOneOf _ _) rfl rfl rfl rfl ?_
        refine zj_if_ne 15 rfl rfl (fun c30 => ?_) (fun c30 => ?_)
        · refine zj_iconst 18 (0) rfl rfl (by decide) ?_
          refine zj_istore 19 rfl rfl ?_
          refine zj_iconst 20 (-1) rfl rfl (by decide) ?_
          refine zj_istore 21 rfl rfl ?_
          refine zj_iconst 22 (0) rfl rfl (by decide) ?_
          refine zj_istore 23 rfl rfl ?_
          exact l_Dfairest h ok ok2 hs l1 l2 w what hl1 hl2 hw 4 0 σ K _ _ _ (by omega) zsm.rfl' h (dSc.refl K) n
        · exact absurd hv (zo_0.mp c30)
theorem k_Dfairest_bad (x y z what : Int32) (hb : ¬ (zr x 4 ∧ zr y 4 ∧ zr z 4 ∧ zr what 2)) : zM E YD_fairest 6 [.ref c, .int x, .int y, .int z, .int what] (σ) (some (.int (-2))) (σ) := by
  refine zM.of oD_fairest (by decide +kernel) rfl rfl (fun n => ?_)
  refine zj_iload_n 0 rfl rfl rfl ?_
  refine zj_iconst 1 (4) rfl rfl (by decide) ?_
  refine zj_csx 2 rfl rfl lk_7_42 ckD_isOneOf (k_isOneOf _ _) rfl rfl rfl rfl ?_
  refine zj_if_eq 3 rfl rfl (fun c5 => ?_) (fun c5 => ?_)
  · refine zj_bipush 16 (-2) rfl rfl (by decide) ?_
    refine zj_ireturn 17 rfl rfl rfl ?_
    exact ⟨rfl, rfl, rfl⟩
  · refine zj_iload_n 4 rfl rfl rfl ?_
    refine zj_iconst 5 (4) rfl rfl (by decide) ?_
    refine zj_csx 6 rfl rfl lk_7_42 ckD_isOneOf (k_isOneOf _ _) rfl rfl rfl rfl ?_
    refine zj_if_eq 7 rfl rfl (fun c13 => ?_) (fun c13 => ?_)
    · refine zj_bipush 16 (-2) rfl rfl (by decide) ?_
      refine zj_ireturn 17 rfl rfl rfl ?_
      exact ⟨rfl, rfl, rfl⟩
    · refine zj_iload_n 8 rfl rfl rfl ?_
      refine zj_iconst 9 (4) rfl rfl (by decide) ?_
      refine zj_csx 10 rfl rfl lk_7_42 ckD_isOneOf (k_isOneOf _ _) rfl rfl rfl rfl ?_
      refine zj_if_eq 11 rfl rfl (fun c21 => ?_) (fun c21 => ?_)
      · refine zj_bipush 16 (-2) rfl rfl (by decide) ?_
        refine zj_ireturn 17 rfl rfl rfl ?_
        exact ⟨rfl, rfl, rfl⟩
      · refine zj_iload 12 rfl rfl rfl ?_
        refine zj_iconst 13 (2) rfl rfl (by decide) ?_
        refine zj_csx 14 rfl rfl lk_7_42 ckD_isOneOf (k_isOneOf _ _) rfl rfl rfl rfl ?_
        refine zj_if_ne 15 rfl rfl (fun c30 => ?_) (fun c30 => ?_)
        · exact absurd ⟨zo_n0.mp c5, zo_n0.mp c13, zo_n0.mp c21, zo_n0.mp c30⟩ hb
        · refine zj_bipush 16 (-2) rfl rfl (by decide) ?_
          refine zj_ireturn 17 rfl rfl rfl ?_
          exact ⟨rfl, rfl, rfl⟩
end
