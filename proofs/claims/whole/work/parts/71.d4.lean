/-! the component: worlds, marks, laws changed -/
theorem dAt.W {σ : zH} {c : Nat} {K : zDc} (h : dAt σ c K) {w : Nat} (hw : w < 4) (N : zMo) : dAt (zkw σ (c + 1 + 2 + 3 * w) N) c (K.sn (K.n.sw (va_up K.n.w w N))) := h.un (zkw_sm.wide (by omega) (by omega)) (h.2.1.uw hw zkw_sm zkw_at)
theorem dAt.L {σ : zH} {c : Nat} {K : zDc} (h : dAt σ c K) {l : Nat} (hl : l < 4) (N : zMo) : dAt (zkt σ (c + 1 + 16 + 3 * l) N) c (K.sn (K.n.sl (va_up K.n.l l N))) := h.un (zkt_sm.wide (by omega) (by omega)) (h.2.1.ul hl zkt_sm zkt_at)
theorem dAt.B {σ : zH} {c : Nat} {K : zDc} (h : dAt σ c K) (N : zMo) : dAt (zkb σ (c + 1 + 28) N) c (K.sn (K.n.sb N)) := h.un (zkb_sm.wide (by omega) (by omega)) (h.2.1.ub (zkb_sm.wide (by omega) (by omega)) zkb_at)
theorem dAt.G {σ : zH} {c : Nat} {K : zDc} (h : dAt σ c K) (N : zMo) : dAt (zkg σ (c + 1 + 37) N) c (K.sn (K.n.sg N)) := h.un (zkg_sm.wide (by omega) (by omega)) (h.2.1.ug (zkg_sm.wide (by omega) (by omega)) zkg_at)
theorem dAt.shade {σ : zH} {c : Nat} {K : zDc} (h : dAt σ c K) {w : Nat} (hw : w < 4) (f : Nat → Int32) : dAt (zup σ (c + 1 + 2 + 3 * w + 1) (.inl (0, 81, .inl f))) c (K.sn (K.n.sw (va_up K.n.w w ((K.n.w w).sA 0 f)))) := by
  have e : zup σ (c + 1 + 2 + 3 * w + 1) (.inl (0, 81, .inl f)) = zkw σ (c + 1 + 2 + 3 * w) ((K.n.w w).sA 0 f) := by rw [← zkw_u1, zkw_id (h.2.1.2.2.1 w hw)]
  rw [e]; exact h.W hw _
theorem dAt.green {σ : zH} {c : Nat} {K : zDc} (h : dAt σ c K) {w : Nat} (hw : w < 4) (f : Nat → Int32) : dAt (zup σ (c + 1 + 2 + 3 * w + 2) (.inl (0, 9, .inl f))) c (K.sn (K.n.sw (va_up K.n.w w ((K.n.w w).sA 1 f)))) := by
  have e : zup σ (c + 1 + 2 + 3 * w + 2) (.inl (0, 9, .inl f)) = zkw σ (c + 1 + 2 + 3 * w) ((K.n.w w).sA 1 f) := by rw [← zkw_u2, zkw_id (h.2.1.2.2.1 w hw)]
  rw [e]; exact h.W hw _
theorem dAt.mark {σ : zH} {c : Nat} {K : zDc} (h : dAt σ c K) (f : Nat → Int32) : dAt (zup σ (c + 1 + 14) (.inl (0, 8, .inl f))) c (K.sn (K.n.sm f)) := h.un (zsm_zup.wide (by omega) (by omega)) (h.2.1.um (zsm_zup.wide (by omega) (by omega)) (zup_eq _ _ _))
theorem line_eq : ∀ p, p < 8 → ∀ r, r < 8 → (if nI r < nI p then nI r else nI p) * (15 - (if nI r < nI p then nI r else nI p)) / 2 + (if nI p < nI r then nI r else nI p) - (if nI r < nI p then nI r else nI p) - 1 = nI (7 * min p r - min p r * (min p r - 1) / 2) + nI (max p r) - nI (min p r) - 1 := by decide +kernel
section
variable {E : zE} {σ : zH} {c : Nat} {K : zDc}
theorem k_Dshade (h : dAt σ c K) (w x v : Nat) (hw : w < 4) (hx : x < 81) (hv : v < 16) : zX E YD_shade 3 [.ref c, .int (nI w), .int (nI x), .int (nI v)] (σ) (some (.int ((K.n.w w).1 0 x))) (fun s => zsm σ s c (c + 134) ∧ dAt s c (K.sn (K.n.sw (va_up K.n.w w ((K.n.w w).sA 0 (va_up ((K.n.w w).1 0) x (nI v))))))) := by
  refine zX.of oD_shade (by decide +kernel) rfl rfl (fun n => ?_)
  refine zj_iload_n 0 rfl rfl rfl ?_
  refine zj_iconst 1 (4) rfl rfl (by decide) ?_
  refine zj_csx 2 rfl rfl lk_7_42 ckD_isOneOf (k_isOneOf _ _) rfl rfl rfl rfl ?_
  refine zj_if_eq 3 rfl rfl (fun c5 => ?_) (fun c5 => ?_)
  · exact absurd (zr_of (n := 4) (by omega) (by decide)) (zo_0.mp c5)
  · refine zj_iload_n 4 rfl rfl rfl ?_
    refine zj_bipush 5 (81) rfl rfl (by decide) ?_
    refine zj_csx 6 rfl rfl lk_7_42 ckD_isOneOf (k_isOneOf _ _) rfl rfl rfl rfl ?_
    refine zj_if_eq 7 rfl rfl (fun c14 => ?_) (fun c14 => ?_)
    · exact absurd (zr_of (n := 81) (by omega) (by decide)) (zo_0.mp c14)
    · refine zj_iload_n 8 rfl rfl rfl ?_
      refine zj_bipush 9 (16) rfl rfl (by decide) ?_
      refine zj_csx 10 rfl rfl lk_7_42 ckD_isOneOf (k_isOneOf _ _) rfl rfl rfl rfl ?_
      refine zj_if_ne 11 rfl rfl (fun c23 => ?_) (fun c23 => ?_)
      · refine zj_aload_n 14 rfl rfl rfl ?_
        refine zj_get 15 rfl rfl h.1 rfl ?_
        refine zj_get 16 rfl rfl h.2.1.1 rfl ?_
        refine zj_iload_n 17 rfl rfl rfl ?_
        refine zn_aald 18 (w) rfl rfl h.2.1.2.1 (by decide) rfl (by omega) (by decide) rfl ?_
        refine zj_get 19 rfl rfl (h.2.1.2.2.1 w hw).1 rfl ?_
        refine zj_iload_n 20 rfl rfl rfl ?_
        refine zj_iload_n 21 rfl rfl rfl ?_
        refine zj_csx 22 rfl rfl lk_7_55 ckD_replace (k_replace _ 81 _ (h.2.1.2.2.1 w hw).2.1 (by decide) x _ hx) rfl rfl rfl rfl ?_
        refine zj_ireturn 23 rfl rfl rfl ?_
        exact ⟨rfl, rfl, zsm_zup.wide (by omega) (by omega), h.shade hw _⟩
      · exact absurd (zr_of (n := 16) (by omega) (by decide)) (zo_0.mp c23)
theorem k_Dshade_bad (h : dAt σ c K) (w x v : Int32) (hb : ¬ (zr w 4 ∧ zr x 81 ∧ zr v 16)) : zM E YD_shade 3 [.ref c, .int w, .int x, .int v] (σ) (some (.int (-2))) (σ) := by
  refine zM.of oD_shade (by decide +kernel) rfl rfl (fun n => ?_)
  refine zj_iload_n 0 rfl rfl rfl ?_
  refine zj_iconst 1 (4) rfl rfl (by decide) ?_
  refine zj_csx 2 rfl rfl lk_7_42 ckD_isOneOf (k_isOneOf _ _) rfl rfl rfl rfl ?_
  refine zj_if_eq 3 rfl rfl (fun c5 => ?_) (fun c5 => ?_)
  · refine zj_bipush 12 (-2) rfl rfl (by decide) ?_
    refine zj_ireturn 13 rfl rfl rfl ?_
    exact ⟨rfl, rfl, rfl⟩
  · refine zj_iload_n 4 rfl rfl rfl ?_
    refine zj_bipush 5 (81) rfl rfl (by decide) ?_
    refine zj_csx 6 rfl rfl lk_7_42 ckD_isOneOf (k_isOneOf _ _) rfl rfl rfl rfl ?_
    refine zj_if_eq 7 rfl rfl (fun c14 => ?_) (fun c14 => ?_)
    · refine zj_bipush 12 (-2) rfl rfl (by decide) ?_
      refine zj_ireturn 13 rfl rfl rfl ?_
      exact ⟨rfl, rfl, rfl⟩
    · refine zj_iload_n 8 rfl rfl rfl ?_
      refine zj_bipush 9 (16) rfl rfl (by decide) ?_
      refine zj_csx 10 rfl rfl lk_7_42 ckD_isOneOf (k_isOneOf _ _) rfl rfl rfl rfl ?_
      refine zj_if_ne 11 rfl rfl (fun c23 => ?_) (fun c23 => ?_)
      · exact absurd ⟨zo_n0.mp c5, zo_n0.mp c14, zo_n0.mp c23⟩ hb
      · refine zj_bipush 12 (-2) rfl rfl (by decide) ?_
        refine zj_ireturn 13 rfl rfl rfl ?_
        exact ⟨rfl, rfl, rfl⟩
theorem k_Dgreen (h : dAt σ c K) (w x v : Nat) (hw : w < 4) (hx : x < 9) (hv : v < 512) : zX E YD_green 3 [.ref c, .int (nI w), .int (nI x), .int (nI v)] (σ) (some (.int ((K.n.w w).1 1 x))) (fun s => zsm σ s c (c + 134) ∧ dAt s c (K.sn (K.n.sw (va_up K.n.w w ((K.n.w w).sA 1 (va_up ((K.n.w w).1 1) x (nI v))))))) := by
  refine zX.of oD_green (by decide +kernel) rfl rfl (fun n => ?_)
  refine zj_iload_n 0 rfl rfl rfl ?_
  refine zj_iconst 1 (4) rfl rfl (by decide) ?_
  refine zj_csx 2 rfl rfl lk_7_42 ckD_isOneOf (k_isOneOf _ _) rfl rfl rfl rfl ?_
  refine zj_if_eq 3 rfl rfl (fun c5 => ?_) (fun c5 => ?_)
  · exact absurd (zr_of (n := 4) (by omega) (by decide)) (zo_0.mp c5)
  · refine zj_iload_n 4 rfl rfl rfl ?_
    refine zj_bipush 5 (9) rfl rfl (by decide) ?_
    refine zj_csx 6 rfl rfl lk_7_42 ckD_isOneOf (k_isOneOf _ _) rfl rfl rfl rfl ?_
    refine zj_if_eq 7 rfl rfl (fun c14 => ?_) (fun c14 => ?_)
    · exact absurd (zr_of (n := 9) (by omega) (by decide)) (zo_0.mp c14)
    · refine zj_iload_n 8 rfl rfl rfl ?_
      refine zj_sipush 9 (512) rfl rfl (by decide) ?_
      refine zj_csx 10 rfl rfl lk_7_42 ckD_isOneOf (k_isOneOf _ _) rfl rfl rfl rfl ?_
      refine zj_if_ne 11 rfl rfl (fun c24 => ?_) (fun c24 => ?_)
      · refine zj_aload_n 14 rfl rfl rfl ?_
        refine zj_get 15 rfl rfl h.1 rfl ?_
        refine zj_get 16 rfl rfl h.2.1.1 rfl ?_
        refine zj_iload_n 17 rfl rfl rfl ?_
        refine zn_aald 18 (w) rfl rfl h.2.1.2.1 (by decide) rfl (by omega) (by decide) rfl ?_
        refine zj_get 19 rfl rfl (h.2.1.2.2.1 w hw).1 rfl ?_
        refine zj_iload_n 20 rfl rfl rfl ?_
        refine zj_iload_n 21 rfl rfl rfl ?_
        refine zj_csx 22 rfl rfl lk_7_55 ckD_replace (k_replace _ 9 _ (h.2.1.2.2.1 w hw).2.2 (by decide) x _ hx) rfl rfl rfl rfl ?_
        refine zj_ireturn 23 rfl rfl rfl ?_
        exact ⟨rfl, rfl, zsm_zup.wide (by omega) (by omega), h.green hw _⟩
      · exact absurd (zr_of (n := 512) (by omega) (by decide)) (zo_0.mp c24)
theorem k_Dgreen_bad (h : dAt σ c K) (w x v : Int32) (hb : ¬ (zr w 4 ∧ zr x 9 ∧ zr v 512)) : zM E YD_green 3 [.ref c, .int w, .int x, .int v] (σ) (some (.int (-2))) (σ) := by
  refine zM.of oD_green (by decide +kernel) rfl rfl (fun n => ?_)
  refine zj_iload_n 0 rfl rfl rfl ?_
  refine zj_iconst 1 (4) rfl rfl (by decide) ?_
  refine zj_csx 2 rfl rfl lk_7_42 ckD_isOneOf (k_isOneOf _ _) rfl rfl rfl rfl ?_
  refine zj_if_eq 3 rfl rfl (fun c5 => ?_) (fun c5 => ?_)
  · refine zj_bipush 12 (-2) rfl rfl (by decide) ?_
    refine zj_ireturn 13 rfl rfl rfl ?_
    exact ⟨rfl, rfl, rfl⟩
  · refine zj_iload_n 4 rfl rfl rfl ?_
    refine zj_bipush 5 (9) rfl rfl (by decide) ?_
    refine zj_csx 6 rfl rfl lk_7_42 ckD_isOneOf (k_isOneOf _ _) rfl rfl rfl rfl ?_
    refine zj_if_eq 7 rfl rfl (fun c14 => ?_) (fun c14 => ?_)
    · refine zj_bipush 12 (-2) rfl rfl (by decide) ?_
      refine zj_ireturn 13 rfl rfl rfl ?_
      exact ⟨rfl, rfl, rfl⟩
    · refine zj_iload_n 8 rfl rfl rfl ?_
      refine zj_sipush 9 (512) rfl rfl (by decide) ?_
      refine zj_csx 10 rfl rfl lk_7_42 ckD_isOneOf (k_isOneOf _ _) rfl rfl rfl rfl ?_
      refine zj_if_ne 11 rfl rfl (fun c24 => ?_) (fun c24 => ?_)
      · exact absurd ⟨zo_n0.mp c5, zo_n0.mp c14, zo_n0.mp c24⟩ hb
      · refine zj_bipush 12 (-2) rfl rfl (by decide) ?_
        refine zj_ireturn 13 rfl rfl rfl ?_
        exact ⟨rfl, rfl, rfl⟩
theorem l_Danother (h : dAt σ c K) (m0 x : Int32) (v : Int32) (hv : (v = 0 ∧ (∀ k, k < 8 → nI k ≠ m0 → K.n.m k ≠ x)) ∨ (v = 1 ∧ ¬ (∀ k, k < 8 → nI k ≠ m0 → K.n.m k ≠ x))) : ∀ (m : Nat) (k : Nat), (k + m = 8) → (∀ i, i < k → nI i ≠ m0 → K.n.m i ≠ x) → ∀ n, zB E YD_anotherLiesAt 1 n (some (.int v)) (σ) (σ) 2 [some (.ref c), some (.int m0), some (.int x), some (.int (nI k))] [] := by
  intro m
  induction m using Nat.strongRecOn with
  | ind m ih =>
  intro k hk hI n
  refine zj_iload_n 2 rfl rfl rfl ?_
  refine zj_bipush 3 (8) rfl rfl (by decide) ?_
  refine zn_icmp_ge 4 (k) (8) rfl rfl rfl rfl (by omega) (by omega) (fun c5 => ?_) (fun c5 => ?_)
  · refine zj_iconst 19 (0) rfl rfl (by decide) ?_
    refine zj_zreturn 20 rfl rfl rfl rfl ?_
    obtain rfl : k = 8 := by omega
    rcases hv with ⟨rfl, _⟩ | ⟨_, g⟩
    · exact ⟨rfl, rfl, rfl⟩
    · exact absurd hI g
  · refine zj_iload_n 5 rfl rfl rfl ?_
    refine zj_iload_n 6 rfl rfl rfl ?_
    refine zj_icmp_eq 7 rfl rfl (fun c10 => ?_) (fun c10 => ?_)
    · refine zn_iinc 17 (k) rfl rfl rfl rfl ?_
      refine zj_goto 18 rfl rfl ?_
      refine ih (m - 1) (by omega) (k + 1) (by omega) (fun i hi hn => ?_) n
      by_cases e : i = k
      · subst e
        exact absurd c10 hn
      · exact hI i (by omega) hn
    · refine zj_aload_n 8 rfl rfl rfl ?_
      refine zj_get 9 rfl rfl h.1 rfl ?_
      refine zj_get 10 rfl rfl h.2.1.1 rfl ?_
      refine zj_iload_n 11 rfl rfl rfl ?_
      refine zn_iald 12 (k) rfl rfl h.2.1.2.2.2.1 rfl (by omega) (by decide) ?_
      refine zj_iload_n 13 rfl rfl rfl ?_
      refine zj_icmp_ne 14 rfl rfl (fun c23 => ?_) (fun c23 => ?_)
      · refine zn_iinc 17 (k) rfl rfl rfl rfl ?_
        refine zj_goto 18 rfl rfl ?_
        refine ih (m - 1) (by omega) (k + 1) (by omega) (fun i hi hn => ?_) n
        by_cases e : i = k
        · subst e
          exact c23
        · exact hI i (by omega) hn
      · refine zj_iconst 15 (1) rfl rfl (by decide) ?_
        refine zj_zreturn 16 rfl rfl rfl rfl ?_
        rcases hv with ⟨_, g⟩ | ⟨rfl, _⟩
        · exact absurd c23 (g k (by omega) c10)
        · exact ⟨rfl, rfl, rfl⟩
theorem k_Danother (h : dAt σ c K) (m0 x : Int32) (v : Int32) (hv : (v = 0 ∧ (∀ k, k < 8 → nI k ≠ m0 → K.n.m k ≠ x)) ∨ (v = 1 ∧ ¬ (∀ k, k < 8 → nI k ≠ m0 → K.n.m k ≠ x))) : zM E YD_anotherLiesAt 1 [.ref c, .int m0, .int x] (σ) (some (.int v)) (σ) := by
  refine zM.of oD_anotherLiesAt (by decide +kernel) rfl rfl (fun n => ?_)
  refine zj_iconst 0 (0) rfl rfl (by decide) ?_
  refine zj_istore_n 1 rfl rfl ?_
  exact l_Danother h m0 x v hv 8 0 (by omega) (fun i hi => absurd hi (by omega)) n
theorem k_Dmark (h : dAt σ c K) (m0 x : Nat) (hm : m0 < 8) (hx : x < 81) (hv : ∀ k, k < 8 → nI k ≠ nI m0 → K.n.m k ≠ nI x) : zX E YD_mark 3 [.ref c, .int (nI m0), .int (nI x)] (σ) (some (.int (K.n.m m0))) (fun s => zsm σ s c (c + 134) ∧ dAt s c (K.sn (K.n.sm (va_up K.n.m m0 (nI x))))) := by
  refine zX.of oD_mark (by decide +kernel) rfl rfl (fun n => ?_)
  refine zj_iload_n 0 rfl rfl rfl ?_
  refine zj_bipush 1 (8) rfl rfl (by decide) ?_
  refine zj_csx 2 rfl rfl lk_7_42 ckD_isOneOf (k_isOneOf _ _) rfl rfl rfl rfl ?_
  refine zj_if_eq 3 rfl rfl (fun c6 => ?_) (fun c6 => ?_)
  · exact absurd (zr_of (n := 8) (by omega) (by decide)) (zo_0.mp c6)
  · refine zj_iload_n 4 rfl rfl rfl ?_
    refine zj_bipush 5 (81) rfl rfl (by decide) ?_
    refine zj_csx 6 rfl rfl lk_7_42 ckD_isOneOf (k_isOneOf _ _) rfl rfl rfl rfl ?_
    refine zj_if_eq 7 rfl rfl (fun c15 => ?_) (fun c15 => ?_)
    · exact absurd (zr_of (n := 81) (by omega) (by decide)) (zo_0.mp c15)
    · refine zj_aload_n 8 rfl rfl rfl ?_
      refine zj_iload_n 9 rfl rfl rfl ?_
      refine zj_iload_n 10 rfl rfl rfl ?_
      refine zj_cvx 11 rfl rfl lk_7_62 ckD_anotherLiesAt (k_Danother h _ _ 0 (Or.inl ⟨rfl, hv⟩)) rfl h.1 rfl rfl rfl ?_
      refine zj_if_eq 12 rfl rfl (fun c24 => ?_) (fun c24 => ?_)
      · refine zj_aload_n 15 rfl rfl rfl ?_
        refine zj_get 16 rfl rfl h.1 rfl ?_
        refine zj_get 17 rfl rfl h.2.1.1 rfl ?_
        refine zj_iload_n 18 rfl rfl rfl ?_
        refine zj_iload_n 19 rfl rfl rfl ?_
        refine zj_csx 20 rfl rfl lk_7_55 ckD_replace (k_replace _ 8 _ h.2.1.2.2.2.1 (by decide) m0 _ hm) rfl rfl rfl rfl ?_
        refine zj_ireturn 21 rfl rfl rfl ?_
        exact ⟨rfl, rfl, zsm_zup.wide (by omega) (by omega), h.mark _⟩
      · exact absurd rfl c24
theorem k_Dmark_bad (h : dAt σ c K) (m0 x : Int32) (hb : ¬ (zr m0 8 ∧ zr x 81 ∧ ∀ k, k < 8 → nI k ≠ m0 → K.n.m k ≠ x)) : zM E YD_mark 3 [.ref c, .int m0, .int x] (σ) (some (.int (-2))) (σ) := by
  refine zM.of oD_mark (by decide +kernel) rfl rfl (fun n => ?_)
  refine zj_iload_n 0 rfl rfl rfl ?_
  refine zj_bipush 1 (8) rfl rfl (by decide) ?_
  refine zj_csx 2 rfl rfl lk_7_42 ckD_isOneOf (k_isOneOf _ _) rfl rfl rfl rfl ?_
  refine zj_if_eq 3 rfl rfl (fun c6 => ?_) (fun c6 => ?_)
  · refine zj_bipush 13 (-2) rfl rfl (by decide) ?_
    refine zj_ireturn 14 rfl rfl rfl ?_
    exact ⟨rfl, rfl, rfl⟩
  · refine zj_iload_n 4 rfl rfl rfl ?_
    refine zj_bipush 5 (81) rfl rfl (by decide) ?_
    refine zj_csx 6 rfl rfl lk_7_42 ckD_isOneOf (k_isOneOf _ _) rfl rfl rfl rfl ?_
    refine zj_if_eq 7 rfl rfl (fun c15 => ?_) (fun c15 => ?_)
    · refine zj_bipush 13 (-2) rfl rfl (by decide) ?_
      refine zj_ireturn 14 rfl rfl rfl ?_
      exact ⟨rfl, rfl, rfl⟩
    · refine zj_aload_n 8 rfl rfl rfl ?_
      refine zj_iload_n 9 rfl rfl rfl ?_
      refine zj_iload_n 10 rfl rfl rfl ?_
      refine zj_cvx 11 rfl rfl lk_7_62 ckD_anotherLiesAt (k_Danother h _ _ 1 (Or.inr ⟨rfl, fun g => hb ⟨zo_n0.mp c6, zo_n0.mp c15, g⟩⟩)) rfl h.1 rfl rfl rfl ?_
      refine zj_if_eq 12 rfl rfl (fun c24 => ?_) (fun c24 => ?_)
      · exact absurd c24 (by decide)
      · refine zj_bipush 13 (-2) rfl rfl (by decide) ?_
        refine zj_ireturn 14 rfl rfl rfl ?_
        exact ⟨rfl, rfl, rfl⟩
theorem k_Dline (p r : Nat) (hp : p < 8) (hr : r < 8) (hne : p ≠ r) : zM E YD_line 2 [.ref c, .int (nI p), .int (nI r)] (σ) (some (.int (nI (7 * min p r - min p r * (min p r - 1) / 2) + nI (max p r) - nI (min p r) - 1))) (σ) := by
  refine zM.of oD_line (by decide +kernel) rfl rfl (fun n => ?_)
  refine zj_iload_n 0 rfl rfl rfl ?_
  refine zj_bipush 1 (8) rfl rfl (by decide) ?_
  refine zj_csx 2 rfl rfl lk_7_42 ckD_isOneOf (k_isOneOf _ _) rfl rfl rfl rfl ?_
  refine zj_if_eq 3 rfl rfl (fun c6 => ?_) (fun c6 => ?_)
  · exact absurd (zr_of (n := 8) (by omega) (by decide)) (zo_0.mp c6)
  · refine zj_iload_n 4 rfl rfl rfl ?_
    refine zj_bipush 5 (8) rfl rfl (by decide) ?_
    refine zj_csx 6 rfl rfl lk_7_42 ckD_isOneOf (k_isOneOf _ _) rfl rfl rfl rfl ?_
    refine zj_if_eq 7 rfl rfl (fun c15 => ?_) (fun c15 => ?_)
    · exact absurd (zr_of (n := 8) (by omega) (by decide)) (zo_0.mp c15)
    · refine zj_iload_n 8 rfl rfl rfl ?_
      refine zj_iload_n 9 rfl rfl rfl ?_
      refine zj_icmp_ne 10 rfl rfl (fun c20 => ?_) (fun c20 => ?_)
      · refine zj_iload_n 13 rfl rfl rfl ?_
        refine zj_iload_n 14 rfl rfl rfl ?_
        refine zj_mmin 15 rfl rfl lk_7_85 rfl rfl rfl rfl ?_
        refine zj_istore_n 16 rfl rfl ?_
        refine zj_iload_n 17 rfl rfl rfl ?_
        refine zj_iload_n 18 rfl rfl rfl ?_
        refine zj_mmax 19 rfl rfl lk_7_91 rfl rfl rfl rfl ?_
        refine zj_istore 20 rfl rfl ?_
        refine zj_norm [_, _, _, _, _, _] rfl ?_
        refine zj_iload_n 21 rfl rfl rfl ?_
        refine zj_bipush 22 (15) rfl rfl (by decide) ?_
        refine zj_iload_n 23 rfl rfl rfl ?_
        refine zj_isub 24 rfl rfl ?_
        refine zj_imul 25 rfl rfl ?_
        refine zj_iconst 26 (2) rfl rfl (by decide) ?_
        refine zj_idiv 27 rfl rfl (by decide) ?_
        refine zj_istore 28 rfl rfl ?_
        refine zj_iload 29 rfl rfl rfl ?_
        refine zj_iload 30 rfl rfl rfl ?_
        refine zj_iadd 31 rfl rfl ?_
        refine zj_iload_n 32 rfl rfl rfl ?_
        refine zj_isub 33 rfl rfl ?_
        refine zj_iconst 34 (1) rfl rfl (by decide) ?_
        refine zj_isub 35 rfl rfl ?_
        refine zj_ireturn 36 rfl rfl rfl ?_
        exact ⟨zrt (line_eq p hp r hr), rfl, rfl⟩
      · exact absurd ((nI_eq (by omega) (by omega)).mp c20) hne
theorem k_Dline_bad (p r : Int32) (hb : ¬ (zr p 8 ∧ zr r 8 ∧ p ≠ r)) : zM E YD_line 2 [.ref c, .int p, .int r] (σ) (some (.int (-2))) (σ) := by
  refine zM.of oD_line (by decide +kernel) rfl rfl (fun n => ?_)
  refine zj_iload_n 0 rfl rfl rfl ?_
  refine zj_bipush 1 (8) rfl rfl (by decide) ?_
  refine zj_csx 2 rfl rfl lk_7_42 ckD_isOneOf (k_isOneOf _ _) rfl rfl rfl rfl ?_
  refine zj_if_eq 3 rfl rfl (fun c6 => ?_) (fun c6 => ?_)
  · refine zj_bipush 11 (-2) rfl rfl (by decide) ?_
    refine zj_ireturn 12 rfl rfl rfl ?_
    exact ⟨rfl, rfl, rfl⟩
  · refine zj_iload_n 4 rfl rfl rfl ?_
    refine zj_bipush 5 (8) rfl rfl (by decide) ?_
    refine zj_csx 6 rfl rfl lk_7_42 ckD_isOneOf (k_isOneOf _ _) rfl rfl rfl rfl ?_
    refine zj_if_eq 7 rfl rfl (fun c15 => ?_) (fun c15 => ?_)
    · refine zj_bipush 11 (-2) rfl rfl (by decide) ?_
      refine zj_ireturn 12 rfl rfl rfl ?_
      exact ⟨rfl, rfl, rfl⟩
    · refine zj_iload_n 8 rfl rfl rfl ?_
      refine zj_iload_n 9 rfl rfl rfl ?_
      refine zj_icmp_ne 10 rfl rfl (fun c20 => ?_) (fun c20 => ?_)
      · exact absurd ⟨zo_n0.mp c6, zo_n0.mp c15, c20⟩ hb
      · refine zj_bipush 11 (-2) rfl rfl (by decide) ?_
        refine zj_ireturn 12 rfl rfl rfl ?_
        exact ⟨rfl, rfl, rfl⟩
theorem k_Dfault (h : dAt σ c K) (l : Nat) (hl : l < 4) : zM E YD_fault 2 [.ref c, .int (nI l)] (σ) (some (.int ((K.n.l l).2.2.1 1))) (σ) := by
  refine zM.of oD_fault (by decide +kernel) rfl rfl (fun n => ?_)
  refine zj_iload_n 0 rfl rfl rfl ?_
  refine zj_iconst 1 (4) rfl rfl (by decide) ?_
  refine zj_csx 2 rfl rfl lk_7_42 ckD_isOneOf (k_isOneOf _ _) rfl rfl rfl rfl ?_
  refine zj_if_ne 3 rfl rfl (fun c5 => ?_) (fun c5 => ?_)
  · refine zj_aload_n 6 rfl rfl rfl ?_
    refine zj_get 7 rfl rfl h.1 rfl ?_
    refine zj_get 8 rfl rfl h.2.1.1 rfl ?_
    refine zj_iload_n 9 rfl rfl rfl ?_
    refine zn_aald 10 (l) rfl rfl h.2.1.2.2.2.2.1 (by decide) rfl (by omega) (by decide) rfl ?_
    refine zj_get 11 rfl rfl (h.2.1.2.2.2.2.2.1 l hl).1 rfl ?_
    refine zj_ireturn 12 rfl rfl rfl ?_
    exact ⟨rfl, rfl, rfl⟩
  · exact absurd (zr_of (n := 4) (by omega) (by decide)) (zo_0.mp c5)
theorem k_Dfault_bad (x : Int32) (hb : ¬ zr x 4) : zM E YD_fault 2 [.ref c, .int x] (σ) (some (.int (-2))) (σ) := by
  refine zM.of oD_fault (by decide +kernel) rfl rfl (fun n => ?_)
  refine zj_iload_n 0 rfl rfl rfl ?_
  refine zj_iconst 1 (4) rfl rfl (by decide) ?_
  refine zj_csx 2 rfl rfl lk_7_42 ckD_isOneOf (k_isOneOf _ _) rfl rfl rfl rfl ?_
  refine zj_if_ne 3 rfl rfl (fun c5 => ?_) (fun c5 => ?_)
  · exact absurd (zo_n0.mp c5) hb
  · refine zj_bipush 4 (-2) rfl rfl (by decide) ?_
    refine zj_ireturn 5 rfl rfl rfl ?_
    exact ⟨rfl, rfl, rfl⟩
theorem kAppend (h : dAt σ c K) (l : Nat) (hl : l < 4) (many : Nat) (hmany : many < 40) (hm : (K.n.l l).2.2.1 0 = nI many) (x : Int32) : zX E YLa_append 86 [.ref (c + 1 + 16 + 3 * l), .int x] σ (some (.int (nI (many + 1)))) (fun s => zsm σ s c (c + 134) ∧ ∃ N, dAt s c (K.sn (K.n.sl (va_up K.n.l l N))) ∧ lRep (va_up ((K.n.l l).1 0) many x) (many + 1) N (lRd (va_up ((K.n.l l).1 0) many x) (many + 1))) := by
  have hk := k_append (E := E) (σ := σ) (a := c + 1 + 16 + 3 * l) (M := K.n.l l) _ many hmany rfl hm x
  rw [zkt_id (h.2.1.2.2.2.2.2.1 l hl)] at hk
  refine hk.mono (fun s hs => ?_)
  obtain ⟨N, rfl, hr⟩ := hs
  exact ⟨zkt_sm.wide (by omega) (by omega), N, h.L hl N, hr⟩
theorem kAppendF (h : dAt σ c K) (l : Nat) (hl : l < 4) (hm : (K.n.l l).2.2.1 0 = nI 40) (x : Int32) : zM E YLa_append 86 [.ref (c + 1 + 16 + 3 * l), .int x] σ (some (.int (-4))) σ := by
  have hk := k_append_full (E := E) (σ := σ) (a := c + 1 + 16 + 3 * l) (M := K.n.l l) hm x
  rw [zkt_id (h.2.1.2.2.2.2.2.1 l hl)] at hk
  exact hk
theorem kEmpty (h : dAt σ c K) (l : Nat) (hl : l < 4) (many : Nat) (hmany : many ≤ 40) (hm : (K.n.l l).2.2.1 0 = nI many) : zX E YLa_empty 86 [.ref (c + 1 + 16 + 3 * l)] σ (some (.int (nI many))) (fun s => zsm σ s c (c + 134) ∧ ∃ N, dAt s c (K.sn (K.n.sl (va_up K.n.l l N))) ∧ lRep ((K.n.l l).1 0) 0 N (lRd ((K.n.l l).1 0) 0)) := by
  have hk := k_Lempty (E := E) (σ := σ) (a := c + 1 + 16 + 3 * l) (M := K.n.l l) _ many hmany rfl hm
  rw [zkt_id (h.2.1.2.2.2.2.2.1 l hl)] at hk
  refine hk.mono (fun s hs => ?_)
  obtain ⟨N, rfl, hr⟩ := hs
  exact ⟨zkt_sm.wide (by omega) (by omega), N, h.L hl N, hr⟩
theorem k_Dwrite (h : dAt σ c K) (l x : Nat) (hl : l < 4) (hx : x < 128) (many : Nat) (hmany : many < 40) (hm : (K.n.l l).2.2.1 0 = nI many) : zX E YD_write 87 [.ref c, .int (nI l), .int (nI x)] (σ) (some (.int (nI (many + 1)))) (fun s => zsm σ s c (c + 134) ∧ ∃ N, dAt s c (K.sn (K.n.sl (va_up K.n.l l N))) ∧ lRep (va_up ((K.n.l l).1 0) many (nI x)) (many + 1) N (lRd (va_up ((K.n.l l).1 0) many (nI x)) (many + 1))) := by
  refine zX.of oD_write (by decide +kernel) rfl rfl (fun n => ?_)
  refine zj_iload_n 0 rfl rfl rfl ?_
  refine zj_iconst 1 (4) rfl rfl (by decide) ?_
  refine zj_csx 2 rfl rfl lk_7_42 ckD_isOneOf (k_isOneOf _ _) rfl rfl rfl rfl ?_
  refine zj_if_eq 3 rfl rfl (fun c5 => ?_) (fun c5 => ?_)
  · exact absurd (zr_of (n := 4) (by omega) (by decide)) (zo_0.mp c5)
  · refine zj_iload_n 4 rfl rfl rfl ?_
    refine zj_sipush 5 (128) rfl rfl (by decide) ?_
    refine zj_csx 6 rfl rfl lk_7_42 ckD_isOneOf (k_isOneOf _ _) rfl rfl rfl rfl ?_
    refine zj_if_ne 7 rfl rfl (fun c15 => ?_) (fun c15 => ?_)
    · refine zj_aload_n 10 rfl rfl rfl ?_
      refine zj_get 11 rfl rfl h.1 rfl ?_
      refine zj_get 12 rfl rfl h.2.1.1 rfl ?_
      refine zj_iload_n 13 rfl rfl rfl ?_
      refine zn_aald 14 (l) rfl rfl h.2.1.2.2.2.2.1 (by decide) rfl (by omega) (by decide) rfl ?_
      refine zj_iload_n 15 rfl rfl rfl ?_
      refine zj_cvxX 16 rfl rfl lk_7_98 ckLa_append (kAppend h l hl many hmany hm (nI x)) rfl (h.2.1.2.2.2.2.2.1 l hl).1 rfl rfl rfl (fun s1 hP1 => ?_)
      skip
      refine zj_ireturn 17 rfl rfl rfl ?_
      exact ⟨rfl, rfl, hP1⟩
    · exact absurd (zr_of (n := 128) (by omega) (by decide)) (zo_0.mp c15)
theorem k_Dwrite_full (h : dAt σ c K) (l x : Nat) (hl : l < 4) (hx : x < 128) (hm : (K.n.l l).2.2.1 0 = nI 40) : zM E YD_write 87 [.ref c, .int (nI l), .int (nI x)] (σ) (some (.int (-4))) (σ) := by
  refine zM.of oD_write (by decide +kernel) rfl rfl (fun n => ?_)
  refine zj_iload_n 0 rfl rfl rfl ?_
  refine zj_iconst 1 (4) rfl rfl (by decide) ?_
  refine zj_csx 2 rfl rfl lk_7_42 ckD_isOneOf (k_isOneOf _ _) rfl rfl rfl rfl ?_
  refine zj_if_eq 3 rfl rfl (fun c5 => ?_) (fun c5 => ?_)
  · exact absurd (zr_of (n := 4) (by omega) (by decide)) (zo_0.mp c5)
  · refine zj_iload_n 4 rfl rfl rfl ?_
    refine zj_sipush 5 (128) rfl rfl (by decide) ?_
    refine zj_csx 6 rfl rfl lk_7_42 ckD_isOneOf (k_isOneOf _ _) rfl rfl rfl rfl ?_
    refine zj_if_ne 7 rfl rfl (fun c15 => ?_) (fun c15 => ?_)
    · refine zj_aload_n 10 rfl rfl rfl ?_
      refine zj_get 11 rfl rfl h.1 rfl ?_
      refine zj_get 12 rfl rfl h.2.1.1 rfl ?_
      refine zj_iload_n 13 rfl rfl rfl ?_
      refine zn_aald 14 (l) rfl rfl h.2.1.2.2.2.2.1 (by decide) rfl (by omega) (by decide) rfl ?_
      refine zj_iload_n 15 rfl rfl rfl ?_
      refine zj_cvx 16 rfl rfl lk_7_98 ckLa_append (kAppendF h l hl hm (nI x)) rfl (h.2.1.2.2.2.2.2.1 l hl).1 rfl rfl rfl ?_
      refine zj_ireturn 17 rfl rfl rfl ?_
      exact ⟨rfl, rfl, rfl⟩
    · exact absurd (zr_of (n := 128) (by omega) (by decide)) (zo_0.mp c15)
theorem k_Dwrite_bad (l x : Int32) (hb : ¬ (zr l 4 ∧ zr x 128)) : zM E YD_write 87 [.ref c, .int l, .int x] (σ) (some (.int (-2))) (σ) := by
  refine zM.of oD_write (by decide +kernel) rfl rfl (fun n => ?_)
  refine zj_iload_n 0 rfl rfl rfl ?_
  refine zj_iconst 1 (4) rfl rfl (by decide) ?_
  refine zj_csx 2 rfl rfl lk_7_42 ckD_isOneOf (k_isOneOf _ _) rfl rfl rfl rfl ?_
  refine zj_if_eq 3 rfl rfl (fun c5 => ?_) (fun c5 => ?_)
  · refine zj_bipush 8 (-2) rfl rfl (by decide) ?_
    refine zj_ireturn 9 rfl rfl rfl ?_
    exact ⟨rfl, rfl, rfl⟩
  · refine zj_iload_n 4 rfl rfl rfl ?_
    refine zj_sipush 5 (128) rfl rfl (by decide) ?_
    refine zj_csx 6 rfl rfl lk_7_42 ckD_isOneOf (k_isOneOf _ _) rfl rfl rfl rfl ?_
    refine zj_if_ne 7 rfl rfl (fun c15 => ?_) (fun c15 => ?_)
    · exact absurd ⟨zo_n0.mp c5, zo_n0.mp c15⟩ hb
    · refine zj_bipush 8 (-2) rfl rfl (by decide) ?_
      refine zj_ireturn 9 rfl rfl rfl ?_
      exact ⟨rfl, rfl, rfl⟩
theorem k_Derase (h : dAt σ c K) (l : Nat) (hl : l < 4) (many : Nat) (hmany : many ≤ 40) (hm : (K.n.l l).2.2.1 0 = nI many) : zX E YD_erase 87 [.ref c, .int (nI l)] (σ) (some (.int (nI many))) (fun s => zsm σ s c (c + 134) ∧ ∃ N, dAt s c (K.sn (K.n.sl (va_up K.n.l l N))) ∧ lRep ((K.n.l l).1 0) 0 N (lRd ((K.n.l l).1 0) 0)) := by
  refine zX.of oD_erase (by decide +kernel) rfl rfl (fun n => ?_)
  refine zj_iload_n 0 rfl rfl rfl ?_
  refine zj_iconst 1 (4) rfl rfl (by decide) ?_
  refine zj_csx 2 rfl rfl lk_7_42 ckD_isOneOf (k_isOneOf _ _) rfl rfl rfl rfl ?_
  refine zj_if_ne 3 rfl rfl (fun c5 => ?_) (fun c5 => ?_)
  · refine zj_aload_n 6 rfl rfl rfl ?_
    refine zj_get 7 rfl rfl h.1 rfl ?_
    refine zj_get 8 rfl rfl h.2.1.1 rfl ?_
    refine zj_iload_n 9 rfl rfl rfl ?_
    refine zn_aald 10 (l) rfl rfl h.2.1.2.2.2.2.1 (by decide) rfl (by omega) (by decide) rfl ?_
    refine zj_cvxX 11 rfl rfl lk_7_104 ckLa_empty (kEmpty h l hl many hmany hm) rfl (h.2.1.2.2.2.2.2.1 l hl).1 rfl rfl rfl (fun s1 hP1 => ?_)
    skip
    refine zj_ireturn 12 rfl rfl rfl ?_
    exact ⟨rfl, rfl, hP1⟩
  · exact absurd (zr_of (n := 4) (by omega) (by decide)) (zo_0.mp c5)
theorem k_Derase_bad (l : Int32) (hb : ¬ zr l 4) : zM E YD_erase 87 [.ref c, .int l] (σ) (some (.int (-2))) (σ) := by
  refine zM.of oD_erase (by decide +kernel) rfl rfl (fun n => ?_)
  refine zj_iload_n 0 rfl rfl rfl ?_
  refine zj_iconst 1 (4) rfl rfl (by decide) ?_
  refine zj_csx 2 rfl rfl lk_7_42 ckD_isOneOf (k_isOneOf _ _) rfl rfl rfl rfl ?_
  refine zj_if_ne 3 rfl rfl (fun c5 => ?_) (fun c5 => ?_)
  · exact absurd (zo_n0.mp c5) hb
  · refine zj_bipush 4 (-2) rfl rfl (by decide) ?_
    refine zj_ireturn 5 rfl rfl rfl ?_
    exact ⟨rfl, rfl, rfl⟩
end
