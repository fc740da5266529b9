/-! the component: pictures taken -/
abbrev pDk (N : zMo) (dk : Int32) (c : Nat) : Int32 := if zhas (N.1 1 (c / 9)) (nI (c % 9)) then (if N.1 0 c + dk < 15 then N.1 0 c + dk else 15) else N.1 0 c
theorem zkw_in {σ : zH} {a b : Nat} {M N : zMo} (h : zkwAt σ b N) (hd : a + 4 ≤ b ∨ b + 3 ≤ a) : zkwAt (zkp σ a M) b N := by
  obtain ⟨h0, h1, h2⟩ := h
  exact ⟨by rw [zkp_ne (by omega)]; exact h0, by rw [zkp_ne (by omega)]; exact h1, by rw [zkp_ne (by omega)]; exact h2⟩
theorem zairR : ∀ air, air < 5 → ∀ r, r < 9 → mR air r < 9 ∧ (if zr (nI r + zrs air) 9 then nI r + zrs air else nI r) = nI (mR air r) := by decide +kernel
theorem zairC : ∀ air, air < 5 → ∀ c, c < 9 → mX air c < 9 ∧ (if zr (nI c + zcs air) 9 then nI c + zcs air else nI c) = nI (mX air c) := by decide +kernel
/-- a picture that was taken: shades sh, by glass g and air -/
def zPic (σ : zH) (a g air : Nat) (sh : Nat → Int32) : zH → Prop := fun s => ∃ M', s = zkp σ a M' ∧ M'.2.2.1 0 = nI g ∧ (∀ c, c < 81 → M'.1 0 c = sh c) ∧ adJ (M'.1 0) 9 (M'.1 1) ∧ ∀ c, c < 81 → M'.1 2 c = pBlr (M'.1 1) g (mR air (c / 9)) (mX air (c % 9))
section
variable {E : zE} {σ : zH} {a b : Nat} {M N : zMo}
theorem l_takeWorld (hW : zkwAt σ b N) (hd : a + 4 ≤ b ∨ b + 3 ≤ a) (h1 : ∀ c, c ≤ 9 → M.1 1 c = 0) (h2 : ∀ r, r ≤ 9 → M.1 1 (10 * r) = 0) (dk : Int32) (g air : Nat) (hg : g < 4) (ha : air < 5) : ∀ (m : Nat) (k : Nat), (k + m = 81) → ∀ n, zXB E YPi_takeWorld 4 n (none) (zPic σ a g air (pDk N dk)) (zkp σ a (M.sA 0 (zfl (pDk N dk) (M.1 0) k))) 3 [some (.ref a), some (.ref b), some (.int dk), some (.int (nI g)), some (.int (nI air)), some (.int (nI k))] [] := by
  intro m
  induction m using Nat.strongRecOn with
  | ind m ih =>
  intro k hk n
  refine zj_iload 2 rfl rfl rfl ?_
  refine zj_bipush 3 (81) rfl rfl (by decide) ?_
  refine zn_icmp_ge 4 (k) (81) rfl rfl rfl rfl (by omega) (by omega) (fun c7 => ?_) (fun c7 => ?_)
  · obtain rfl : k = 81 := by omega
    refine zj_aload_n 15 rfl rfl rfl ?_
    refine zj_iload_n 16 rfl rfl rfl ?_
    refine zn_put 17 rfl rfl zkp_0 rfl rfl rfl rfl zkp_p_glass ?_
    refine zj_aload_n 18 rfl rfl rfl ?_
    refine zj_cvvX 19 rfl rfl lk_4_31 ckPi_addUp (k_addUp (M := ((M.sA 0 (zfl (pDk N dk) (M.1 0) 81)).sI 0 (nI g))) h1 h2) rfl zkp_0 rfl rfl rfl (fun s1 hP1 => ?_)
    obtain ⟨f, rfl, hJ⟩ := hP1
    refine zj_iload 20 rfl rfl rfl ?_
    refine zj_iconst 21 (5) rfl rfl (by decide) ?_
    refine zj_csx 22 rfl rfl lk_4_34 ckD_isOneOf (k_isOneOf _ _) rfl rfl rfl rfl ?_
    refine zj_if_eq 23 rfl rfl (fun c45 => ?_) (fun c45 => ?_)
    · exact absurd (zr_of (n := 5) ha (by decide)) (zo_0.mp c45)
    · refine zj_aload_n 24 rfl rfl rfl ?_
      refine zj_gets1 25 rfl rfl rfl ?_
      refine zj_iload 26 rfl rfl rfl ?_
      refine zj_tald1 27 rfl rfl (pk_in (air) 5 (by omega)) ?_
      refine zj_gets2 28 rfl rfl rfl ?_
      refine zj_iload 29 rfl rfl rfl ?_
      refine zj_tald2 30 rfl rfl (pk_in (air) 5 (by omega)) ?_
      refine zj_cvv 31 rfl rfl lk_4_44 ckPi_blur (k_Pblur (M := ((M.sA 0 (zfl (pDk N dk) (M.1 0) 81)).sI 0 (nI g)).sA 1 f) g hg rfl _ _ (mR air) (mX air) (by rw [nI_clamp (by omega)]; exact zairR air ha) (by rw [nI_clamp (by omega)]; exact zairC air ha)) rfl zkp_0 rfl rfl rfl ?_
      refine zj_return 32 rfl rfl rfl ?_
      refine ⟨rfl, rfl, _, rfl, rfl, fun c hc => ?_, ?_, fun c hc => ?_⟩
      · exact zfl_lt hc
      · exact hJ
      · exact zfl_lt (f := fun j => pBlr f g (mR air (j / 9)) (mX air (j % 9))) hc
  · refine zj_aload_n 5 rfl rfl rfl ?_
    refine zj_get 6 rfl rfl zkp_0 rfl ?_
    refine zj_iload 7 rfl rfl rfl ?_
    refine zj_aload_n 8 rfl rfl rfl ?_
    refine zj_iload 9 rfl rfl rfl ?_
    refine zj_iload_n 10 rfl rfl rfl ?_
    refine zj_cvx 11 rfl rfl lk_4_21 ckWo_darkened (k_darkened (zkw_in hW hd) k (by omega) dk) rfl (zkw_in hW hd).1 rfl rfl rfl ?_
    refine zn_iast 12 (k) rfl rfl zkp_1 rfl (by omega) (by decide) zkp_u1 ?_
    refine zn_iinc 13 (k) rfl rfl rfl rfl ?_
    refine zj_goto 14 rfl rfl ?_
    have e : zkp σ a ((M.sA 0 (zfl (pDk N dk) (M.1 0) k)).sA 0 (va_up (zfl (pDk N dk) (M.1 0) k) k (pDk N dk k))) = zkp σ a (M.sA 0 (zfl (pDk N dk) (M.1 0) (k + 1))) := by rw [zMo.sA_sA, zfl_up]
    exact e ▸ ih (m - 1) (by omega) (k + 1) (by omega) n
theorem k_takeWorld (hW : zkwAt σ b N) (hd : a + 4 ≤ b ∨ b + 3 ≤ a) (h1 : ∀ c, c ≤ 9 → M.1 1 c = 0) (h2 : ∀ r, r ≤ 9 → M.1 1 (10 * r) = 0) (dk : Int32) (g air : Nat) (hg : g < 4) (ha : air < 5) : zX E YPi_takeWorld 4 [.ref a, .ref b, .int dk, .int (nI g), .int (nI air)] (zkp σ a M) (none) (zPic σ a g air (pDk N dk)) := by
  refine zX.of oPi_takeWorld (by decide +kernel) rfl rfl (fun n => ?_)
  refine zj_iconst 0 (0) rfl rfl (by decide) ?_
  refine zj_istore 1 rfl rfl ?_
  have e : zkp σ a M = zkp σ a (M.sA 0 (zfl (pDk N dk) (M.1 0) 0)) := by rw [zfl_0, zMo.sA_self]
  rw [e]
  exact l_takeWorld hW hd h1 h2 dk g air hg ha 81 0 (by omega) n
theorem k_fill' {E : zE} {σ τ : zH} (r len : Nat) (f : Nat → Int32) (hlen : len < 2 ^ 31) (v : Int32) (hr : σ r = some (.inl (0, len, .inl f))) (hp : zup σ r (.inl (0, len, .inl (zfl (fun _ => v) f len))) = τ) : zM E YJ_fill 1 [.ref r, .int v] σ none τ := by
  subst hp; exact k_fill r len f hlen v hr
def pSp (sh : Nat → Int32) (mk : Nat → Nat) (base : Nat → Int32) : Nat → (Nat → Int32)
  | 0 => base
  | m + 1 => va_up (pSp sh mk base m) (mk m) (sh (mk m))
theorem l_takeSpots (hW : zkwAt σ b N) (hd : a + 4 ≤ b ∨ b + 3 ≤ a) (mr : Nat) (mf : Nat → Int32) (mk : Nat → Nat) (hm : σ mr = some (.inl (0, 8, .inl mf))) (hmd : mr < a ∨ a + 4 ≤ mr) (hmk : ∀ m, m < 8 → mf m = nI (mk m) ∧ mk m < 81) (h1 : ∀ c, c ≤ 9 → M.1 1 c = 0) (h2 : ∀ r, r ≤ 9 → M.1 1 (10 * r) = 0) (g : Nat) (hg : g < 4) : ∀ (m : Nat) (k : Nat), (k + m = 8) → ∀ n, zXB E YPi_takeSpots 4 n (none) (zPic σ a g 0 (pSp (N.1 0) mk (zfl (fun _ => (0 : Int32)) (M.1 0) 81) 8)) (zkp σ a (M.sA 0 (pSp (N.1 0) mk (zfl (fun _ => (0 : Int32)) (M.1 0) 81) k))) 11 [some (.ref a), some (.ref b), some (.ref mr), some (.int (nI g)), some (.int (nI k))] [] := by
  intro m
  induction m using Nat.strongRecOn with
  | ind m ih =>
  intro k hk n
  refine zj_iload 6 rfl rfl rfl ?_
  refine zj_aload_n 7 rfl rfl rfl ?_
  refine zj_alen 8 rfl rfl (by rw [zkp_ne (by omega)]; exact hm) (by decide) ?_
  refine zn_icmp_ge 9 (k) (8) rfl rfl rfl rfl (by omega) (by omega) (fun c15 => ?_) (fun c15 => ?_)
  · obtain rfl : k = 8 := by omega
    refine zj_aload_n 30 rfl rfl rfl ?_
    refine zj_iload_n 31 rfl rfl rfl ?_
    refine zn_put 32 rfl rfl zkp_0 rfl rfl rfl rfl zkp_p_glass ?_
    refine zj_aload_n 33 rfl rfl rfl ?_
    refine zj_cvvX 34 rfl rfl lk_4_31 ckPi_addUp (k_addUp (M := ((M.sA 0 (pSp (N.1 0) mk (zfl (fun _ => (0 : Int32)) (M.1 0) 81) 8)).sI 0 (nI g))) h1 h2) rfl zkp_0 rfl rfl rfl (fun s1 hP1 => ?_)
    obtain ⟨f, rfl, hJ⟩ := hP1
    refine zj_aload_n 35 rfl rfl rfl ?_
    refine zj_iconst 36 (0) rfl rfl (by decide) ?_
    refine zj_iconst 37 (0) rfl rfl (by decide) ?_
    refine zj_cvv 38 rfl rfl lk_4_44 ckPi_blur (k_Pblur (M := ((M.sA 0 (pSp (N.1 0) mk (zfl (fun _ => (0 : Int32)) (M.1 0) 81) 8)).sI 0 (nI g)).sA 1 f) g hg rfl 0 0 (mR 0) (mX 0) (zairR 0 (by decide)) (zairC 0 (by decide))) rfl zkp_0 rfl rfl rfl ?_
    refine zj_return 39 rfl rfl rfl ?_
    refine ⟨rfl, rfl, _, rfl, rfl, fun c hc => rfl, hJ, fun c hc => ?_⟩
    exact zfl_lt (f := fun j => pBlr f g (mR 0 (j / 9)) (mX 0 (j % 9))) hc
  · have hk2 := (hmk k (by omega)).2
    refine zj_aload_n 10 rfl rfl rfl ?_
    refine zj_iload 11 rfl rfl rfl ?_
    refine zn_iald 12 (k) rfl rfl (by rw [zkp_ne (by omega)]; exact hm) rfl (by omega) (by decide) ?_
    rw [(hmk k (by omega)).1]
    refine zj_bipush 13 (81) rfl rfl (by decide) ?_
    refine zj_csx 14 rfl rfl lk_4_34 ckD_isOneOf (k_isOneOf _ _) rfl rfl rfl rfl ?_
    refine zj_if_eq 15 rfl rfl (fun c27 => ?_) (fun c27 => ?_)
    · exact absurd (zr_of (n := 81) hk2 (by decide)) (zo_0.mp c27)
    · refine zj_aload_n 16 rfl rfl rfl ?_
      refine zj_get 17 rfl rfl zkp_0 rfl ?_
      refine zj_aload_n 18 rfl rfl rfl ?_
      refine zj_iload 19 rfl rfl rfl ?_
      refine zn_iald 20 (k) rfl rfl (by rw [zkp_ne (by omega)]; exact hm) rfl (by omega) (by decide) ?_
      refine zj_aload_n 21 rfl rfl rfl ?_
      refine zj_get 22 rfl rfl (zkw_in hW hd).1 rfl ?_
      refine zj_aload_n 23 rfl rfl rfl ?_
      refine zj_iload 24 rfl rfl rfl ?_
      refine zn_iald 25 (k) rfl rfl (by rw [zkp_ne (by omega)]; exact hm) rfl (by omega) (by decide) ?_
      refine zn_iald 26 (mk k) rfl rfl (zkw_in hW hd).2.1 (hmk k (by omega)).1 (by omega) (by decide) ?_
      refine zn_iast 27 (mk k) rfl rfl zkp_1 (hmk k (by omega)).1 (by omega) (by decide) zkp_u1 ?_
      refine zn_iinc 28 (k) rfl rfl rfl rfl ?_
      refine zj_goto 29 rfl rfl ?_
      have e : zkp σ a ((M.sA 0 (pSp (N.1 0) mk (zfl (fun _ => (0 : Int32)) (M.1 0) 81) k)).sA 0 (va_up (pSp (N.1 0) mk (zfl (fun _ => (0 : Int32)) (M.1 0) 81) k) (mk k) (N.1 0 (mk k)))) = zkp σ a (M.sA 0 (pSp (N.1 0) mk (zfl (fun _ => (0 : Int32)) (M.1 0) 81) (k + 1))) := by rw [zMo.sA_sA]; rfl
      exact e ▸ ih (m - 1) (by omega) (k + 1) (by omega) n
theorem k_takeSpots (hW : zkwAt σ b N) (hd : a + 4 ≤ b ∨ b + 3 ≤ a) (mr : Nat) (mf : Nat → Int32) (mk : Nat → Nat) (hm : σ mr = some (.inl (0, 8, .inl mf))) (hmd : mr < a ∨ a + 4 ≤ mr) (hmk : ∀ m, m < 8 → mf m = nI (mk m) ∧ mk m < 81) (h1 : ∀ c, c ≤ 9 → M.1 1 c = 0) (h2 : ∀ r, r ≤ 9 → M.1 1 (10 * r) = 0) (g : Nat) (hg : g < 4) : zX E YPi_takeSpots 4 [.ref a, .ref b, .ref mr, .int (nI g)] (zkp σ a M) (none) (zPic σ a g 0 (pSp (N.1 0) mk (zfl (fun _ => (0 : Int32)) (M.1 0) 81) 8)) := by
  refine zX.of oPi_takeSpots (by decide +kernel) rfl rfl (fun n => ?_)
  refine zj_aload_n 0 rfl rfl rfl ?_
  refine zj_get 1 rfl rfl zkp_0 rfl ?_
  refine zj_iconst 2 (0) rfl rfl (by decide) ?_
  refine zj_csv 3 rfl rfl lk_4_48 ckJ_fill (k_fill' (a + 1) 81 _ (by decide) 0 zkp_1 zkp_u1) rfl rfl rfl rfl ?_
  refine zj_iconst 4 (0) rfl rfl (by decide) ?_
  refine zj_istore 5 rfl rfl ?_
  exact l_takeSpots hW hd mr mf mk hm hmd hmk h1 h2 g hg 8 0 (by omega) n
end
