/-! the component: a State mixed and copied -/
def mixW (W : Nat → zMo) (h : Int64) : Nat → Int64
  | 0 => h
  | k + 1 => pTR ((W k).1 1) (pTR ((W k).1 0) (mixW W h k) 81) 9
def mixL (L : Nat → zMo) (ml : Nat → Nat) (h : Int64) : Nat → Int64
  | 0 => h
  | k + 1 => pTR ((L k).1 0) (31 * mixL L ml h k + (nI (ml k)).toInt64) (ml k)
abbrev mixE (S : zSc) (no ns nh ng : Nat) (x : Int64) : Int64 := 31 * pM3 (S.g.1 0) (S.g.1 1) (S.g.1 2) (31 * pM3 (S.b.1 5) (S.b.1 6) (S.b.1 7) (pM3 (S.b.1 4) (S.b.1 2) (S.b.1 3) (pM2 (S.b.1 0) (S.b.1 1) x no) ns) nh + S.o.toInt64) ng + S.e.toInt64
abbrev mixS (S : zSc) (ml : Nat → Nat) (no ns nh ng : Nat) (x : Int64) : Int64 := mixE S no ns nh ng (mixL S.l ml (pTR S.m (mixW S.w (31 * (31 * (31 * (31 * x + (S.b.2.2.1 0).toInt64) + (S.b.2.2.1 1).toInt64) + (S.b.2.2.1 2).toInt64) + (S.g.2.2.1 0).toInt64) 4) 8) 4)
theorem zbl {x : Int32} (h : x = 0 ∨ x = 1) : narrow .boolean (.int x) = .int x ∧ fits .boolean (.int x) = true := by
  rcases h with rfl | rfl <;> exact ⟨rfl, rfl⟩
/-- S' has what T has, as far as it is ever read -/
def sEq (T S' : zSc) : Prop := (∀ w, w < 4 → zeqb [81, 9] 0 (T.w w) (S'.w w)) ∧ (∀ m, m < 8 → S'.m m = T.m m) ∧ (∀ l, l < 4 → zeqb [40, 40] 4 (T.l l) (S'.l l)) ∧ zeqb [8, 8, 16, 16, 16, 60, 60, 60] 3 T.b S'.b ∧ zeqb [12, 12, 12] 1 T.g S'.g ∧ S'.o = T.o ∧ S'.e = T.e
theorem kWcopy {E : zE} {τ : zH} {a b : Nat} {M N : zMo} (hM : zkwAt τ a M) (hN : zkwAt τ b N) (hd : a + 3 ≤ b ∨ b + 3 ≤ a) : zX E YWo_copy 3 [.ref a, .ref b] τ none (fun s => ∃ M1, s = zkw τ a M1 ∧ zeqb [81, 9] 0 N M1) := by
  have hk := k_Wcopy (E := E) (σ := τ) (a := a) (b := b) (M := M) (N := N) hN hd
  rw [zkw_id hM] at hk
  exact hk
theorem kGcopy {E : zE} {τ : zH} {a b : Nat} {M N : zMo} (hM : zkgAt τ a M) (hN : zkgAt τ b N) (hd : a + 4 ≤ b ∨ b + 4 ≤ a) : zX E YGu_copy 3 [.ref a, .ref b] τ none (fun s => ∃ M1, s = zkg τ a M1 ∧ zeqb [12, 12, 12] 1 N M1) := by
  have hk := k_Gcopy (E := E) (σ := τ) (a := a) (b := b) (M := M) (N := N) hN hd
  rw [zkg_id hM] at hk
  exact hk
theorem kBcopy {E : zE} {τ : zH} {a b : Nat} {M N : zMo} (hM : zkbAt τ a M) (hN : zkbAt τ b N) (hd : a + 9 ≤ b ∨ b + 9 ≤ a) : zX E YBk_copy 3 [.ref a, .ref b] τ none (fun s => ∃ M1, s = zkb τ a M1 ∧ zeqb [8, 8, 16, 16, 16, 60, 60, 60] 3 N M1) := by
  have hk := k_Bcopy (E := E) (σ := τ) (a := a) (b := b) (M := M) (N := N) hN hd
  rw [zkb_id hM] at hk
  exact hk
theorem kLcopy {E : zE} {τ : zH} {a b : Nat} {M N : zMo} (hM : zktAt τ a M) (hN : zktAt τ b N) (hd : a + 3 ≤ b ∨ b + 3 ≤ a) (hb : N.2.2.1 3 = 0 ∨ N.2.2.1 3 = 1) : zX E YLa_copy 3 [.ref a, .ref b] τ none (fun s => ∃ M1, s = zkt τ a M1 ∧ zeqb [40, 40] 4 N M1) := by
  have hk := k_Lcopy (E := E) (σ := τ) (a := a) (b := b) (M := M) (N := N) hN hd (zbl hb).1 (zbl hb).2
  rw [zkt_id hM] at hk
  exact hk.mono (fun s ⟨M1, h1, h2, _⟩ => ⟨M1, h1, h2⟩)
theorem va_upd {α : Type} {Q : Nat → α → Prop} {f : Nat → α} {k : Nat} {x : α} (hx : Q k x) (h : ∀ w, w < k → Q w (f w)) : ∀ w, w < k + 1 → Q w (va_up f k x w) := fun w hw => by
  by_cases e : w = k
  · subst e; rw [zva_eq]; exact hx
  · rw [va_up_ne' e]; exact h w (by omega)
section
variable {E : zE} {σ : zH} {s t : Nat} {S T : zSc}
theorem l_StmixL (h : sAt σ s S) (no ns nh ng : Nat) (ml : Nat → Nat) (n0 : S.b.2.2.1 0 = nI no ∧ no ≤ 8) (n1 : S.b.2.2.1 1 = nI ns ∧ ns ≤ 16) (n2 : S.b.2.2.1 2 = nI nh ∧ nh ≤ 60) (n3 : S.g.2.2.1 0 = nI ng ∧ ng ≤ 12) (hl : ∀ l, l < 4 → (S.l l).2.2.1 0 = nI (ml l) ∧ ml l ≤ 40) (h0 y : Int64) : ∀ (m : Nat) (k : Nat), (k + m = 4) → ∀ n, zB E YSt_mixInto 4 n (some (.long (mixE S no ns nh ng (mixL S.l ml y 4)))) (σ) (σ) 89 [some (.ref s), some (.long h0), none, some (.long (mixL S.l ml y k)), none, some (.int (nI k))] [] := by
  intro m
  induction m using Nat.strongRecOn with
  | ind m ih =>
  intro k hk n
  refine zj_iload 46 rfl rfl rfl ?_
  refine zj_iconst 47 (4) rfl rfl (by decide) ?_
  refine zn_icmp_ge 48 (k) (4) rfl rfl rfl rfl (by omega) (by omega) (fun c92 => ?_) (fun c92 => ?_)
  · refine zj_aload_n 58 rfl rfl rfl ?_
    refine zj_get 59 rfl rfl h.1 rfl ?_
    refine zj_lload_n 60 rfl rfl rfl ?_
    refine zj_cvx 61 rfl rfl lk_5_92 ckBk_mixInto (k_Bmix h.2.2.2.2.2.2.1 no n0.1 n0.2 ns n1.1 n1.2 nh n2.1 n2.2 _) rfl h.2.2.2.2.2.2.1.1 rfl rfl rfl ?_
    refine zj_aload_n 62 rfl rfl rfl ?_
    refine zj_get 63 rfl rfl h.1 rfl ?_
    refine zj_i2l 64 rfl rfl ?_
    refine zj_csx 65 rfl rfl lk_5_70 ckD_mix (k_mix _ _) rfl rfl rfl rfl ?_
    refine zj_lstore_n 66 rfl rfl ?_
    refine zj_aload_n 67 rfl rfl rfl ?_
    refine zj_get 68 rfl rfl h.1 rfl ?_
    refine zj_lload_n 69 rfl rfl rfl ?_
    refine zj_cvx 70 rfl rfl lk_5_93 ckGu_mixInto (k_Gmix h.2.2.2.2.2.2.2 ng n3.1 n3.2 _) rfl h.2.2.2.2.2.2.2.1 rfl rfl rfl ?_
    refine zj_aload_n 71 rfl rfl rfl ?_
    refine zj_get 72 rfl rfl h.1 rfl ?_
    refine zj_i2l 73 rfl rfl ?_
    refine zj_csx 74 rfl rfl lk_5_70 ckD_mix (k_mix _ _) rfl rfl rfl rfl ?_
    refine zj_lreturn 75 rfl rfl rfl ?_
    obtain rfl : k = 4 := by omega
    exact ⟨rfl, rfl, rfl⟩
  · refine zj_aload_n 49 rfl rfl rfl ?_
    refine zj_get 50 rfl rfl h.1 rfl ?_
    refine zj_iload 51 rfl rfl rfl ?_
    refine zn_aald 52 (k) rfl rfl h.2.2.2.2.1 (by decide) rfl (by omega) (by decide) rfl ?_
    refine zj_lload_n 53 rfl rfl rfl ?_
    refine zj_cvx 54 rfl rfl lk_5_91 ckLa_mixInto (k_Lmix (h.2.2.2.2.2.1 k (by omega)) (ml k) (hl k (by omega)).1 (hl k (by omega)).2 _) rfl (h.2.2.2.2.2.1 k (by omega)).1 rfl rfl rfl ?_
    refine zj_lstore_n 55 rfl rfl ?_
    refine zn_iinc 56 (k) rfl rfl rfl rfl ?_
    refine zj_goto 57 rfl rfl ?_
    exact ih (m - 1) (by omega) (k + 1) (by omega) n
theorem l_StmixW (h : sAt σ s S) (no ns nh ng : Nat) (ml : Nat → Nat) (n0 : S.b.2.2.1 0 = nI no ∧ no ≤ 8) (n1 : S.b.2.2.1 1 = nI ns ∧ ns ≤ 16) (n2 : S.b.2.2.1 2 = nI nh ∧ nh ≤ 60) (n3 : S.g.2.2.1 0 = nI ng ∧ ng ≤ 12) (hl : ∀ l, l < 4 → (S.l l).2.2.1 0 = nI (ml l) ∧ ml l ≤ 40) (h0 y : Int64) : ∀ (m : Nat) (k : Nat), (k + m = 4) → ∀ n, zB E YSt_mixInto 4 n (some (.long (mixE S no ns nh ng (mixL S.l ml (pTR S.m (mixW S.w y 4) 8) 4)))) (σ) (σ) 51 [some (.ref s), some (.long h0), none, some (.long (mixW S.w y k)), none, some (.int (nI k))] [] := by
  intro m
  induction m using Nat.strongRecOn with
  | ind m ih =>
  intro k hk n
  refine zj_iload 26 rfl rfl rfl ?_
  refine zj_iconst 27 (4) rfl rfl (by decide) ?_
  refine zn_icmp_ge 28 (k) (4) rfl rfl rfl rfl (by omega) (by omega) (fun c54 => ?_) (fun c54 => ?_)
  · refine zj_lload_n 38 rfl rfl rfl ?_
    refine zj_aload_n 39 rfl rfl rfl ?_
    refine zj_get 40 rfl rfl h.1 rfl ?_
    refine zj_bipush 41 (8) rfl rfl (by decide) ?_
    refine zj_csx 42 rfl rfl lk_5_87 ckD_mixRow (k_mixRow _ 8 _ h.2.2.2.1 (by decide) _ 8 (by decide)) rfl rfl rfl rfl ?_
    refine zj_lstore_n 43 rfl rfl ?_
    refine zj_iconst 44 (0) rfl rfl (by decide) ?_
    refine zj_istore 45 rfl rfl ?_
    obtain rfl : k = 4 := by omega
    exact l_StmixL h no ns nh ng ml n0 n1 n2 n3 hl h0 _ 4 0 (by omega) n
  · refine zj_aload_n 29 rfl rfl rfl ?_
    refine zj_get 30 rfl rfl h.1 rfl ?_
    refine zj_iload 31 rfl rfl rfl ?_
    refine zn_aald 32 (k) rfl rfl h.2.1 (by decide) rfl (by omega) (by decide) rfl ?_
    refine zj_lload_n 33 rfl rfl rfl ?_
    refine zj_cvx 34 rfl rfl lk_5_83 ckWo_mixInto (k_Wo_mixInto (h.2.2.1 k (by omega)) _) rfl (h.2.2.1 k (by omega)).1 rfl rfl rfl ?_
    refine zj_lstore_n 35 rfl rfl ?_
    refine zn_iinc 36 (k) rfl rfl rfl rfl ?_
    refine zj_goto 37 rfl rfl ?_
    exact ih (m - 1) (by omega) (k + 1) (by omega) n
theorem k_Stmix (h : sAt σ s S) (no ns nh ng : Nat) (ml : Nat → Nat) (n0 : S.b.2.2.1 0 = nI no ∧ no ≤ 8) (n1 : S.b.2.2.1 1 = nI ns ∧ ns ≤ 16) (n2 : S.b.2.2.1 2 = nI nh ∧ nh ≤ 60) (n3 : S.g.2.2.1 0 = nI ng ∧ ng ≤ 12) (hl : ∀ l, l < 4 → (S.l l).2.2.1 0 = nI (ml l) ∧ ml l ≤ 40) (h0 : Int64) : zM E YSt_mixInto 4 [.ref s, .long h0] (σ) (some (.long (mixS S ml no ns nh ng h0))) (σ) := by
  refine zM.of oSt_mixInto (by decide +kernel) rfl rfl (fun n => ?_)
  refine zj_lload_n 0 rfl rfl rfl ?_
  refine zj_aload_n 1 rfl rfl rfl ?_
  refine zj_get 2 rfl rfl h.1 rfl ?_
  refine zj_get 3 rfl rfl h.2.2.2.2.2.2.1.1 rfl ?_
  refine zj_i2l 4 rfl rfl ?_
  refine zj_csx 5 rfl rfl lk_5_70 ckD_mix (k_mix _ _) rfl rfl rfl rfl ?_
  refine zj_aload_n 6 rfl rfl rfl ?_
  refine zj_get 7 rfl rfl h.1 rfl ?_
  refine zj_get 8 rfl rfl h.2.2.2.2.2.2.1.1 rfl ?_
  refine zj_i2l 9 rfl rfl ?_
  refine zj_csx 10 rfl rfl lk_5_70 ckD_mix (k_mix _ _) rfl rfl rfl rfl ?_
  refine zj_lstore_n 11 rfl rfl ?_
  refine zj_lload_n 12 rfl rfl rfl ?_
  refine zj_aload_n 13 rfl rfl rfl ?_
  refine zj_get 14 rfl rfl h.1 rfl ?_
  refine zj_get 15 rfl rfl h.2.2.2.2.2.2.1.1 rfl ?_
  refine zj_i2l 16 rfl rfl ?_
  refine zj_csx 17 rfl rfl lk_5_70 ckD_mix (k_mix _ _) rfl rfl rfl rfl ?_
  refine zj_aload_n 18 rfl rfl rfl ?_
  refine zj_get 19 rfl rfl h.1 rfl ?_
  refine zj_get 20 rfl rfl h.2.2.2.2.2.2.2.1 rfl ?_
  refine zj_i2l 21 rfl rfl ?_
  refine zj_csx 22 rfl rfl lk_5_70 ckD_mix (k_mix _ _) rfl rfl rfl rfl ?_
  refine zj_lstore_n 23 rfl rfl ?_
  refine zj_iconst 24 (0) rfl rfl (by decide) ?_
  refine zj_istore 25 rfl rfl ?_
  exact l_StmixW h no ns nh ng ml n0 n1 n2 n3 hl h0 _ 4 0 (by omega) n
theorem l_StcpL (g : sAt σ t T) (hd : t + 41 ≤ s ∨ s + 41 ≤ t) (hB : ∀ l, l < 4 → (T.l l).2.2.1 3 = 0 ∨ (T.l l).2.2.1 3 = 1) : ∀ (m : Nat) (k : Nat) (τ : zH) (S1 : zSc), (k + m = 4) → (zsm σ τ s (s + 41)) → (sAt τ s S1) → (∀ w, w < 4 → zeqb [81, 9] 0 (T.w w) (S1.w w)) → (∀ m, m < 8 → S1.m m = T.m m) → (∀ l, l < k → zeqb [40, 40] 4 (T.l l) (S1.l l)) → ∀ n, zXB E YSt_copy 4 n (none) (fun τ' => zsm σ τ' s (s + 41) ∧ ∃ S', sAt τ' s S' ∧ sEq T S') (τ) 41 [some (.ref s), some (.ref t), some (.int (nI k))] [] := by
  intro m
  induction m using Nat.strongRecOn with
  | ind m ih =>
  intro k τ S1 hk hz hS hE hM hL n
  have hT := g.sm hz hd
  refine zj_iload_n 23 rfl rfl rfl ?_
  refine zj_iconst 24 (4) rfl rfl (by decide) ?_
  refine zn_icmp_ge 25 (k) (4) rfl rfl rfl rfl (by omega) (by omega) (fun c43 => ?_) (fun c43 => ?_)
  · refine zj_aload_n 37 rfl rfl rfl ?_
    refine zj_get 38 rfl rfl hS.1 rfl ?_
    refine zj_aload_n 39 rfl rfl rfl ?_
    refine zj_get 40 rfl rfl hT.1 rfl ?_
    refine zj_cvvX 41 rfl rfl lk_5_61 ckBk_copy (kBcopy hS.2.2.2.2.2.2.1 hT.2.2.2.2.2.2.1 (by omega)) rfl hS.2.2.2.2.2.2.1.1 rfl rfl rfl (fun s1 hP1 => ?_)
    obtain ⟨M1, rfl, q1⟩ := hP1
    have hS2 := hS.ub (N := M1) (zkb_sm.wide (by omega) (by omega)) zkb_at
    have hz2 := hz.trans (zkb_sm (a := s + 28) (M := M1) |>.wide (lo' := s) (hi' := s + 41) (by omega) (by omega))
    have hT2 := g.sm hz2 hd
    refine zj_aload_n 42 rfl rfl rfl ?_
    refine zj_get 43 rfl rfl hS2.1 rfl ?_
    refine zj_aload_n 44 rfl rfl rfl ?_
    refine zj_get 45 rfl rfl hT2.1 rfl ?_
    refine zj_cvvX 46 rfl rfl lk_5_64 ckGu_copy (kGcopy hS2.2.2.2.2.2.2.2 hT2.2.2.2.2.2.2.2 (by omega)) rfl hS2.2.2.2.2.2.2.2.1 rfl rfl rfl (fun s1 hP1 => ?_)
    obtain ⟨M2, rfl, q2⟩ := hP1
    have hS3 := hS2.ug (N := M2) (zkg_sm.wide (by omega) (by omega)) zkg_at
    have hz3 := hz2.trans (zkg_sm (a := s + 37) (M := M2) |>.wide (lo' := s) (hi' := s + 41) (by omega) (by omega))
    have hT3 := g.sm hz3 hd
    refine zj_aload_n 47 rfl rfl rfl ?_
    refine zj_aload_n 48 rfl rfl rfl ?_
    refine zj_get 49 rfl rfl hT3.1 rfl ?_
    refine zn_put 50 rfl rfl hS3.1 rfl rfl rfl rfl rfl ?_
    refine zj_aload_n 51 rfl rfl rfl ?_
    refine zj_aload_n 52 rfl rfl rfl ?_
    refine zj_get 53 rfl rfl (by rw [zup_ne (by omega)]; exact hT3.1) rfl ?_
    refine zn_put 54 rfl rfl (zup_eq _ _ _) rfl rfl rfl rfl (zup_zup _ _ _ _) ?_
    refine zj_return 55 rfl rfl rfl ?_
    obtain rfl : k = 4 := by omega
    exact ⟨rfl, rfl, hz3.trans (zsm_zup.wide (by omega) (by omega)), _, hS3.u0 (x := T.o) (y := T.e) zsm_zup (zup_eq _ _ _), hE, hM, hL, q1, q2, rfl, rfl⟩
  · refine zj_aload_n 26 rfl rfl rfl ?_
    refine zj_get 27 rfl rfl hS.1 rfl ?_
    refine zj_iload_n 28 rfl rfl rfl ?_
    refine zn_aald 29 (k) rfl rfl hS.2.2.2.2.1 (by decide) rfl (by omega) (by decide) rfl ?_
    refine zj_aload_n 30 rfl rfl rfl ?_
    refine zj_get 31 rfl rfl hT.1 rfl ?_
    refine zj_iload_n 32 rfl rfl rfl ?_
    refine zn_aald 33 (k) rfl rfl hT.2.2.2.2.1 (by decide) rfl (by omega) (by decide) rfl ?_
    refine zj_cvvX 34 rfl rfl lk_5_58 ckLa_copy (kLcopy (hS.2.2.2.2.2.1 k (by omega)) (hT.2.2.2.2.2.1 k (by omega)) (by omega) (hB k (by omega))) rfl (hS.2.2.2.2.2.1 k (by omega)).1 rfl rfl rfl (fun s1 hP1 => ?_)
    obtain ⟨M1, rfl, q1⟩ := hP1
    refine zn_iinc 35 (k) rfl rfl rfl rfl ?_
    refine zj_goto 36 rfl rfl ?_
    exact ih (m - 1) (by omega) (k + 1) _ (S1.sl (va_up S1.l k M1)) (by omega) (hz.trans (zkt_sm.wide (by omega) (by omega))) (hS.ul (by omega) zkt_sm zkt_at) hE hM (va_upd (Q := fun l x => zeqb [40, 40] 4 (T.l l) x) q1 hL) n
theorem l_StcpW (g : sAt σ t T) (hd : t + 41 ≤ s ∨ s + 41 ≤ t) (hB : ∀ l, l < 4 → (T.l l).2.2.1 3 = 0 ∨ (T.l l).2.2.1 3 = 1) : ∀ (m : Nat) (k : Nat) (τ : zH) (S1 : zSc), (k + m = 4) → (zsm σ τ s (s + 41)) → (sAt τ s S1) → (∀ w, w < k → zeqb [81, 9] 0 (T.w w) (S1.w w)) → ∀ n, zXB E YSt_copy 4 n (none) (fun τ' => zsm σ τ' s (s + 41) ∧ ∃ S', sAt τ' s S' ∧ sEq T S') (τ) 2 [some (.ref s), some (.ref t), some (.int (nI k))] [] := by
  intro m
  induction m using Nat.strongRecOn with
  | ind m ih =>
  intro k τ S1 hk hz hS hE n
  have hT := g.sm hz hd
  refine zj_iload_n 2 rfl rfl rfl ?_
  refine zj_iconst 3 (4) rfl rfl (by decide) ?_
  refine zn_icmp_ge 4 (k) (4) rfl rfl rfl rfl (by omega) (by omega) (fun c4 => ?_) (fun c4 => ?_)
  · refine zj_aload_n 16 rfl rfl rfl ?_
    refine zj_get 17 rfl rfl hT.1 rfl ?_
    refine zj_aload_n 18 rfl rfl rfl ?_
    refine zj_get 19 rfl rfl hS.1 rfl ?_
    refine zj_csv 20 rfl rfl lk_5_54 ckD_copyRow (k_copyRow _ _ 8 _ _ hT.2.2.2.1 hS.2.2.2.1 (by decide)) rfl rfl rfl rfl ?_
    refine zj_iconst 21 (0) rfl rfl (by decide) ?_
    refine zj_istore_n 22 rfl rfl ?_
    obtain rfl : k = 4 := by omega
    exact l_StcpL g hd hB 4 0 _ (S1.sm (va_cpy T.m S1.m 0 0 8)) (by omega) (hz.trans (zsm_zup.wide (by omega) (by omega))) (hS.um (zsm_zup.wide (by omega) (by omega)) (zup_eq _ _ _)) hE (fun m hm => zcpy_lt hm) (fun l hl => absurd hl (by omega)) n
  · refine zj_aload_n 5 rfl rfl rfl ?_
    refine zj_get 6 rfl rfl hS.1 rfl ?_
    refine zj_iload_n 7 rfl rfl rfl ?_
    refine zn_aald 8 (k) rfl rfl hS.2.1 (by decide) rfl (by omega) (by decide) rfl ?_
    refine zj_aload_n 9 rfl rfl rfl ?_
    refine zj_get 10 rfl rfl hT.1 rfl ?_
    refine zj_iload_n 11 rfl rfl rfl ?_
    refine zn_aald 12 (k) rfl rfl hT.2.1 (by decide) rfl (by omega) (by decide) rfl ?_
    refine zj_cvvX 13 rfl rfl lk_5_50 ckWo_copy (kWcopy (hS.2.2.1 k (by omega)) (hT.2.2.1 k (by omega)) (by omega)) rfl (hS.2.2.1 k (by omega)).1 rfl rfl rfl (fun s1 hP1 => ?_)
    obtain ⟨M1, rfl, q1⟩ := hP1
    refine zn_iinc 14 (k) rfl rfl rfl rfl ?_
    refine zj_goto 15 rfl rfl ?_
    exact ih (m - 1) (by omega) (k + 1) _ (S1.sw (va_up S1.w k M1)) (by omega) (hz.trans (zkw_sm.wide (by omega) (by omega))) (hS.uw (by omega) zkw_sm zkw_at) (va_upd (Q := fun l x => zeqb [81, 9] 0 (T.w l) x) q1 hE) n
theorem k_Stcopy (h : sAt σ s S) (g : sAt σ t T) (hd : t + 41 ≤ s ∨ s + 41 ≤ t) (hB : ∀ l, l < 4 → (T.l l).2.2.1 3 = 0 ∨ (T.l l).2.2.1 3 = 1) : zX E YSt_copy 4 [.ref s, .ref t] (σ) (none) (fun τ' => zsm σ τ' s (s + 41) ∧ ∃ S', sAt τ' s S' ∧ sEq T S') := by
  refine zX.of oSt_copy (by decide +kernel) rfl rfl (fun n => ?_)
  refine zj_iconst 0 (0) rfl rfl (by decide) ?_
  refine zj_istore_n 1 rfl rfl ?_
  exact l_StcpW g hd hB 4 0 σ S (by omega) zsm.rfl' h (fun l hl => absurd hl (by omega)) n
end
