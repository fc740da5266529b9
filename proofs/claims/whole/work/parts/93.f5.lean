/-! the reference's constructor; the start -/
def mrow : Nat → (Nat → Int32)
  | 0 => fun _ => 0
  | k + 1 => va_up (mrow k) (360 + k) (nI (10 * k))
abbrev r0 : Nat → Int32 := va_up (va_up (mrow 8) 779 3) 817 2
abbrev M0 : zMo := (Z0.sA 0 r0).sL 1 1
theorem mw_id {σ : zH} {a : Nat} {M : zMo} (h0 : σ a = some (.inr (8, mfs a M))) (h1 : σ (a + 1) = some (.inl (0, 818, .inl (M.1 0)))) (h2 : σ (a + 2) = some (.inl (0, 1636, .inl (M.1 1)))) (h3 : σ (a + 3) = some (.inl (2, 2, .inl (M.1 2)))) (h4 : σ (a + 4) = some (.inl (0, 81, .inl (M.1 3)))) (h5 : σ (a + 5) = some (.inl (0, 40, .inl (M.1 4)))) (h6 : σ (a + 6) = some (.inl (1, 40, .inr (.inl (M.2.1 0))))) (h7 : σ (a + 7) = some (.inl (0, 41, .inl (M.1 5)))) (h8 : σ (a + 8) = some (.inl (2, 10, .inl (M.1 6)))) (h9 : σ (a + 9) = some (.inl (1, 6, .inr (.inl (M.2.1 1))))) (h10 : σ (a + 10) = some (.inl (1, 41, .inr (.inl (M.2.1 2))))) (h11 : σ (a + 11) = some (.inl (0, 4, .inl (M.1 7)))) : mw σ a M = σ := by
  funext q
  unfold mw
  by_cases e0 : q = a
  · subst e0; rw [if_pos rfl]; exact h0.symm
  rw [if_neg e0]
  by_cases e1 : q = a + 1
  · subst e1; rw [if_pos rfl]; exact h1.symm
  rw [if_neg e1]
  by_cases e2 : q = a + 2
  · subst e2; rw [if_pos rfl]; exact h2.symm
  rw [if_neg e2]
  by_cases e3 : q = a + 3
  · subst e3; rw [if_pos rfl]; exact h3.symm
  rw [if_neg e3]
  by_cases e4 : q = a + 4
  · subst e4; rw [if_pos rfl]; exact h4.symm
  rw [if_neg e4]
  by_cases e5 : q = a + 5
  · subst e5; rw [if_pos rfl]; exact h5.symm
  rw [if_neg e5]
  by_cases e6 : q = a + 6
  · subst e6; rw [if_pos rfl]; exact h6.symm
  rw [if_neg e6]
  by_cases e7 : q = a + 7
  · subst e7; rw [if_pos rfl]; exact h7.symm
  rw [if_neg e7]
  by_cases e8 : q = a + 8
  · subst e8; rw [if_pos rfl]; exact h8.symm
  rw [if_neg e8]
  by_cases e9 : q = a + 9
  · subst e9; rw [if_pos rfl]; exact h9.symm
  rw [if_neg e9]
  by_cases e10 : q = a + 10
  · subst e10; rw [if_pos rfl]; exact h10.symm
  rw [if_neg e10]
  by_cases e11 : q = a + 11
  · subst e11; rw [if_pos rfl]; exact h11.symm
  rw [if_neg e11]

theorem l_Mi {E : zE} {τ : zH} {a n : Nat} {Pp : zH → Prop} (hP : Pp (mw τ a M0)) : ∀ (m k : Nat), k + m = 8 → zJ E YM_init (zrC 2 11 2719) (zfin E (fun r m' s => r = none ∧ m' = n ∧ Pp s) 11 2719) n 11 2719 (mw τ a (Z0.sA 0 (mrow k))) 94 [some (.ref a), some (.int (nI k))] [] := by
  intro m
  induction m using Nat.strongRecOn with
  | ind m ih =>
  intro k hk
  refine zj_iload_n 48 rfl rfl rfl ?_
  refine zj_bipush 49 (8) rfl rfl (by decide) ?_
  refine zn_icmp_ge 50 (k) (8) rfl rfl rfl rfl (by omega) (by omega) (fun c97 => ?_) (fun c97 => ?_)
  · refine zj_aload_n 62 rfl rfl rfl ?_
    refine zj_get 63 rfl rfl mw_0 rfl ?_
    refine zj_sipush 64 (779) rfl rfl (by decide) ?_
    refine zj_iconst 65 (3) rfl rfl (by decide) ?_
    refine zn_iast 66 (779) rfl rfl mw_1 rfl (by omega) (by decide) mw_u1 ?_
    refine zj_aload_n 67 rfl rfl rfl ?_
    refine zj_get 68 rfl rfl mw_0 rfl ?_
    refine zj_sipush 69 (817) rfl rfl (by decide) ?_
    refine zj_iconst 70 (2) rfl rfl (by decide) ?_
    refine zn_iast 71 (817) rfl rfl mw_1 rfl (by omega) (by decide) mw_u1 ?_
    refine zj_aload_n 72 rfl rfl rfl ?_
    refine zj_lconst 73 (1) rfl rfl (by decide) ?_
    refine zn_put 74 rfl rfl mw_0 rfl rfl rfl rfl mw_p_low ?_
    refine zj_return 75 rfl rfl rfl ?_
    obtain rfl : k = 8 := by omega
    refine ⟨rfl, rfl, ?_⟩
    simp only [zMo.sA_sA]
    exact hP
  · refine zj_aload_n 51 rfl rfl rfl ?_
    refine zj_get 52 rfl rfl mw_0 rfl ?_
    refine zj_sipush 53 (360) rfl rfl (by decide) ?_
    refine zj_iload_n 54 rfl rfl rfl ?_
    refine zn_iadd 55 (360) (k) rfl rfl rfl rfl ?_
    refine zj_bipush 56 (10) rfl rfl (by decide) ?_
    refine zj_iload_n 57 rfl rfl rfl ?_
    refine zn_imul 58 (10) (k) rfl rfl rfl rfl ?_
    refine zn_iast 59 (360 + k) rfl rfl mw_1 rfl (by omega) (by decide) mw_u1 ?_
    refine zn_iinc 60 (k) rfl rfl rfl rfl ?_
    refine zj_goto 61 rfl rfl ?_
    have hh := ih (m - 1) (by omega) (k + 1) (by omega)
    have e : Z0.sA 0 (mrow (k + 1)) = (Z0.sA 0 (mrow k)).sA 0 (va_up (mrow k) (360 + k) (nI (10 * k))) := by rw [zMo.sA_sA]; rfl
    rw [e] at hh
    exact hh
theorem c_M {E : zE} {σ : zH} {b : Nat} (ho : σ b = some (.inr (8, [.null, .null, .null, .long 0, .long 0, .null, .null, .null, .int 0, .null, .int 0, .int 0, .null, .int 0, .int 0, .int 0, .null, .null, .int 0, .null, .long 0]))) (hz : E.z ≤ b) : zCX E YM_init 2 11 2719 [.ref b] (b + 1) σ (b + 12) (fun τ => ∃ τ0, zsm σ τ0 b (b + 12) ∧ τ = mw τ0 b M0) := by
  refine zMet.of oM_init (by decide +kernel) rfl (Nat.le_of_ble_eq_true rfl) ?_
  have zall : zsm σ σ b (b + 12) := zsm.rfl'
  refine zj_aload_n 0 rfl rfl rfl ?_
  refine zj_oinit 1 rfl rfl (zt 834 (by decide +kernel) rfl) (zt 91 (by decide +kernel) rfl) (zt 92 (by decide +kernel) rfl) rfl rfl ?_
  refine zj_aload_n 2 rfl rfl rfl ?_
  refine zj_sipush 3 (818) rfl rfl (by decide) ?_
  refine zj_newaG (m := b + 1) (m' := b + 2) 4 0 818 (.inl (fun _ => 0)) rfl rfl rfl (by decide) (zt 116 (by decide +kernel) rfl) (fun cA => by rw [vp_cell_i]; rfl) rfl (by decide) (by decide) rfl rfl (by omega) rfl rfl (fun τ z h1 => ?_)
  have ho := (z _ (by omega)).trans ho
  have zall := zall.trans (z.wide (lo' := b) (hi' := b + 12) (by omega) (by omega))
  refine zj_putFG (fs' := [.ref (b + 1), .null, .null, .long 0, .long 0, .null, .null, .null, .int 0, .null, .int 0, .int 0, .null, .int 0, .int 0, .int 0, .null, .null, .int 0, .null, .long 0]) 5 rfl rfl ho rfl rfl rfl rfl rfl rfl rfl (fun τ z hon => ?_)
  have h1 := (z _ (by omega)).trans h1
  have zall := zall.trans (z.wide (lo' := b) (hi' := b + 12) (by omega) (by omega))
  have ho := hon
  refine zj_aload_n 6 rfl rfl rfl ?_
  refine zj_sipush 7 (1636) rfl rfl (by decide) ?_
  refine zj_newaG (m := b + 2) (m' := b + 3) 8 0 1636 (.inl (fun _ => 0)) rfl rfl rfl (by decide) (zt 116 (by decide +kernel) rfl) (fun cA => by rw [vp_cell_i]; rfl) rfl (by decide) (by decide) rfl rfl (by omega) rfl rfl (fun τ z h2 => ?_)
  have ho := (z _ (by omega)).trans ho
  have h1 := (z _ (by omega)).trans h1
  have zall := zall.trans (z.wide (lo' := b) (hi' := b + 12) (by omega) (by omega))
  refine zj_putFG (fs' := [.ref (b + 1), .ref (b + 2), .null, .long 0, .long 0, .null, .null, .null, .int 0, .null, .int 0, .int 0, .null, .int 0, .int 0, .int 0, .null, .null, .int 0, .null, .long 0]) 9 rfl rfl ho rfl rfl rfl rfl rfl rfl rfl (fun τ z hon => ?_)
  have h1 := (z _ (by omega)).trans h1
  have h2 := (z _ (by omega)).trans h2
  have zall := zall.trans (z.wide (lo' := b) (hi' := b + 12) (by omega) (by omega))
  have ho := hon
  refine zj_aload_n 10 rfl rfl rfl ?_
  refine zj_iconst 11 (2) rfl rfl (by decide) ?_
  refine zj_newaG (m := b + 3) (m' := b + 4) 12 2 2 (.inl (fun _ => 0)) rfl rfl rfl (by decide) (zt 283 (by decide +kernel) rfl) (fun cA => by rw [vp_cell_i]; rfl) rfl (by decide) (by decide) rfl rfl (by omega) rfl rfl (fun τ z h3 => ?_)
  have ho := (z _ (by omega)).trans ho
  have h1 := (z _ (by omega)).trans h1
  have h2 := (z _ (by omega)).trans h2
  have zall := zall.trans (z.wide (lo' := b) (hi' := b + 12) (by omega) (by omega))
  refine zj_putFG (fs' := [.ref (b + 1), .ref (b + 2), .ref (b + 3), .long 0, .long 0, .null, .null, .null, .int 0, .null, .int 0, .int 0, .null, .int 0, .int 0, .int 0, .null, .null, .int 0, .null, .long 0]) 13 rfl rfl ho rfl rfl rfl rfl rfl rfl rfl (fun τ z hon => ?_)
  have h1 := (z _ (by omega)).trans h1
  have h2 := (z _ (by omega)).trans h2
  have h3 := (z _ (by omega)).trans h3
  have zall := zall.trans (z.wide (lo' := b) (hi' := b + 12) (by omega) (by omega))
  have ho := hon
  refine zj_aload_n 14 rfl rfl rfl ?_
  refine zj_bipush 15 (81) rfl rfl (by decide) ?_
  refine zj_newaG (m := b + 4) (m' := b + 5) 16 0 81 (.inl (fun _ => 0)) rfl rfl rfl (by decide) (zt 116 (by decide +kernel) rfl) (fun cA => by rw [vp_cell_i]; rfl) rfl (by decide) (by decide) rfl rfl (by omega) rfl rfl (fun τ z h4 => ?_)
  have ho := (z _ (by omega)).trans ho
  have h1 := (z _ (by omega)).trans h1
  have h2 := (z _ (by omega)).trans h2
  have h3 := (z _ (by omega)).trans h3
  have zall := zall.trans (z.wide (lo' := b) (hi' := b + 12) (by omega) (by omega))
  refine zj_putFG (fs' := [.ref (b + 1), .ref (b + 2), .ref (b + 3), .long 0, .long 0, .ref (b + 4), .null, .null, .int 0, .null, .int 0, .int 0, .null, .int 0, .int 0, .int 0, .null, .null, .int 0, .null, .long 0]) 17 rfl rfl ho rfl rfl rfl rfl rfl rfl rfl (fun τ z hon => ?_)
  have h1 := (z _ (by omega)).trans h1
  have h2 := (z _ (by omega)).trans h2
  have h3 := (z _ (by omega)).trans h3
  have h4 := (z _ (by omega)).trans h4
  have zall := zall.trans (z.wide (lo' := b) (hi' := b + 12) (by omega) (by omega))
  have ho := hon
  refine zj_aload_n 18 rfl rfl rfl ?_
  refine zj_bipush 19 (40) rfl rfl (by decide) ?_
  refine zj_newaG (m := b + 5) (m' := b + 6) 20 0 40 (.inl (fun _ => 0)) rfl rfl rfl (by decide) (zt 116 (by decide +kernel) rfl) (fun cA => by rw [vp_cell_i]; rfl) rfl (by decide) (by decide) rfl rfl (by omega) rfl rfl (fun τ z h5 => ?_)
  have ho := (z _ (by omega)).trans ho
  have h1 := (z _ (by omega)).trans h1
  have h2 := (z _ (by omega)).trans h2
  have h3 := (z _ (by omega)).trans h3
  have h4 := (z _ (by omega)).trans h4
  have zall := zall.trans (z.wide (lo' := b) (hi' := b + 12) (by omega) (by omega))
  refine zj_putFG (fs' := [.ref (b + 1), .ref (b + 2), .ref (b + 3), .long 0, .long 0, .ref (b + 4), .ref (b + 5), .null, .int 0, .null, .int 0, .int 0, .null, .int 0, .int 0, .int 0, .null, .null, .int 0, .null, .long 0]) 21 rfl rfl ho rfl rfl rfl rfl rfl rfl rfl (fun τ z hon => ?_)
  have h1 := (z _ (by omega)).trans h1
  have h2 := (z _ (by omega)).trans h2
  have h3 := (z _ (by omega)).trans h3
  have h4 := (z _ (by omega)).trans h4
  have h5 := (z _ (by omega)).trans h5
  have zall := zall.trans (z.wide (lo' := b) (hi' := b + 12) (by omega) (by omega))
  have ho := hon
  refine zj_aload_n 22 rfl rfl rfl ?_
  refine zj_bipush 23 (40) rfl rfl (by decide) ?_
  refine zj_newaG (m := b + 6) (m' := b + 7) 24 1 40 (.inr (.inl (fun _ => 0))) rfl rfl rfl (by decide) (zt 301 (by decide +kernel) rfl) (fun cA => by rw [vp_cell_l]; rfl) rfl (by decide) (by decide) rfl rfl (by omega) rfl rfl (fun τ z h6 => ?_)
  have ho := (z _ (by omega)).trans ho
  have h1 := (z _ (by omega)).trans h1
  have h2 := (z _ (by omega)).trans h2
  have h3 := (z _ (by omega)).trans h3
  have h4 := (z _ (by omega)).trans h4
  have h5 := (z _ (by omega)).trans h5
  have zall := zall.trans (z.wide (lo' := b) (hi' := b + 12) (by omega) (by omega))
  refine zj_putFG (fs' := [.ref (b + 1), .ref (b + 2), .ref (b + 3), .long 0, .long 0, .ref (b + 4), .ref (b + 5), .ref (b + 6), .int 0, .null, .int 0, .int 0, .null, .int 0, .int 0, .int 0, .null, .null, .int 0, .null, .long 0]) 25 rfl rfl ho rfl rfl rfl rfl rfl rfl rfl (fun τ z hon => ?_)
  have h1 := (z _ (by omega)).trans h1
  have h2 := (z _ (by omega)).trans h2
  have h3 := (z _ (by omega)).trans h3
  have h4 := (z _ (by omega)).trans h4
  have h5 := (z _ (by omega)).trans h5
  have h6 := (z _ (by omega)).trans h6
  have zall := zall.trans (z.wide (lo' := b) (hi' := b + 12) (by omega) (by omega))
  have ho := hon
  refine zj_aload_n 26 rfl rfl rfl ?_
  refine zj_bipush 27 (41) rfl rfl (by decide) ?_
  refine zj_newaG (m := b + 7) (m' := b + 8) 28 0 41 (.inl (fun _ => 0)) rfl rfl rfl (by decide) (zt 116 (by decide +kernel) rfl) (fun cA => by rw [vp_cell_i]; rfl) rfl (by decide) (by decide) rfl rfl (by omega) rfl rfl (fun τ z h7 => ?_)
  have ho := (z _ (by omega)).trans ho
  have h1 := (z _ (by omega)).trans h1
  have h2 := (z _ (by omega)).trans h2
  have h3 := (z _ (by omega)).trans h3
  have h4 := (z _ (by omega)).trans h4
  have h5 := (z _ (by omega)).trans h5
  have h6 := (z _ (by omega)).trans h6
  have zall := zall.trans (z.wide (lo' := b) (hi' := b + 12) (by omega) (by omega))
  refine zj_putFG (fs' := [.ref (b + 1), .ref (b + 2), .ref (b + 3), .long 0, .long 0, .ref (b + 4), .ref (b + 5), .ref (b + 6), .int 0, .ref (b + 7), .int 0, .int 0, .null, .int 0, .int 0, .int 0, .null, .null, .int 0, .null, .long 0]) 29 rfl rfl ho rfl rfl rfl rfl rfl rfl rfl (fun τ z hon => ?_)
  have h1 := (z _ (by omega)).trans h1
  have h2 := (z _ (by omega)).trans h2
  have h3 := (z _ (by omega)).trans h3
  have h4 := (z _ (by omega)).trans h4
  have h5 := (z _ (by omega)).trans h5
  have h6 := (z _ (by omega)).trans h6
  have h7 := (z _ (by omega)).trans h7
  have zall := zall.trans (z.wide (lo' := b) (hi' := b + 12) (by omega) (by omega))
  have ho := hon
  refine zj_aload_n 30 rfl rfl rfl ?_
  refine zj_bipush 31 (10) rfl rfl (by decide) ?_
  refine zj_newaG (m := b + 8) (m' := b + 9) 32 2 10 (.inl (fun _ => 0)) rfl rfl rfl (by decide) (zt 283 (by decide +kernel) rfl) (fun cA => by rw [vp_cell_i]; rfl) rfl (by decide) (by decide) rfl rfl (by omega) rfl rfl (fun τ z h8 => ?_)
  have ho := (z _ (by omega)).trans ho
  have h1 := (z _ (by omega)).trans h1
  have h2 := (z _ (by omega)).trans h2
  have h3 := (z _ (by omega)).trans h3
  have h4 := (z _ (by omega)).trans h4
  have h5 := (z _ (by omega)).trans h5
  have h6 := (z _ (by omega)).trans h6
  have h7 := (z _ (by omega)).trans h7
  have zall := zall.trans (z.wide (lo' := b) (hi' := b + 12) (by omega) (by omega))
  refine zj_putFG (fs' := [.ref (b + 1), .ref (b + 2), .ref (b + 3), .long 0, .long 0, .ref (b + 4), .ref (b + 5), .ref (b + 6), .int 0, .ref (b + 7), .int 0, .int 0, .ref (b + 8), .int 0, .int 0, .int 0, .null, .null, .int 0, .null, .long 0]) 33 rfl rfl ho rfl rfl rfl rfl rfl rfl rfl (fun τ z hon => ?_)
  have h1 := (z _ (by omega)).trans h1
  have h2 := (z _ (by omega)).trans h2
  have h3 := (z _ (by omega)).trans h3
  have h4 := (z _ (by omega)).trans h4
  have h5 := (z _ (by omega)).trans h5
  have h6 := (z _ (by omega)).trans h6
  have h7 := (z _ (by omega)).trans h7
  have h8 := (z _ (by omega)).trans h8
  have zall := zall.trans (z.wide (lo' := b) (hi' := b + 12) (by omega) (by omega))
  have ho := hon
  refine zj_aload_n 34 rfl rfl rfl ?_
  refine zj_bipush 35 (6) rfl rfl (by decide) ?_
  refine zj_newaG (m := b + 9) (m' := b + 10) 36 1 6 (.inr (.inl (fun _ => 0))) rfl rfl rfl (by decide) (zt 301 (by decide +kernel) rfl) (fun cA => by rw [vp_cell_l]; rfl) rfl (by decide) (by decide) rfl rfl (by omega) rfl rfl (fun τ z h9 => ?_)
  have ho := (z _ (by omega)).trans ho
  have h1 := (z _ (by omega)).trans h1
  have h2 := (z _ (by omega)).trans h2
  have h3 := (z _ (by omega)).trans h3
  have h4 := (z _ (by omega)).trans h4
  have h5 := (z _ (by omega)).trans h5
  have h6 := (z _ (by omega)).trans h6
  have h7 := (z _ (by omega)).trans h7
  have h8 := (z _ (by omega)).trans h8
  have zall := zall.trans (z.wide (lo' := b) (hi' := b + 12) (by omega) (by omega))
  refine zj_putFG (fs' := [.ref (b + 1), .ref (b + 2), .ref (b + 3), .long 0, .long 0, .ref (b + 4), .ref (b + 5), .ref (b + 6), .int 0, .ref (b + 7), .int 0, .int 0, .ref (b + 8), .int 0, .int 0, .int 0, .ref (b + 9), .null, .int 0, .null, .long 0]) 37 rfl rfl ho rfl rfl rfl rfl rfl rfl rfl (fun τ z hon => ?_)
  have h1 := (z _ (by omega)).trans h1
  have h2 := (z _ (by omega)).trans h2
  have h3 := (z _ (by omega)).trans h3
  have h4 := (z _ (by omega)).trans h4
  have h5 := (z _ (by omega)).trans h5
  have h6 := (z _ (by omega)).trans h6
  have h7 := (z _ (by omega)).trans h7
  have h8 := (z _ (by omega)).trans h8
  have h9 := (z _ (by omega)).trans h9
  have zall := zall.trans (z.wide (lo' := b) (hi' := b + 12) (by omega) (by omega))
  have ho := hon
  refine zj_aload_n 38 rfl rfl rfl ?_
  refine zj_bipush 39 (41) rfl rfl (by decide) ?_
  refine zj_newaG (m := b + 10) (m' := b + 11) 40 1 41 (.inr (.inl (fun _ => 0))) rfl rfl rfl (by decide) (zt 301 (by decide +kernel) rfl) (fun cA => by rw [vp_cell_l]; rfl) rfl (by decide) (by decide) rfl rfl (by omega) rfl rfl (fun τ z h10 => ?_)
  have ho := (z _ (by omega)).trans ho
  have h1 := (z _ (by omega)).trans h1
  have h2 := (z _ (by omega)).trans h2
  have h3 := (z _ (by omega)).trans h3
  have h4 := (z _ (by omega)).trans h4
  have h5 := (z _ (by omega)).trans h5
  have h6 := (z _ (by omega)).trans h6
  have h7 := (z _ (by omega)).trans h7
  have h8 := (z _ (by omega)).trans h8
  have h9 := (z _ (by omega)).trans h9
  have zall := zall.trans (z.wide (lo' := b) (hi' := b + 12) (by omega) (by omega))
  refine zj_putFG (fs' := [.ref (b + 1), .ref (b + 2), .ref (b + 3), .long 0, .long 0, .ref (b + 4), .ref (b + 5), .ref (b + 6), .int 0, .ref (b + 7), .int 0, .int 0, .ref (b + 8), .int 0, .int 0, .int 0, .ref (b + 9), .ref (b + 10), .int 0, .null, .long 0]) 41 rfl rfl ho rfl rfl rfl rfl rfl rfl rfl (fun τ z hon => ?_)
  have h1 := (z _ (by omega)).trans h1
  have h2 := (z _ (by omega)).trans h2
  have h3 := (z _ (by omega)).trans h3
  have h4 := (z _ (by omega)).trans h4
  have h5 := (z _ (by omega)).trans h5
  have h6 := (z _ (by omega)).trans h6
  have h7 := (z _ (by omega)).trans h7
  have h8 := (z _ (by omega)).trans h8
  have h9 := (z _ (by omega)).trans h9
  have h10 := (z _ (by omega)).trans h10
  have zall := zall.trans (z.wide (lo' := b) (hi' := b + 12) (by omega) (by omega))
  have ho := hon
  refine zj_aload_n 42 rfl rfl rfl ?_
  refine zj_iconst 43 (4) rfl rfl (by decide) ?_
  refine zj_newaG (m := b + 11) (m' := b + 12) 44 0 4 (.inl (fun _ => 0)) rfl rfl rfl (by decide) (zt 116 (by decide +kernel) rfl) (fun cA => by rw [vp_cell_i]; rfl) rfl (by decide) (by decide) rfl rfl (by omega) rfl rfl (fun τ z h11 => ?_)
  have ho := (z _ (by omega)).trans ho
  have h1 := (z _ (by omega)).trans h1
  have h2 := (z _ (by omega)).trans h2
  have h3 := (z _ (by omega)).trans h3
  have h4 := (z _ (by omega)).trans h4
  have h5 := (z _ (by omega)).trans h5
  have h6 := (z _ (by omega)).trans h6
  have h7 := (z _ (by omega)).trans h7
  have h8 := (z _ (by omega)).trans h8
  have h9 := (z _ (by omega)).trans h9
  have h10 := (z _ (by omega)).trans h10
  have zall := zall.trans (z.wide (lo' := b) (hi' := b + 12) (by omega) (by omega))
  refine zj_putFG (fs' := [.ref (b + 1), .ref (b + 2), .ref (b + 3), .long 0, .long 0, .ref (b + 4), .ref (b + 5), .ref (b + 6), .int 0, .ref (b + 7), .int 0, .int 0, .ref (b + 8), .int 0, .int 0, .int 0, .ref (b + 9), .ref (b + 10), .int 0, .ref (b + 11), .long 0]) 45 rfl rfl ho rfl rfl rfl rfl rfl rfl rfl (fun τ z hon => ?_)
  have h1 := (z _ (by omega)).trans h1
  have h2 := (z _ (by omega)).trans h2
  have h3 := (z _ (by omega)).trans h3
  have h4 := (z _ (by omega)).trans h4
  have h5 := (z _ (by omega)).trans h5
  have h6 := (z _ (by omega)).trans h6
  have h7 := (z _ (by omega)).trans h7
  have h8 := (z _ (by omega)).trans h8
  have h9 := (z _ (by omega)).trans h9
  have h10 := (z _ (by omega)).trans h10
  have h11 := (z _ (by omega)).trans h11
  have zall := zall.trans (z.wide (lo' := b) (hi' := b + 12) (by omega) (by omega))
  have ho := hon
  have em : mw τ b Z0 = τ := mw_id ho h1 h2 h3 h4 h5 h6 h7 h8 h9 h10 h11
  have em2 : τ = mw τ b (Z0.sA 0 (mrow 0)) := by rw [show mrow 0 = Z0.1 0 from rfl, zMo.sA_self]; exact em.symm
  rw [em2]
  refine zj_iconst 46 (0) rfl rfl (by decide) ?_
  refine zj_istore_n 47 rfl rfl ?_
  exact l_Mi ⟨τ, zall, rfl⟩ 8 0 (by omega)
theorem r0_at : ∀ j, j < 818 → r0 j = if 360 ≤ j ∧ j < 368 then nI (10 * (j - 360)) else if j = 779 then 3 else if j = 817 then 2 else 0 := by decide +kernel
theorem r0_z {j : Nat} (h : j < 818) (h1 : ¬ (360 ≤ j ∧ j < 368)) (h2 : ¬ j = 779) (h3 : ¬ j = 817) : r0 j = 0 := by rw [r0_at j h, if_neg h1, if_neg h2, if_neg h3]
theorem zr00 {n : Int} (h : 0 < n) : zr 0 n := ⟨by decide, by rw [show (0 : Int32).toInt = 0 from rfl]; exact h⟩
theorem st0 : stI S0 r0 := by
  refine ⟨0, 0, 0, 0, fun _ => 0, fun m => 10 * m, ⟨⟨?_, by decide⟩, ⟨?_, by decide⟩, ⟨?_, by decide⟩, ⟨?_, by decide⟩, fun l hl => ⟨?_, by show (0 : Nat) ≤ 40; decide⟩, fun m hm => ⟨?_, by show 10 * m < 81; omega⟩, fun o ho => absurd ho (by omega), fun s hs => absurd hs (by omega), fun g hg => absurd hg (by omega)⟩, ⟨fun w hw c hc => ?_, fun s hs i _ _ => ?_, fun s hs => absurd hs (by omega)⟩, fun l hl j hj => ?_, fun w hw => ⟨fun c hc => ?_, fun i hi => ?_⟩, ?_, fun l hl => ⟨rfl, fun j hj => ?_, rfl, Or.inl rfl, fun hf => absurd (show nI (10 * 0 + 1) = -1 from hf) (by decide)⟩, ⟨fun k hk => ⟨?_, ?_⟩, fun k hk => ⟨?_, ?_, ?_⟩, fun k hk => ⟨?_, ?_, ?_⟩, ?_, ?_, ?_⟩, ⟨fun k hk => ⟨?_, ?_, ?_⟩, ?_⟩, ?_, ?_⟩
  · exact r0_z (by omega) (by omega) (by omega) (by omega)
  · exact r0_z (by omega) (by omega) (by omega) (by omega)
  · exact r0_z (by omega) (by omega) (by omega) (by omega)
  · exact r0_z (by omega) (by omega) (by omega) (by omega)
  · exact r0_z (by omega) (by omega) (by omega) (by omega)
  · rw [r0_at _ (by omega), if_pos (by omega), Nat.add_sub_cancel_left]
  · rw [r0_z (by omega) (by omega) (by omega) (by omega)]; exact zr00 (by decide)
  · unfold rSl; rw [r0_z (by omega) (by omega) (by omega) (by omega)]; exact zbit_0 i
  · rw [r0_z (by omega) (by omega) (by omega) (by omega)]; exact zr00 (by decide)
  · exact (r0_z (by omega) (by omega) (by omega) (by omega)).symm
  · exact (r0_z (by omega) (by omega) (by omega) (by omega)).symm
  · decide +kernel
  · exact (r0_z (by omega) (by omega) (by omega) (by omega)).symm
  · exact (r0_z (by omega) (by omega) (by omega) (by omega)).symm
  · exact (r0_z (by omega) (by omega) (by omega) (by omega)).symm
  · exact (r0_z (by omega) (by omega) (by omega) (by omega)).symm
  · exact (r0_z (by omega) (by omega) (by omega) (by omega)).symm
  · exact (r0_z (by omega) (by omega) (by omega) (by omega)).symm
  · exact (r0_z (by omega) (by omega) (by omega) (by omega)).symm
  · exact (r0_z (by omega) (by omega) (by omega) (by omega)).symm
  · exact (r0_z (by omega) (by omega) (by omega) (by omega)).symm
  · exact (r0_z (by omega) (by omega) (by omega) (by omega)).symm
  · exact (r0_z (by omega) (by omega) (by omega) (by omega)).symm
  · exact (r0_z (by omega) (by omega) (by omega) (by omega)).symm
  · exact (r0_z (by omega) (by omega) (by omega) (by omega)).symm
  · exact (r0_z (by omega) (by omega) (by omega) (by omega)).symm
  · exact (r0_z (by omega) (by omega) (by omega) (by omega)).symm
  · exact (r0_z (by omega) (by omega) (by omega) (by omega)).symm
  · decide +kernel
  · decide +kernel
theorem inv0 : inv K0 (mCo M0) := ⟨st0, fun i _ => ⟨rfl, Or.inl rfl, fun z => absurd rfl z⟩, rfl, rfl⟩
