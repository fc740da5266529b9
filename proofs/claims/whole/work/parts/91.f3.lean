/-! constructors of the groups -/
theorem c_Wo {E : zE} {σ : zH} {b : Nat} (ho : σ b = some (.inr (6, [.null, .null]))) (hz : E.z ≤ b) : zCX E YWo_init 2 2 90 [.ref b] (b + 1) σ (b + 3) (fun τ => zsm σ τ b (b + 3) ∧ zkwAt τ b Z0) := by
  refine zMet.of oWo_init (by decide +kernel) rfl (Nat.le_of_ble_eq_true rfl) ?_
  have zall : zsm σ σ b (b + 3) := zsm.rfl'
  refine zj_aload_n 0 rfl rfl rfl ?_
  refine zj_oinit 1 rfl rfl (zt 105 (by decide +kernel) rfl) (zt 91 (by decide +kernel) rfl) (zt 92 (by decide +kernel) rfl) rfl rfl ?_
  refine zj_aload_n 2 rfl rfl rfl ?_
  refine zj_bipush 3 (81) rfl rfl (by decide) ?_
  refine zj_newaG (m := b + 1) (m' := b + 2) 4 0 81 (.inl (fun _ => 0)) rfl rfl rfl (by decide) (zt 116 (by decide +kernel) rfl) (fun cA => by rw [vp_cell_i]; rfl) rfl (by decide) (by decide) rfl rfl (by omega) rfl rfl (fun τ z h1 => ?_)
  have ho := (z _ (by omega)).trans ho
  have zall := zall.trans (z.wide (lo' := b) (hi' := b + 3) (by omega) (by omega))
  refine zj_putFG (fs' := [.ref (b + 1), .null]) 5 rfl rfl ho rfl rfl rfl rfl rfl rfl rfl (fun τ z hon => ?_)
  have h1 := (z _ (by omega)).trans h1
  have zall := zall.trans (z.wide (lo' := b) (hi' := b + 3) (by omega) (by omega))
  have ho := hon
  refine zj_aload_n 6 rfl rfl rfl ?_
  refine zj_bipush 7 (9) rfl rfl (by decide) ?_
  refine zj_newaG (m := b + 2) (m' := b + 3) 8 0 9 (.inl (fun _ => 0)) rfl rfl rfl (by decide) (zt 116 (by decide +kernel) rfl) (fun cA => by rw [vp_cell_i]; rfl) rfl (by decide) (by decide) rfl rfl (by omega) rfl rfl (fun τ z h2 => ?_)
  have ho := (z _ (by omega)).trans ho
  have h1 := (z _ (by omega)).trans h1
  have zall := zall.trans (z.wide (lo' := b) (hi' := b + 3) (by omega) (by omega))
  refine zj_putFG (fs' := [.ref (b + 1), .ref (b + 2)]) 9 rfl rfl ho rfl rfl rfl rfl rfl rfl rfl (fun τ z hon => ?_)
  have h1 := (z _ (by omega)).trans h1
  have h2 := (z _ (by omega)).trans h2
  have zall := zall.trans (z.wide (lo' := b) (hi' := b + 3) (by omega) (by omega))
  have ho := hon
  refine zj_return 10 rfl rfl rfl ?_
  exact ⟨rfl, rfl, zall, ⟨ho, h1, h2⟩⟩
theorem c_La {E : zE} {σ : zH} {b : Nat} (ho : σ b = some (.inr (3, [.null, .int 0, .int 0, .null, .int 0, .int 0, .int 0]))) (hz : E.z ≤ b) : zCX E YLa_init 2 2 80 [.ref b] (b + 1) σ (b + 3) (fun τ => zsm σ τ b (b + 3) ∧ zktAt τ b (Z0.sI 1 1)) := by
  refine zMet.of oLa_init (by decide +kernel) rfl (Nat.le_of_ble_eq_true rfl) ?_
  have zall : zsm σ σ b (b + 3) := zsm.rfl'
  refine zj_aload_n 0 rfl rfl rfl ?_
  refine zj_oinit 1 rfl rfl (zt 123 (by decide +kernel) rfl) (zt 91 (by decide +kernel) rfl) (zt 92 (by decide +kernel) rfl) rfl rfl ?_
  refine zj_aload_n 2 rfl rfl rfl ?_
  refine zj_bipush 3 (40) rfl rfl (by decide) ?_
  refine zj_newaG (m := b + 1) (m' := b + 2) 4 0 40 (.inl (fun _ => 0)) rfl rfl rfl (by decide) (zt 116 (by decide +kernel) rfl) (fun cA => by rw [vp_cell_i]; rfl) rfl (by decide) (by decide) rfl rfl (by omega) rfl rfl (fun τ z h1 => ?_)
  have ho := (z _ (by omega)).trans ho
  have zall := zall.trans (z.wide (lo' := b) (hi' := b + 3) (by omega) (by omega))
  refine zj_putFG (fs' := [.ref (b + 1), .int 0, .int 0, .null, .int 0, .int 0, .int 0]) 5 rfl rfl ho rfl rfl rfl rfl rfl rfl rfl (fun τ z hon => ?_)
  have h1 := (z _ (by omega)).trans h1
  have zall := zall.trans (z.wide (lo' := b) (hi' := b + 3) (by omega) (by omega))
  have ho := hon
  refine zj_aload_n 6 rfl rfl rfl ?_
  refine zj_iconst 7 (1) rfl rfl (by decide) ?_
  refine zj_putG (fs' := [.ref (b + 1), .int 0, .int 1, .null, .int 0, .int 0, .int 0]) 8 rfl rfl ho rfl rfl rfl rfl rfl (fun τ z hon => ?_)
  have h1 := (z _ (by omega)).trans h1
  have zall := zall.trans (z.wide (lo' := b) (hi' := b + 3) (by omega) (by omega))
  have ho := hon
  refine zj_aload_n 9 rfl rfl rfl ?_
  refine zj_bipush 10 (40) rfl rfl (by decide) ?_
  refine zj_newaG (m := b + 2) (m' := b + 3) 11 0 40 (.inl (fun _ => 0)) rfl rfl rfl (by decide) (zt 116 (by decide +kernel) rfl) (fun cA => by rw [vp_cell_i]; rfl) rfl (by decide) (by decide) rfl rfl (by omega) rfl rfl (fun τ z h2 => ?_)
  have ho := (z _ (by omega)).trans ho
  have h1 := (z _ (by omega)).trans h1
  have zall := zall.trans (z.wide (lo' := b) (hi' := b + 3) (by omega) (by omega))
  refine zj_putFG (fs' := [.ref (b + 1), .int 0, .int 1, .ref (b + 2), .int 0, .int 0, .int 0]) 12 rfl rfl ho rfl rfl rfl rfl rfl rfl rfl (fun τ z hon => ?_)
  have h1 := (z _ (by omega)).trans h1
  have h2 := (z _ (by omega)).trans h2
  have zall := zall.trans (z.wide (lo' := b) (hi' := b + 3) (by omega) (by omega))
  have ho := hon
  refine zj_return 13 rfl rfl rfl ?_
  exact ⟨rfl, rfl, zall, ⟨ho, h1, h2⟩⟩
theorem c_Bk {E : zE} {σ : zH} {b : Nat} (ho : σ b = some (.inr (0, [.null, .null, .int 0, .null, .null, .null, .int 0, .null, .null, .null, .int 0]))) (hz : E.z ≤ b) : zCX E YBk_init 2 8 244 [.ref b] (b + 1) σ (b + 9) (fun τ => zsm σ τ b (b + 9) ∧ zkbAt τ b Z0) := by
  refine zMet.of oBk_init (by decide +kernel) rfl (Nat.le_of_ble_eq_true rfl) ?_
  have zall : zsm σ σ b (b + 9) := zsm.rfl'
  refine zj_aload_n 0 rfl rfl rfl ?_
  refine zj_oinit 1 rfl rfl (zt 156 (by decide +kernel) rfl) (zt 91 (by decide +kernel) rfl) (zt 92 (by decide +kernel) rfl) rfl rfl ?_
  refine zj_aload_n 2 rfl rfl rfl ?_
  refine zj_bipush 3 (8) rfl rfl (by decide) ?_
  refine zj_newaG (m := b + 1) (m' := b + 2) 4 0 8 (.inl (fun _ => 0)) rfl rfl rfl (by decide) (zt 116 (by decide +kernel) rfl) (fun cA => by rw [vp_cell_i]; rfl) rfl (by decide) (by decide) rfl rfl (by omega) rfl rfl (fun τ z h1 => ?_)
  have ho := (z _ (by omega)).trans ho
  have zall := zall.trans (z.wide (lo' := b) (hi' := b + 9) (by omega) (by omega))
  refine zj_putFG (fs' := [.ref (b + 1), .null, .int 0, .null, .null, .null, .int 0, .null, .null, .null, .int 0]) 5 rfl rfl ho rfl rfl rfl rfl rfl rfl rfl (fun τ z hon => ?_)
  have h1 := (z _ (by omega)).trans h1
  have zall := zall.trans (z.wide (lo' := b) (hi' := b + 9) (by omega) (by omega))
  have ho := hon
  refine zj_aload_n 6 rfl rfl rfl ?_
  refine zj_bipush 7 (8) rfl rfl (by decide) ?_
  refine zj_newaG (m := b + 2) (m' := b + 3) 8 0 8 (.inl (fun _ => 0)) rfl rfl rfl (by decide) (zt 116 (by decide +kernel) rfl) (fun cA => by rw [vp_cell_i]; rfl) rfl (by decide) (by decide) rfl rfl (by omega) rfl rfl (fun τ z h2 => ?_)
  have ho := (z _ (by omega)).trans ho
  have h1 := (z _ (by omega)).trans h1
  have zall := zall.trans (z.wide (lo' := b) (hi' := b + 9) (by omega) (by omega))
  refine zj_putFG (fs' := [.ref (b + 1), .ref (b + 2), .int 0, .null, .null, .null, .int 0, .null, .null, .null, .int 0]) 9 rfl rfl ho rfl rfl rfl rfl rfl rfl rfl (fun τ z hon => ?_)
  have h1 := (z _ (by omega)).trans h1
  have h2 := (z _ (by omega)).trans h2
  have zall := zall.trans (z.wide (lo' := b) (hi' := b + 9) (by omega) (by omega))
  have ho := hon
  refine zj_aload_n 10 rfl rfl rfl ?_
  refine zj_bipush 11 (16) rfl rfl (by decide) ?_
  refine zj_newaG (m := b + 3) (m' := b + 4) 12 0 16 (.inl (fun _ => 0)) rfl rfl rfl (by decide) (zt 116 (by decide +kernel) rfl) (fun cA => by rw [vp_cell_i]; rfl) rfl (by decide) (by decide) rfl rfl (by omega) rfl rfl (fun τ z h3 => ?_)
  have ho := (z _ (by omega)).trans ho
  have h1 := (z _ (by omega)).trans h1
  have h2 := (z _ (by omega)).trans h2
  have zall := zall.trans (z.wide (lo' := b) (hi' := b + 9) (by omega) (by omega))
  refine zj_putFG (fs' := [.ref (b + 1), .ref (b + 2), .int 0, .ref (b + 3), .null, .null, .int 0, .null, .null, .null, .int 0]) 13 rfl rfl ho rfl rfl rfl rfl rfl rfl rfl (fun τ z hon => ?_)
  have h1 := (z _ (by omega)).trans h1
  have h2 := (z _ (by omega)).trans h2
  have h3 := (z _ (by omega)).trans h3
  have zall := zall.trans (z.wide (lo' := b) (hi' := b + 9) (by omega) (by omega))
  have ho := hon
  refine zj_aload_n 14 rfl rfl rfl ?_
  refine zj_bipush 15 (16) rfl rfl (by decide) ?_
  refine zj_newaG (m := b + 4) (m' := b + 5) 16 0 16 (.inl (fun _ => 0)) rfl rfl rfl (by decide) (zt 116 (by decide +kernel) rfl) (fun cA => by rw [vp_cell_i]; rfl) rfl (by decide) (by decide) rfl rfl (by omega) rfl rfl (fun τ z h4 => ?_)
  have ho := (z _ (by omega)).trans ho
  have h1 := (z _ (by omega)).trans h1
  have h2 := (z _ (by omega)).trans h2
  have h3 := (z _ (by omega)).trans h3
  have zall := zall.trans (z.wide (lo' := b) (hi' := b + 9) (by omega) (by omega))
  refine zj_putFG (fs' := [.ref (b + 1), .ref (b + 2), .int 0, .ref (b + 3), .ref (b + 4), .null, .int 0, .null, .null, .null, .int 0]) 17 rfl rfl ho rfl rfl rfl rfl rfl rfl rfl (fun τ z hon => ?_)
  have h1 := (z _ (by omega)).trans h1
  have h2 := (z _ (by omega)).trans h2
  have h3 := (z _ (by omega)).trans h3
  have h4 := (z _ (by omega)).trans h4
  have zall := zall.trans (z.wide (lo' := b) (hi' := b + 9) (by omega) (by omega))
  have ho := hon
  refine zj_aload_n 18 rfl rfl rfl ?_
  refine zj_bipush 19 (16) rfl rfl (by decide) ?_
  refine zj_newaG (m := b + 5) (m' := b + 6) 20 0 16 (.inl (fun _ => 0)) rfl rfl rfl (by decide) (zt 116 (by decide +kernel) rfl) (fun cA => by rw [vp_cell_i]; rfl) rfl (by decide) (by decide) rfl rfl (by omega) rfl rfl (fun τ z h5 => ?_)
  have ho := (z _ (by omega)).trans ho
  have h1 := (z _ (by omega)).trans h1
  have h2 := (z _ (by omega)).trans h2
  have h3 := (z _ (by omega)).trans h3
  have h4 := (z _ (by omega)).trans h4
  have zall := zall.trans (z.wide (lo' := b) (hi' := b + 9) (by omega) (by omega))
  refine zj_putFG (fs' := [.ref (b + 1), .ref (b + 2), .int 0, .ref (b + 3), .ref (b + 4), .ref (b + 5), .int 0, .null, .null, .null, .int 0]) 21 rfl rfl ho rfl rfl rfl rfl rfl rfl rfl (fun τ z hon => ?_)
  have h1 := (z _ (by omega)).trans h1
  have h2 := (z _ (by omega)).trans h2
  have h3 := (z _ (by omega)).trans h3
  have h4 := (z _ (by omega)).trans h4
  have h5 := (z _ (by omega)).trans h5
  have zall := zall.trans (z.wide (lo' := b) (hi' := b + 9) (by omega) (by omega))
  have ho := hon
  refine zj_aload_n 22 rfl rfl rfl ?_
  refine zj_bipush 23 (60) rfl rfl (by decide) ?_
  refine zj_newaG (m := b + 6) (m' := b + 7) 24 0 60 (.inl (fun _ => 0)) rfl rfl rfl (by decide) (zt 116 (by decide +kernel) rfl) (fun cA => by rw [vp_cell_i]; rfl) rfl (by decide) (by decide) rfl rfl (by omega) rfl rfl (fun τ z h6 => ?_)
  have ho := (z _ (by omega)).trans ho
  have h1 := (z _ (by omega)).trans h1
  have h2 := (z _ (by omega)).trans h2
  have h3 := (z _ (by omega)).trans h3
  have h4 := (z _ (by omega)).trans h4
  have h5 := (z _ (by omega)).trans h5
  have zall := zall.trans (z.wide (lo' := b) (hi' := b + 9) (by omega) (by omega))
  refine zj_putFG (fs' := [.ref (b + 1), .ref (b + 2), .int 0, .ref (b + 3), .ref (b + 4), .ref (b + 5), .int 0, .ref (b + 6), .null, .null, .int 0]) 25 rfl rfl ho rfl rfl rfl rfl rfl rfl rfl (fun τ z hon => ?_)
  have h1 := (z _ (by omega)).trans h1
  have h2 := (z _ (by omega)).trans h2
  have h3 := (z _ (by omega)).trans h3
  have h4 := (z _ (by omega)).trans h4
  have h5 := (z _ (by omega)).trans h5
  have h6 := (z _ (by omega)).trans h6
  have zall := zall.trans (z.wide (lo' := b) (hi' := b + 9) (by omega) (by omega))
  have ho := hon
  refine zj_aload_n 26 rfl rfl rfl ?_
  refine zj_bipush 27 (60) rfl rfl (by decide) ?_
  refine zj_newaG (m := b + 7) (m' := b + 8) 28 0 60 (.inl (fun _ => 0)) rfl rfl rfl (by decide) (zt 116 (by decide +kernel) rfl) (fun cA => by rw [vp_cell_i]; rfl) rfl (by decide) (by decide) rfl rfl (by omega) rfl rfl (fun τ z h7 => ?_)
  have ho := (z _ (by omega)).trans ho
  have h1 := (z _ (by omega)).trans h1
  have h2 := (z _ (by omega)).trans h2
  have h3 := (z _ (by omega)).trans h3
  have h4 := (z _ (by omega)).trans h4
  have h5 := (z _ (by omega)).trans h5
  have h6 := (z _ (by omega)).trans h6
  have zall := zall.trans (z.wide (lo' := b) (hi' := b + 9) (by omega) (by omega))
  refine zj_putFG (fs' := [.ref (b + 1), .ref (b + 2), .int 0, .ref (b + 3), .ref (b + 4), .ref (b + 5), .int 0, .ref (b + 6), .ref (b + 7), .null, .int 0]) 29 rfl rfl ho rfl rfl rfl rfl rfl rfl rfl (fun τ z hon => ?_)
  have h1 := (z _ (by omega)).trans h1
  have h2 := (z _ (by omega)).trans h2
  have h3 := (z _ (by omega)).trans h3
  have h4 := (z _ (by omega)).trans h4
  have h5 := (z _ (by omega)).trans h5
  have h6 := (z _ (by omega)).trans h6
  have h7 := (z _ (by omega)).trans h7
  have zall := zall.trans (z.wide (lo' := b) (hi' := b + 9) (by omega) (by omega))
  have ho := hon
  refine zj_aload_n 30 rfl rfl rfl ?_
  refine zj_bipush 31 (60) rfl rfl (by decide) ?_
  refine zj_newaG (m := b + 8) (m' := b + 9) 32 0 60 (.inl (fun _ => 0)) rfl rfl rfl (by decide) (zt 116 (by decide +kernel) rfl) (fun cA => by rw [vp_cell_i]; rfl) rfl (by decide) (by decide) rfl rfl (by omega) rfl rfl (fun τ z h8 => ?_)
  have ho := (z _ (by omega)).trans ho
  have h1 := (z _ (by omega)).trans h1
  have h2 := (z _ (by omega)).trans h2
  have h3 := (z _ (by omega)).trans h3
  have h4 := (z _ (by omega)).trans h4
  have h5 := (z _ (by omega)).trans h5
  have h6 := (z _ (by omega)).trans h6
  have h7 := (z _ (by omega)).trans h7
  have zall := zall.trans (z.wide (lo' := b) (hi' := b + 9) (by omega) (by omega))
  refine zj_putFG (fs' := [.ref (b + 1), .ref (b + 2), .int 0, .ref (b + 3), .ref (b + 4), .ref (b + 5), .int 0, .ref (b + 6), .ref (b + 7), .ref (b + 8), .int 0]) 33 rfl rfl ho rfl rfl rfl rfl rfl rfl rfl (fun τ z hon => ?_)
  have h1 := (z _ (by omega)).trans h1
  have h2 := (z _ (by omega)).trans h2
  have h3 := (z _ (by omega)).trans h3
  have h4 := (z _ (by omega)).trans h4
  have h5 := (z _ (by omega)).trans h5
  have h6 := (z _ (by omega)).trans h6
  have h7 := (z _ (by omega)).trans h7
  have h8 := (z _ (by omega)).trans h8
  have zall := zall.trans (z.wide (lo' := b) (hi' := b + 9) (by omega) (by omega))
  have ho := hon
  refine zj_return 34 rfl rfl rfl ?_
  exact ⟨rfl, rfl, zall, ⟨ho, h1, h2, h3, h4, h5, h6, h7, h8⟩⟩
theorem c_Gu {E : zE} {σ : zH} {b : Nat} (ho : σ b = some (.inr (2, [.null, .null, .null, .int 0]))) (hz : E.z ≤ b) : zCX E YGu_init 2 3 36 [.ref b] (b + 1) σ (b + 4) (fun τ => zsm σ τ b (b + 4) ∧ zkgAt τ b Z0) := by
  refine zMet.of oGu_init (by decide +kernel) rfl (Nat.le_of_ble_eq_true rfl) ?_
  have zall : zsm σ σ b (b + 4) := zsm.rfl'
  refine zj_aload_n 0 rfl rfl rfl ?_
  refine zj_oinit 1 rfl rfl (zt 206 (by decide +kernel) rfl) (zt 91 (by decide +kernel) rfl) (zt 92 (by decide +kernel) rfl) rfl rfl ?_
  refine zj_aload_n 2 rfl rfl rfl ?_
  refine zj_bipush 3 (12) rfl rfl (by decide) ?_
  refine zj_newaG (m := b + 1) (m' := b + 2) 4 0 12 (.inl (fun _ => 0)) rfl rfl rfl (by decide) (zt 116 (by decide +kernel) rfl) (fun cA => by rw [vp_cell_i]; rfl) rfl (by decide) (by decide) rfl rfl (by omega) rfl rfl (fun τ z h1 => ?_)
  have ho := (z _ (by omega)).trans ho
  have zall := zall.trans (z.wide (lo' := b) (hi' := b + 4) (by omega) (by omega))
  refine zj_putFG (fs' := [.ref (b + 1), .null, .null, .int 0]) 5 rfl rfl ho rfl rfl rfl rfl rfl rfl rfl (fun τ z hon => ?_)
  have h1 := (z _ (by omega)).trans h1
  have zall := zall.trans (z.wide (lo' := b) (hi' := b + 4) (by omega) (by omega))
  have ho := hon
  refine zj_aload_n 6 rfl rfl rfl ?_
  refine zj_bipush 7 (12) rfl rfl (by decide) ?_
  refine zj_newaG (m := b + 2) (m' := b + 3) 8 0 12 (.inl (fun _ => 0)) rfl rfl rfl (by decide) (zt 116 (by decide +kernel) rfl) (fun cA => by rw [vp_cell_i]; rfl) rfl (by decide) (by decide) rfl rfl (by omega) rfl rfl (fun τ z h2 => ?_)
  have ho := (z _ (by omega)).trans ho
  have h1 := (z _ (by omega)).trans h1
  have zall := zall.trans (z.wide (lo' := b) (hi' := b + 4) (by omega) (by omega))
  refine zj_putFG (fs' := [.ref (b + 1), .ref (b + 2), .null, .int 0]) 9 rfl rfl ho rfl rfl rfl rfl rfl rfl rfl (fun τ z hon => ?_)
  have h1 := (z _ (by omega)).trans h1
  have h2 := (z _ (by omega)).trans h2
  have zall := zall.trans (z.wide (lo' := b) (hi' := b + 4) (by omega) (by omega))
  have ho := hon
  refine zj_aload_n 10 rfl rfl rfl ?_
  refine zj_bipush 11 (12) rfl rfl (by decide) ?_
  refine zj_newaG (m := b + 3) (m' := b + 4) 12 0 12 (.inl (fun _ => 0)) rfl rfl rfl (by decide) (zt 116 (by decide +kernel) rfl) (fun cA => by rw [vp_cell_i]; rfl) rfl (by decide) (by decide) rfl rfl (by omega) rfl rfl (fun τ z h3 => ?_)
  have ho := (z _ (by omega)).trans ho
  have h1 := (z _ (by omega)).trans h1
  have h2 := (z _ (by omega)).trans h2
  have zall := zall.trans (z.wide (lo' := b) (hi' := b + 4) (by omega) (by omega))
  refine zj_putFG (fs' := [.ref (b + 1), .ref (b + 2), .ref (b + 3), .int 0]) 13 rfl rfl ho rfl rfl rfl rfl rfl rfl rfl (fun τ z hon => ?_)
  have h1 := (z _ (by omega)).trans h1
  have h2 := (z _ (by omega)).trans h2
  have h3 := (z _ (by omega)).trans h3
  have zall := zall.trans (z.wide (lo' := b) (hi' := b + 4) (by omega) (by omega))
  have ho := hon
  refine zj_return 14 rfl rfl rfl ?_
  exact ⟨rfl, rfl, zall, ⟨ho, h1, h2, h3⟩⟩
theorem c_Pi {E : zE} {σ : zH} {b : Nat} (ho : σ b = some (.inr (4, [.null, .null, .null, .int 0]))) (hz : E.z ≤ b) : zCX E YPi_init 2 3 262 [.ref b] (b + 1) σ (b + 4) (fun τ => zsm σ τ b (b + 4) ∧ zkpAt τ b Z0) := by
  refine zMet.of oPi_init (by decide +kernel) rfl (Nat.le_of_ble_eq_true rfl) ?_
  have zall : zsm σ σ b (b + 4) := zsm.rfl'
  refine zj_aload_n 0 rfl rfl rfl ?_
  refine zj_oinit 1 rfl rfl (zt 266 (by decide +kernel) rfl) (zt 91 (by decide +kernel) rfl) (zt 92 (by decide +kernel) rfl) rfl rfl ?_
  refine zj_aload_n 2 rfl rfl rfl ?_
  refine zj_bipush 3 (81) rfl rfl (by decide) ?_
  refine zj_newaG (m := b + 1) (m' := b + 2) 4 0 81 (.inl (fun _ => 0)) rfl rfl rfl (by decide) (zt 116 (by decide +kernel) rfl) (fun cA => by rw [vp_cell_i]; rfl) rfl (by decide) (by decide) rfl rfl (by omega) rfl rfl (fun τ z h1 => ?_)
  have ho := (z _ (by omega)).trans ho
  have zall := zall.trans (z.wide (lo' := b) (hi' := b + 4) (by omega) (by omega))
  refine zj_putFG (fs' := [.ref (b + 1), .null, .null, .int 0]) 5 rfl rfl ho rfl rfl rfl rfl rfl rfl rfl (fun τ z hon => ?_)
  have h1 := (z _ (by omega)).trans h1
  have zall := zall.trans (z.wide (lo' := b) (hi' := b + 4) (by omega) (by omega))
  have ho := hon
  refine zj_aload_n 6 rfl rfl rfl ?_
  refine zj_bipush 7 (100) rfl rfl (by decide) ?_
  refine zj_newaG (m := b + 2) (m' := b + 3) 8 0 100 (.inl (fun _ => 0)) rfl rfl rfl (by decide) (zt 116 (by decide +kernel) rfl) (fun cA => by rw [vp_cell_i]; rfl) rfl (by decide) (by decide) rfl rfl (by omega) rfl rfl (fun τ z h2 => ?_)
  have ho := (z _ (by omega)).trans ho
  have h1 := (z _ (by omega)).trans h1
  have zall := zall.trans (z.wide (lo' := b) (hi' := b + 4) (by omega) (by omega))
  refine zj_putFG (fs' := [.ref (b + 1), .ref (b + 2), .null, .int 0]) 9 rfl rfl ho rfl rfl rfl rfl rfl rfl rfl (fun τ z hon => ?_)
  have h1 := (z _ (by omega)).trans h1
  have h2 := (z _ (by omega)).trans h2
  have zall := zall.trans (z.wide (lo' := b) (hi' := b + 4) (by omega) (by omega))
  have ho := hon
  refine zj_aload_n 10 rfl rfl rfl ?_
  refine zj_bipush 11 (81) rfl rfl (by decide) ?_
  refine zj_newaG (m := b + 3) (m' := b + 4) 12 0 81 (.inl (fun _ => 0)) rfl rfl rfl (by decide) (zt 116 (by decide +kernel) rfl) (fun cA => by rw [vp_cell_i]; rfl) rfl (by decide) (by decide) rfl rfl (by omega) rfl rfl (fun τ z h3 => ?_)
  have ho := (z _ (by omega)).trans ho
  have h1 := (z _ (by omega)).trans h1
  have h2 := (z _ (by omega)).trans h2
  have zall := zall.trans (z.wide (lo' := b) (hi' := b + 4) (by omega) (by omega))
  refine zj_putFG (fs' := [.ref (b + 1), .ref (b + 2), .ref (b + 3), .int 0]) 13 rfl rfl ho rfl rfl rfl rfl rfl rfl rfl (fun τ z hon => ?_)
  have h1 := (z _ (by omega)).trans h1
  have h2 := (z _ (by omega)).trans h2
  have h3 := (z _ (by omega)).trans h3
  have zall := zall.trans (z.wide (lo' := b) (hi' := b + 4) (by omega) (by omega))
  have ho := hon
  refine zj_return 14 rfl rfl rfl ?_
  exact ⟨rfl, rfl, zall, ⟨ho, h1, h2, h3⟩⟩
