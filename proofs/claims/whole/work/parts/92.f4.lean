/-! constructors of the eye, the State, the component -/
abbrev mk0 : Nat → Int32 := va_up (va_up (va_up (va_up (va_up (va_up (va_up (va_up (fun _ => 0) 0 0) 1 10) 2 20) 3 30) 4 40) 5 50) 6 60) 7 70
abbrev S0 : zSc := (fun _ => Z0, mk0, fun _ => Z0.sI 1 1, Z0, Z0, 3, 2)
abbrev K0 : zDc := (S0, fun _ => S0, fun _ => 0, Z0, Z0, fun _ => 0, 0, 1)
theorem c_Ey {E : zE} {σ : zH} {b : Nat} (ho : σ b = some (.inr (1, [.null, .null, .null, .int 0, .int 0]))) (hz : E.z ≤ b) : zCX E YEy_init 3 6 313 [.ref b] (b + 1) σ (b + 7) (fun τ => zsm σ τ b (b + 7) ∧ zkeAt τ b Z0 ∧ zkpAt τ (b + 1) Z0) := by
  refine zMet.of oEy_init (by decide +kernel) rfl (Nat.le_of_ble_eq_true rfl) ?_
  have zall : zsm σ σ b (b + 7) := zsm.rfl'
  refine zj_aload_n 0 rfl rfl rfl ?_
  refine zj_oinit 1 rfl rfl (zt 260 (by decide +kernel) rfl) (zt 91 (by decide +kernel) rfl) (zt 92 (by decide +kernel) rfl) rfl rfl ?_
  refine zj_aload_n 2 rfl rfl rfl ?_
  refine zj_newG (ci := 4) (m := b + 1) (m' := b + 2) 3 [.null, .null, .null, .int 0] rfl rfl (by decide) rfl (zt 261 (by decide +kernel) rfl) (zt 262 (by decide +kernel) rfl) (zt 78 (by decide +kernel) rfl) zdf4 rfl rfl (by omega) rfl rfl (fun τ z h1 => ?_)
  have ho := (z _ (by omega)).trans ho
  have zall := zall.trans (z.wide (lo' := b) (hi' := b + 7) (by omega) (by omega))
  refine zj_dup 4 rfl rfl rfl ?_
  refine zj_cC (n' := b + 5) 5 rfl rfl lk_1_11 ckPi_init (c_Pi (b := b + 1) h1 (by omega)) rfl rfl (fun τ hP => ?_)
  obtain ⟨z, g1_0⟩ := hP
  have ho := (z _ (by omega)).trans ho
  have zall := zall.trans (z.wide (lo' := b) (hi' := b + 7) (by omega) (by omega))
  refine zj_putFG (fs' := [.ref (b + 1), .null, .null, .int 0, .int 0]) 6 rfl rfl ho rfl rfl rfl rfl rfl rfl rfl (fun τ z hon => ?_)
  have g1_0 := g1_0.sm z (by omega)
  have zall := zall.trans (z.wide (lo' := b) (hi' := b + 7) (by omega) (by omega))
  have ho := hon
  refine zj_aload_n 7 rfl rfl rfl ?_
  refine zj_bipush 8 (7) rfl rfl (by decide) ?_
  refine zj_newaG (m := b + 5) (m' := b + 6) 9 1 7 (.inr (.inl (fun _ => 0))) rfl rfl rfl (by decide) (zt 301 (by decide +kernel) rfl) (fun cA => by rw [vp_cell_l]; rfl) rfl (by decide) (by decide) rfl rfl (by omega) rfl rfl (fun τ z h5 => ?_)
  have ho := (z _ (by omega)).trans ho
  have g1_0 := g1_0.sm z (by omega)
  have zall := zall.trans (z.wide (lo' := b) (hi' := b + 7) (by omega) (by omega))
  refine zj_putFG (fs' := [.ref (b + 1), .ref (b + 5), .null, .int 0, .int 0]) 10 rfl rfl ho rfl rfl rfl rfl rfl rfl rfl (fun τ z hon => ?_)
  have g1_0 := g1_0.sm z (by omega)
  have h5 := (z _ (by omega)).trans h5
  have zall := zall.trans (z.wide (lo' := b) (hi' := b + 7) (by omega) (by omega))
  have ho := hon
  refine zj_aload_n 11 rfl rfl rfl ?_
  refine zj_bipush 12 (40) rfl rfl (by decide) ?_
  refine zj_newaG (m := b + 6) (m' := b + 7) 13 1 40 (.inr (.inl (fun _ => 0))) rfl rfl rfl (by decide) (zt 301 (by decide +kernel) rfl) (fun cA => by rw [vp_cell_l]; rfl) rfl (by decide) (by decide) rfl rfl (by omega) rfl rfl (fun τ z h6 => ?_)
  have ho := (z _ (by omega)).trans ho
  have g1_0 := g1_0.sm z (by omega)
  have h5 := (z _ (by omega)).trans h5
  have zall := zall.trans (z.wide (lo' := b) (hi' := b + 7) (by omega) (by omega))
  refine zj_putFG (fs' := [.ref (b + 1), .ref (b + 5), .ref (b + 6), .int 0, .int 0]) 14 rfl rfl ho rfl rfl rfl rfl rfl rfl rfl (fun τ z hon => ?_)
  have g1_0 := g1_0.sm z (by omega)
  have h5 := (z _ (by omega)).trans h5
  have h6 := (z _ (by omega)).trans h6
  have zall := zall.trans (z.wide (lo' := b) (hi' := b + 7) (by omega) (by omega))
  have ho := hon
  refine zj_return 15 rfl rfl rfl ?_
  exact ⟨rfl, rfl, zall, ⟨ho, h5, h6⟩, g1_0⟩
theorem c_St {E : zE} {σ : zH} {b : Nat} (ho : σ b = some (.inr (5, [.null, .null, .null, .null, .null, .int 0, .int 0]))) (hz : E.z ≤ b) : zCX E YSt_init 3 40 1027 [.ref b] (b + 1) σ (b + 41) (fun τ => zsm σ τ b (b + 41) ∧ sAt τ b S0) := by
  refine zMet.of oSt_init (by decide +kernel) rfl (Nat.le_of_ble_eq_true rfl) ?_
  have zall : zsm σ σ b (b + 41) := zsm.rfl'
  refine zj_aload_n 0 rfl rfl rfl ?_
  refine zj_oinit 1 rfl rfl (zt 98 (by decide +kernel) rfl) (zt 91 (by decide +kernel) rfl) (zt 92 (by decide +kernel) rfl) rfl rfl ?_
  refine zj_aload_n 2 rfl rfl rfl ?_
  refine zj_iconst 3 (4) rfl rfl (by decide) ?_
  refine zj_anewaG (m := b + 1) (m' := b + 2) 4 3 4 rfl rfl rfl (by decide) (zt 99 (by decide +kernel) rfl) rfl (by decide) rfl rfl (by omega) rfl rfl (fun τ z h1 => ?_)
  have ho := (z _ (by omega)).trans ho
  have zall := zall.trans (z.wide (lo' := b) (hi' := b + 41) (by omega) (by omega))
  refine zj_dup 5 rfl rfl rfl ?_
  refine zj_iconst 6 (0) rfl rfl (by decide) ?_
  refine zj_newG (ci := 6) (m := b + 2) (m' := b + 3) 7 [.null, .null] rfl rfl (by decide) rfl (zt 99 (by decide +kernel) rfl) (zt 101 (by decide +kernel) rfl) (zt 73 (by decide +kernel) rfl) zdf6 rfl rfl (by omega) rfl rfl (fun τ z h2 => ?_)
  have ho := (z _ (by omega)).trans ho
  have h1 := (z _ (by omega)).trans h1
  have zall := zall.trans (z.wide (lo' := b) (hi' := b + 41) (by omega) (by omega))
  refine zj_dup 8 rfl rfl rfl ?_
  refine zj_cC (n' := b + 5) 9 rfl rfl lk_5_11 ckWo_init (c_Wo (b := b + 2) h2 (by omega)) rfl rfl (fun τ hP => ?_)
  obtain ⟨z, g2_0⟩ := hP
  have ho := (z _ (by omega)).trans ho
  have h1 := (z _ (by omega)).trans h1
  have zall := zall.trans (z.wide (lo' := b) (hi' := b + 41) (by omega) (by omega))
  refine zj_aastG (t := 3) (ci := 6) 10 0 rfl rfl h1 g2_0.1 (by decide) (by decide) rfl rfl (by decide) (by decide) (fun τ z h1n => ?_)
  have ho := (z _ (by omega)).trans ho
  have g2_0 := g2_0.sm z (by omega)
  have zall := zall.trans (z.wide (lo' := b) (hi' := b + 41) (by omega) (by omega))
  have h1 := h1n
  refine zj_dup 11 rfl rfl rfl ?_
  refine zj_iconst 12 (1) rfl rfl (by decide) ?_
  refine zj_newG (ci := 6) (m := b + 5) (m' := b + 6) 13 [.null, .null] rfl rfl (by decide) rfl (zt 99 (by decide +kernel) rfl) (zt 101 (by decide +kernel) rfl) (zt 73 (by decide +kernel) rfl) zdf6 rfl rfl (by omega) rfl rfl (fun τ z h5 => ?_)
  have ho := (z _ (by omega)).trans ho
  have h1 := (z _ (by omega)).trans h1
  have g2_0 := g2_0.sm z (by omega)
  have zall := zall.trans (z.wide (lo' := b) (hi' := b + 41) (by omega) (by omega))
  refine zj_dup 14 rfl rfl rfl ?_
  refine zj_cC (n' := b + 8) 15 rfl rfl lk_5_11 ckWo_init (c_Wo (b := b + 5) h5 (by omega)) rfl rfl (fun τ hP => ?_)
  obtain ⟨z, g5_0⟩ := hP
  have ho := (z _ (by omega)).trans ho
  have h1 := (z _ (by omega)).trans h1
  have g2_0 := g2_0.sm z (by omega)
  have zall := zall.trans (z.wide (lo' := b) (hi' := b + 41) (by omega) (by omega))
  refine zj_aastG (t := 3) (ci := 6) 16 1 rfl rfl h1 g5_0.1 (by decide) (by decide) rfl rfl (by decide) (by decide) (fun τ z h1n => ?_)
  have ho := (z _ (by omega)).trans ho
  have g2_0 := g2_0.sm z (by omega)
  have g5_0 := g5_0.sm z (by omega)
  have zall := zall.trans (z.wide (lo' := b) (hi' := b + 41) (by omega) (by omega))
  have h1 := h1n
  refine zj_dup 17 rfl rfl rfl ?_
  refine zj_iconst 18 (2) rfl rfl (by decide) ?_
  refine zj_newG (ci := 6) (m := b + 8) (m' := b + 9) 19 [.null, .null] rfl rfl (by decide) rfl (zt 99 (by decide +kernel) rfl) (zt 101 (by decide +kernel) rfl) (zt 73 (by decide +kernel) rfl) zdf6 rfl rfl (by omega) rfl rfl (fun τ z h8 => ?_)
  have ho := (z _ (by omega)).trans ho
  have h1 := (z _ (by omega)).trans h1
  have g2_0 := g2_0.sm z (by omega)
  have g5_0 := g5_0.sm z (by omega)
  have zall := zall.trans (z.wide (lo' := b) (hi' := b + 41) (by omega) (by omega))
  refine zj_dup 20 rfl rfl rfl ?_
  refine zj_cC (n' := b + 11) 21 rfl rfl lk_5_11 ckWo_init (c_Wo (b := b + 8) h8 (by omega)) rfl rfl (fun τ hP => ?_)
  obtain ⟨z, g8_0⟩ := hP
  have ho := (z _ (by omega)).trans ho
  have h1 := (z _ (by omega)).trans h1
  have g2_0 := g2_0.sm z (by omega)
  have g5_0 := g5_0.sm z (by omega)
  have zall := zall.trans (z.wide (lo' := b) (hi' := b + 41) (by omega) (by omega))
  refine zj_aastG (t := 3) (ci := 6) 22 2 rfl rfl h1 g8_0.1 (by decide) (by decide) rfl rfl (by decide) (by decide) (fun τ z h1n => ?_)
  have ho := (z _ (by omega)).trans ho
  have g2_0 := g2_0.sm z (by omega)
  have g5_0 := g5_0.sm z (by omega)
  have g8_0 := g8_0.sm z (by omega)
  have zall := zall.trans (z.wide (lo' := b) (hi' := b + 41) (by omega) (by omega))
  have h1 := h1n
  refine zj_dup 23 rfl rfl rfl ?_
  refine zj_iconst 24 (3) rfl rfl (by decide) ?_
  refine zj_newG (ci := 6) (m := b + 11) (m' := b + 12) 25 [.null, .null] rfl rfl (by decide) rfl (zt 99 (by decide +kernel) rfl) (zt 101 (by decide +kernel) rfl) (zt 73 (by decide +kernel) rfl) zdf6 rfl rfl (by omega) rfl rfl (fun τ z h11 => ?_)
  have ho := (z _ (by omega)).trans ho
  have h1 := (z _ (by omega)).trans h1
  have g2_0 := g2_0.sm z (by omega)
  have g5_0 := g5_0.sm z (by omega)
  have g8_0 := g8_0.sm z (by omega)
  have zall := zall.trans (z.wide (lo' := b) (hi' := b + 41) (by omega) (by omega))
  refine zj_dup 26 rfl rfl rfl ?_
  refine zj_cC (n' := b + 14) 27 rfl rfl lk_5_11 ckWo_init (c_Wo (b := b + 11) h11 (by omega)) rfl rfl (fun τ hP => ?_)
  obtain ⟨z, g11_0⟩ := hP
  have ho := (z _ (by omega)).trans ho
  have h1 := (z _ (by omega)).trans h1
  have g2_0 := g2_0.sm z (by omega)
  have g5_0 := g5_0.sm z (by omega)
  have g8_0 := g8_0.sm z (by omega)
  have zall := zall.trans (z.wide (lo' := b) (hi' := b + 41) (by omega) (by omega))
  refine zj_aastG (t := 3) (ci := 6) 28 3 rfl rfl h1 g11_0.1 (by decide) (by decide) rfl rfl (by decide) (by decide) (fun τ z h1n => ?_)
  have ho := (z _ (by omega)).trans ho
  have g2_0 := g2_0.sm z (by omega)
  have g5_0 := g5_0.sm z (by omega)
  have g8_0 := g8_0.sm z (by omega)
  have g11_0 := g11_0.sm z (by omega)
  have zall := zall.trans (z.wide (lo' := b) (hi' := b + 41) (by omega) (by omega))
  have h1 := h1n
  refine zj_arrG (fun w => some (b + 2 + 3 * w)) h1 (fun j hj => by
    match j, hj with
    | 0, _ => rfl
    | 1, _ => rfl
    | 2, _ => rfl
    | 3, _ => rfl
    | j + 4, h => exact absurd h (by omega)) (fun τ z h1n => ?_)
  have ho := (z _ (by omega)).trans ho
  have g2_0 := g2_0.sm z (by omega)
  have g5_0 := g5_0.sm z (by omega)
  have g8_0 := g8_0.sm z (by omega)
  have g11_0 := g11_0.sm z (by omega)
  have zall := zall.trans (z.wide (lo' := b) (hi' := b + 41) (by omega) (by omega))
  have h1 := h1n
  refine zj_putFG (fs' := [.ref (b + 1), .null, .null, .null, .null, .int 0, .int 0]) 29 rfl rfl ho rfl rfl rfl rfl rfl rfl rfl (fun τ z hon => ?_)
  have h1 := (z _ (by omega)).trans h1
  have g2_0 := g2_0.sm z (by omega)
  have g5_0 := g5_0.sm z (by omega)
  have g8_0 := g8_0.sm z (by omega)
  have g11_0 := g11_0.sm z (by omega)
  have zall := zall.trans (z.wide (lo' := b) (hi' := b + 41) (by omega) (by omega))
  have ho := hon
  refine zj_aload_n 30 rfl rfl rfl ?_
  refine zj_bipush 31 (8) rfl rfl (by decide) ?_
  refine zj_newaG (m := b + 14) (m' := b + 15) 32 0 8 (.inl (fun _ => 0)) rfl rfl rfl (by decide) (zt 116 (by decide +kernel) rfl) (fun cA => by rw [vp_cell_i]; rfl) rfl (by decide) (by decide) rfl rfl (by omega) rfl rfl (fun τ z h14 => ?_)
  have ho := (z _ (by omega)).trans ho
  have h1 := (z _ (by omega)).trans h1
  have g2_0 := g2_0.sm z (by omega)
  have g5_0 := g5_0.sm z (by omega)
  have g8_0 := g8_0.sm z (by omega)
  have g11_0 := g11_0.sm z (by omega)
  have zall := zall.trans (z.wide (lo' := b) (hi' := b + 41) (by omega) (by omega))
  refine zj_dup 33 rfl rfl rfl ?_
  refine zj_iconst 34 (0) rfl rfl (by decide) ?_
  refine zj_iconst 35 (0) rfl rfl (by decide) ?_
  refine zj_iastG 36 0 rfl rfl h14 rfl (by decide) (by decide) (fun τ z h14n => ?_)
  have ho := (z _ (by omega)).trans ho
  have h1 := (z _ (by omega)).trans h1
  have g2_0 := g2_0.sm z (by omega)
  have g5_0 := g5_0.sm z (by omega)
  have g8_0 := g8_0.sm z (by omega)
  have g11_0 := g11_0.sm z (by omega)
  have zall := zall.trans (z.wide (lo' := b) (hi' := b + 41) (by omega) (by omega))
  have h14 := h14n
  refine zj_dup 37 rfl rfl rfl ?_
  refine zj_iconst 38 (1) rfl rfl (by decide) ?_
  refine zj_bipush 39 (10) rfl rfl (by decide) ?_
  refine zj_iastG 40 1 rfl rfl h14 rfl (by decide) (by decide) (fun τ z h14n => ?_)
  have ho := (z _ (by omega)).trans ho
  have h1 := (z _ (by omega)).trans h1
  have g2_0 := g2_0.sm z (by omega)
  have g5_0 := g5_0.sm z (by omega)
  have g8_0 := g8_0.sm z (by omega)
  have g11_0 := g11_0.sm z (by omega)
  have zall := zall.trans (z.wide (lo' := b) (hi' := b + 41) (by omega) (by omega))
  have h14 := h14n
  refine zj_dup 41 rfl rfl rfl ?_
  refine zj_iconst 42 (2) rfl rfl (by decide) ?_
  refine zj_bipush 43 (20) rfl rfl (by decide) ?_
  refine zj_iastG 44 2 rfl rfl h14 rfl (by decide) (by decide) (fun τ z h14n => ?_)
  have ho := (z _ (by omega)).trans ho
  have h1 := (z _ (by omega)).trans h1
  have g2_0 := g2_0.sm z (by omega)
  have g5_0 := g5_0.sm z (by omega)
  have g8_0 := g8_0.sm z (by omega)
  have g11_0 := g11_0.sm z (by omega)
  have zall := zall.trans (z.wide (lo' := b) (hi' := b + 41) (by omega) (by omega))
  have h14 := h14n
  refine zj_dup 45 rfl rfl rfl ?_
  refine zj_iconst 46 (3) rfl rfl (by decide) ?_
  refine zj_bipush 47 (30) rfl rfl (by decide) ?_
  refine zj_iastG 48 3 rfl rfl h14 rfl (by decide) (by decide) (fun τ z h14n => ?_)
  have ho := (z _ (by omega)).trans ho
  have h1 := (z _ (by omega)).trans h1
  have g2_0 := g2_0.sm z (by omega)
  have g5_0 := g5_0.sm z (by omega)
  have g8_0 := g8_0.sm z (by omega)
  have g11_0 := g11_0.sm z (by omega)
  have zall := zall.trans (z.wide (lo' := b) (hi' := b + 41) (by omega) (by omega))
  have h14 := h14n
  refine zj_dup 49 rfl rfl rfl ?_
  refine zj_iconst 50 (4) rfl rfl (by decide) ?_
  refine zj_bipush 51 (40) rfl rfl (by decide) ?_
  refine zj_iastG 52 4 rfl rfl h14 rfl (by decide) (by decide) (fun τ z h14n => ?_)
  have ho := (z _ (by omega)).trans ho
  have h1 := (z _ (by omega)).trans h1
  have g2_0 := g2_0.sm z (by omega)
  have g5_0 := g5_0.sm z (by omega)
  have g8_0 := g8_0.sm z (by omega)
  have g11_0 := g11_0.sm z (by omega)
  have zall := zall.trans (z.wide (lo' := b) (hi' := b + 41) (by omega) (by omega))
  have h14 := h14n
  refine zj_dup 53 rfl rfl rfl ?_
  refine zj_iconst 54 (5) rfl rfl (by decide) ?_
  refine zj_bipush 55 (50) rfl rfl (by decide) ?_
  refine zj_iastG 56 5 rfl rfl h14 rfl (by decide) (by decide) (fun τ z h14n => ?_)
  have ho := (z _ (by omega)).trans ho
  have h1 := (z _ (by omega)).trans h1
  have g2_0 := g2_0.sm z (by omega)
  have g5_0 := g5_0.sm z (by omega)
  have g8_0 := g8_0.sm z (by omega)
  have g11_0 := g11_0.sm z (by omega)
  have zall := zall.trans (z.wide (lo' := b) (hi' := b + 41) (by omega) (by omega))
  have h14 := h14n
  refine zj_dup 57 rfl rfl rfl ?_
  refine zj_bipush 58 (6) rfl rfl (by decide) ?_
  refine zj_bipush 59 (60) rfl rfl (by decide) ?_
  refine zj_iastG 60 6 rfl rfl h14 rfl (by decide) (by decide) (fun τ z h14n => ?_)
  have ho := (z _ (by omega)).trans ho
  have h1 := (z _ (by omega)).trans h1
  have g2_0 := g2_0.sm z (by omega)
  have g5_0 := g5_0.sm z (by omega)
  have g8_0 := g8_0.sm z (by omega)
  have g11_0 := g11_0.sm z (by omega)
  have zall := zall.trans (z.wide (lo' := b) (hi' := b + 41) (by omega) (by omega))
  have h14 := h14n
  refine zj_dup 61 rfl rfl rfl ?_
  refine zj_bipush 62 (7) rfl rfl (by decide) ?_
  refine zj_bipush 63 (70) rfl rfl (by decide) ?_
  refine zj_iastG 64 7 rfl rfl h14 rfl (by decide) (by decide) (fun τ z h14n => ?_)
  have ho := (z _ (by omega)).trans ho
  have h1 := (z _ (by omega)).trans h1
  have g2_0 := g2_0.sm z (by omega)
  have g5_0 := g5_0.sm z (by omega)
  have g8_0 := g8_0.sm z (by omega)
  have g11_0 := g11_0.sm z (by omega)
  have zall := zall.trans (z.wide (lo' := b) (hi' := b + 41) (by omega) (by omega))
  have h14 := h14n
  refine zj_putFG (fs' := [.ref (b + 1), .ref (b + 14), .null, .null, .null, .int 0, .int 0]) 65 rfl rfl ho rfl rfl rfl rfl rfl rfl rfl (fun τ z hon => ?_)
  have h1 := (z _ (by omega)).trans h1
  have g2_0 := g2_0.sm z (by omega)
  have g5_0 := g5_0.sm z (by omega)
  have g8_0 := g8_0.sm z (by omega)
  have g11_0 := g11_0.sm z (by omega)
  have h14 := (z _ (by omega)).trans h14
  have zall := zall.trans (z.wide (lo' := b) (hi' := b + 41) (by omega) (by omega))
  have ho := hon
  refine zj_aload_n 66 rfl rfl rfl ?_
  refine zj_iconst 67 (4) rfl rfl (by decide) ?_
  refine zj_anewaG (m := b + 15) (m' := b + 16) 68 4 4 rfl rfl rfl (by decide) (zt 117 (by decide +kernel) rfl) rfl (by decide) rfl rfl (by omega) rfl rfl (fun τ z h15 => ?_)
  have ho := (z _ (by omega)).trans ho
  have h1 := (z _ (by omega)).trans h1
  have g2_0 := g2_0.sm z (by omega)
  have g5_0 := g5_0.sm z (by omega)
  have g8_0 := g8_0.sm z (by omega)
  have g11_0 := g11_0.sm z (by omega)
  have h14 := (z _ (by omega)).trans h14
  have zall := zall.trans (z.wide (lo' := b) (hi' := b + 41) (by omega) (by omega))
  refine zj_dup 69 rfl rfl rfl ?_
  refine zj_iconst 70 (0) rfl rfl (by decide) ?_
  refine zj_newG (ci := 3) (m := b + 16) (m' := b + 17) 71 [.null, .int 0, .int 0, .null, .int 0, .int 0, .int 0] rfl rfl (by decide) rfl (zt 117 (by decide +kernel) rfl) (zt 119 (by decide +kernel) rfl) (zt 74 (by decide +kernel) rfl) zdf3 rfl rfl (by omega) rfl rfl (fun τ z h16 => ?_)
  have ho := (z _ (by omega)).trans ho
  have h1 := (z _ (by omega)).trans h1
  have g2_0 := g2_0.sm z (by omega)
  have g5_0 := g5_0.sm z (by omega)
  have g8_0 := g8_0.sm z (by omega)
  have g11_0 := g11_0.sm z (by omega)
  have h14 := (z _ (by omega)).trans h14
  have h15 := (z _ (by omega)).trans h15
  have zall := zall.trans (z.wide (lo' := b) (hi' := b + 41) (by omega) (by omega))
  refine zj_dup 72 rfl rfl rfl ?_
  refine zj_cC (n' := b + 19) 73 rfl rfl lk_5_24 ckLa_init (c_La (b := b + 16) h16 (by omega)) rfl rfl (fun τ hP => ?_)
  obtain ⟨z, g16_0⟩ := hP
  have ho := (z _ (by omega)).trans ho
  have h1 := (z _ (by omega)).trans h1
  have g2_0 := g2_0.sm z (by omega)
  have g5_0 := g5_0.sm z (by omega)
  have g8_0 := g8_0.sm z (by omega)
  have g11_0 := g11_0.sm z (by omega)
  have h14 := (z _ (by omega)).trans h14
  have h15 := (z _ (by omega)).trans h15
  have zall := zall.trans (z.wide (lo' := b) (hi' := b + 41) (by omega) (by omega))
  refine zj_aastG (t := 4) (ci := 3) 74 0 rfl rfl h15 g16_0.1 (by decide) (by decide) rfl rfl (by decide) (by decide) (fun τ z h15n => ?_)
  have ho := (z _ (by omega)).trans ho
  have h1 := (z _ (by omega)).trans h1
  have g2_0 := g2_0.sm z (by omega)
  have g5_0 := g5_0.sm z (by omega)
  have g8_0 := g8_0.sm z (by omega)
  have g11_0 := g11_0.sm z (by omega)
  have h14 := (z _ (by omega)).trans h14
  have g16_0 := g16_0.sm z (by omega)
  have zall := zall.trans (z.wide (lo' := b) (hi' := b + 41) (by omega) (by omega))
  have h15 := h15n
  refine zj_dup 75 rfl rfl rfl ?_
  refine zj_iconst 76 (1) rfl rfl (by decide) ?_
  refine zj_newG (ci := 3) (m := b + 19) (m' := b + 20) 77 [.null, .int 0, .int 0, .null, .int 0, .int 0, .int 0] rfl rfl (by decide) rfl (zt 117 (by decide +kernel) rfl) (zt 119 (by decide +kernel) rfl) (zt 74 (by decide +kernel) rfl) zdf3 rfl rfl (by omega) rfl rfl (fun τ z h19 => ?_)
  have ho := (z _ (by omega)).trans ho
  have h1 := (z _ (by omega)).trans h1
  have g2_0 := g2_0.sm z (by omega)
  have g5_0 := g5_0.sm z (by omega)
  have g8_0 := g8_0.sm z (by omega)
  have g11_0 := g11_0.sm z (by omega)
  have h14 := (z _ (by omega)).trans h14
  have h15 := (z _ (by omega)).trans h15
  have g16_0 := g16_0.sm z (by omega)
  have zall := zall.trans (z.wide (lo' := b) (hi' := b + 41) (by omega) (by omega))
  refine zj_dup 78 rfl rfl rfl ?_
  refine zj_cC (n' := b + 22) 79 rfl rfl lk_5_24 ckLa_init (c_La (b := b + 19) h19 (by omega)) rfl rfl (fun τ hP => ?_)
  obtain ⟨z, g19_0⟩ := hP
  have ho := (z _ (by omega)).trans ho
  have h1 := (z _ (by omega)).trans h1
  have g2_0 := g2_0.sm z (by omega)
  have g5_0 := g5_0.sm z (by omega)
  have g8_0 := g8_0.sm z (by omega)
  have g11_0 := g11_0.sm z (by omega)
  have h14 := (z _ (by omega)).trans h14
  have h15 := (z _ (by omega)).trans h15
  have g16_0 := g16_0.sm z (by omega)
  have zall := zall.trans (z.wide (lo' := b) (hi' := b + 41) (by omega) (by omega))
  refine zj_aastG (t := 4) (ci := 3) 80 1 rfl rfl h15 g19_0.1 (by decide) (by decide) rfl rfl (by decide) (by decide) (fun τ z h15n => ?_)
  have ho := (z _ (by omega)).trans ho
  have h1 := (z _ (by omega)).trans h1
  have g2_0 := g2_0.sm z (by omega)
  have g5_0 := g5_0.sm z (by omega)
  have g8_0 := g8_0.sm z (by omega)
  have g11_0 := g11_0.sm z (by omega)
  have h14 := (z _ (by omega)).trans h14
  have g16_0 := g16_0.sm z (by omega)
  have g19_0 := g19_0.sm z (by omega)
  have zall := zall.trans (z.wide (lo' := b) (hi' := b + 41) (by omega) (by omega))
  have h15 := h15n
  refine zj_dup 81 rfl rfl rfl ?_
  refine zj_iconst 82 (2) rfl rfl (by decide) ?_
  refine zj_newG (ci := 3) (m := b + 22) (m' := b + 23) 83 [.null, .int 0, .int 0, .null, .int 0, .int 0, .int 0] rfl rfl (by decide) rfl (zt 117 (by decide +kernel) rfl) (zt 119 (by decide +kernel) rfl) (zt 74 (by decide +kernel) rfl) zdf3 rfl rfl (by omega) rfl rfl (fun τ z h22 => ?_)
  have ho := (z _ (by omega)).trans ho
  have h1 := (z _ (by omega)).trans h1
  have g2_0 := g2_0.sm z (by omega)
  have g5_0 := g5_0.sm z (by omega)
  have g8_0 := g8_0.sm z (by omega)
  have g11_0 := g11_0.sm z (by omega)
  have h14 := (z _ (by omega)).trans h14
  have h15 := (z _ (by omega)).trans h15
  have g16_0 := g16_0.sm z (by omega)
  have g19_0 := g19_0.sm z (by omega)
  have zall := zall.trans (z.wide (lo' := b) (hi' := b + 41) (by omega) (by omega))
  refine zj_dup 84 rfl rfl rfl ?_
  refine zj_cC (n' := b + 25) 85 rfl rfl lk_5_24 ckLa_init (c_La (b := b + 22) h22 (by omega)) rfl rfl (fun τ hP => ?_)
  obtain ⟨z, g22_0⟩ := hP
  have ho := (z _ (by omega)).trans ho
  have h1 := (z _ (by omega)).trans h1
  have g2_0 := g2_0.sm z (by omega)
  have g5_0 := g5_0.sm z (by omega)
  have g8_0 := g8_0.sm z (by omega)
  have g11_0 := g11_0.sm z (by omega)
  have h14 := (z _ (by omega)).trans h14
  have h15 := (z _ (by omega)).trans h15
  have g16_0 := g16_0.sm z (by omega)
  have g19_0 := g19_0.sm z (by omega)
  have zall := zall.trans (z.wide (lo' := b) (hi' := b + 41) (by omega) (by omega))
  refine zj_aastG (t := 4) (ci := 3) 86 2 rfl rfl h15 g22_0.1 (by decide) (by decide) rfl rfl (by decide) (by decide) (fun τ z h15n => ?_)
  have ho := (z _ (by omega)).trans ho
  have h1 := (z _ (by omega)).trans h1
  have g2_0 := g2_0.sm z (by omega)
  have g5_0 := g5_0.sm z (by omega)
  have g8_0 := g8_0.sm z (by omega)
  have g11_0 := g11_0.sm z (by omega)
  have h14 := (z _ (by omega)).trans h14
  have g16_0 := g16_0.sm z (by omega)
  have g19_0 := g19_0.sm z (by omega)
  have g22_0 := g22_0.sm z (by omega)
  have zall := zall.trans (z.wide (lo' := b) (hi' := b + 41) (by omega) (by omega))
  have h15 := h15n
  refine zj_dup 87 rfl rfl rfl ?_
  refine zj_iconst 88 (3) rfl rfl (by decide) ?_
  refine zj_newG (ci := 3) (m := b + 25) (m' := b + 26) 89 [.null, .int 0, .int 0, .null, .int 0, .int 0, .int 0] rfl rfl (by decide) rfl (zt 117 (by decide +kernel) rfl) (zt 119 (by decide +kernel) rfl) (zt 74 (by decide +kernel) rfl) zdf3 rfl rfl (by omega) rfl rfl (fun τ z h25 => ?_)
  have ho := (z _ (by omega)).trans ho
  have h1 := (z _ (by omega)).trans h1
  have g2_0 := g2_0.sm z (by omega)
  have g5_0 := g5_0.sm z (by omega)
  have g8_0 := g8_0.sm z (by omega)
  have g11_0 := g11_0.sm z (by omega)
  have h14 := (z _ (by omega)).trans h14
  have h15 := (z _ (by omega)).trans h15
  have g16_0 := g16_0.sm z (by omega)
  have g19_0 := g19_0.sm z (by omega)
  have g22_0 := g22_0.sm z (by omega)
  have zall := zall.trans (z.wide (lo' := b) (hi' := b + 41) (by omega) (by omega))
  refine zj_dup 90 rfl rfl rfl ?_
  refine zj_cC (n' := b + 28) 91 rfl rfl lk_5_24 ckLa_init (c_La (b := b + 25) h25 (by omega)) rfl rfl (fun τ hP => ?_)
  obtain ⟨z, g25_0⟩ := hP
  have ho := (z _ (by omega)).trans ho
  have h1 := (z _ (by omega)).trans h1
  have g2_0 := g2_0.sm z (by omega)
  have g5_0 := g5_0.sm z (by omega)
  have g8_0 := g8_0.sm z (by omega)
  have g11_0 := g11_0.sm z (by omega)
  have h14 := (z _ (by omega)).trans h14
  have h15 := (z _ (by omega)).trans h15
  have g16_0 := g16_0.sm z (by omega)
  have g19_0 := g19_0.sm z (by omega)
  have g22_0 := g22_0.sm z (by omega)
  have zall := zall.trans (z.wide (lo' := b) (hi' := b + 41) (by omega) (by omega))
  refine zj_aastG (t := 4) (ci := 3) 92 3 rfl rfl h15 g25_0.1 (by decide) (by decide) rfl rfl (by decide) (by decide) (fun τ z h15n => ?_)
  have ho := (z _ (by omega)).trans ho
  have h1 := (z _ (by omega)).trans h1
  have g2_0 := g2_0.sm z (by omega)
  have g5_0 := g5_0.sm z (by omega)
  have g8_0 := g8_0.sm z (by omega)
  have g11_0 := g11_0.sm z (by omega)
  have h14 := (z _ (by omega)).trans h14
  have g16_0 := g16_0.sm z (by omega)
  have g19_0 := g19_0.sm z (by omega)
  have g22_0 := g22_0.sm z (by omega)
  have g25_0 := g25_0.sm z (by omega)
  have zall := zall.trans (z.wide (lo' := b) (hi' := b + 41) (by omega) (by omega))
  have h15 := h15n
  refine zj_arrG (fun l => some (b + 16 + 3 * l)) h15 (fun j hj => by
    match j, hj with
    | 0, _ => rfl
    | 1, _ => rfl
    | 2, _ => rfl
    | 3, _ => rfl
    | j + 4, h => exact absurd h (by omega)) (fun τ z h15n => ?_)
  have ho := (z _ (by omega)).trans ho
  have h1 := (z _ (by omega)).trans h1
  have g2_0 := g2_0.sm z (by omega)
  have g5_0 := g5_0.sm z (by omega)
  have g8_0 := g8_0.sm z (by omega)
  have g11_0 := g11_0.sm z (by omega)
  have h14 := (z _ (by omega)).trans h14
  have g16_0 := g16_0.sm z (by omega)
  have g19_0 := g19_0.sm z (by omega)
  have g22_0 := g22_0.sm z (by omega)
  have g25_0 := g25_0.sm z (by omega)
  have zall := zall.trans (z.wide (lo' := b) (hi' := b + 41) (by omega) (by omega))
  have h15 := h15n
  refine zj_putFG (fs' := [.ref (b + 1), .ref (b + 14), .ref (b + 15), .null, .null, .int 0, .int 0]) 93 rfl rfl ho rfl rfl rfl rfl rfl rfl rfl (fun τ z hon => ?_)
  have h1 := (z _ (by omega)).trans h1
  have g2_0 := g2_0.sm z (by omega)
  have g5_0 := g5_0.sm z (by omega)
  have g8_0 := g8_0.sm z (by omega)
  have g11_0 := g11_0.sm z (by omega)
  have h14 := (z _ (by omega)).trans h14
  have h15 := (z _ (by omega)).trans h15
  have g16_0 := g16_0.sm z (by omega)
  have g19_0 := g19_0.sm z (by omega)
  have g22_0 := g22_0.sm z (by omega)
  have g25_0 := g25_0.sm z (by omega)
  have zall := zall.trans (z.wide (lo' := b) (hi' := b + 41) (by omega) (by omega))
  have ho := hon
  refine zj_aload_n 94 rfl rfl rfl ?_
  refine zj_newG (ci := 0) (m := b + 28) (m' := b + 29) 95 [.null, .null, .int 0, .null, .null, .null, .int 0, .null, .null, .null, .int 0] rfl rfl (by decide) rfl (zt 151 (by decide +kernel) rfl) (zt 152 (by decide +kernel) rfl) (zt 75 (by decide +kernel) rfl) zdf0 rfl rfl (by omega) rfl rfl (fun τ z h28 => ?_)
  have ho := (z _ (by omega)).trans ho
  have h1 := (z _ (by omega)).trans h1
  have g2_0 := g2_0.sm z (by omega)
  have g5_0 := g5_0.sm z (by omega)
  have g8_0 := g8_0.sm z (by omega)
  have g11_0 := g11_0.sm z (by omega)
  have h14 := (z _ (by omega)).trans h14
  have h15 := (z _ (by omega)).trans h15
  have g16_0 := g16_0.sm z (by omega)
  have g19_0 := g19_0.sm z (by omega)
  have g22_0 := g22_0.sm z (by omega)
  have g25_0 := g25_0.sm z (by omega)
  have zall := zall.trans (z.wide (lo' := b) (hi' := b + 41) (by omega) (by omega))
  refine zj_dup 96 rfl rfl rfl ?_
  refine zj_cC (n' := b + 37) 97 rfl rfl lk_5_31 ckBk_init (c_Bk (b := b + 28) h28 (by omega)) rfl rfl (fun τ hP => ?_)
  obtain ⟨z, g28_0⟩ := hP
  have ho := (z _ (by omega)).trans ho
  have h1 := (z _ (by omega)).trans h1
  have g2_0 := g2_0.sm z (by omega)
  have g5_0 := g5_0.sm z (by omega)
  have g8_0 := g8_0.sm z (by omega)
  have g11_0 := g11_0.sm z (by omega)
  have h14 := (z _ (by omega)).trans h14
  have h15 := (z _ (by omega)).trans h15
  have g16_0 := g16_0.sm z (by omega)
  have g19_0 := g19_0.sm z (by omega)
  have g22_0 := g22_0.sm z (by omega)
  have g25_0 := g25_0.sm z (by omega)
  have zall := zall.trans (z.wide (lo' := b) (hi' := b + 41) (by omega) (by omega))
  refine zj_putFG (fs' := [.ref (b + 1), .ref (b + 14), .ref (b + 15), .ref (b + 28), .null, .int 0, .int 0]) 98 rfl rfl ho rfl rfl rfl rfl rfl rfl rfl (fun τ z hon => ?_)
  have h1 := (z _ (by omega)).trans h1
  have g2_0 := g2_0.sm z (by omega)
  have g5_0 := g5_0.sm z (by omega)
  have g8_0 := g8_0.sm z (by omega)
  have g11_0 := g11_0.sm z (by omega)
  have h14 := (z _ (by omega)).trans h14
  have h15 := (z _ (by omega)).trans h15
  have g16_0 := g16_0.sm z (by omega)
  have g19_0 := g19_0.sm z (by omega)
  have g22_0 := g22_0.sm z (by omega)
  have g25_0 := g25_0.sm z (by omega)
  have g28_0 := g28_0.sm z (by omega)
  have zall := zall.trans (z.wide (lo' := b) (hi' := b + 41) (by omega) (by omega))
  have ho := hon
  refine zj_aload_n 99 rfl rfl rfl ?_
  refine zj_newG (ci := 2) (m := b + 37) (m' := b + 38) 100 [.null, .null, .null, .int 0] rfl rfl (by decide) rfl (zt 201 (by decide +kernel) rfl) (zt 202 (by decide +kernel) rfl) (zt 76 (by decide +kernel) rfl) zdf2 rfl rfl (by omega) rfl rfl (fun τ z h37 => ?_)
  have ho := (z _ (by omega)).trans ho
  have h1 := (z _ (by omega)).trans h1
  have g2_0 := g2_0.sm z (by omega)
  have g5_0 := g5_0.sm z (by omega)
  have g8_0 := g8_0.sm z (by omega)
  have g11_0 := g11_0.sm z (by omega)
  have h14 := (z _ (by omega)).trans h14
  have h15 := (z _ (by omega)).trans h15
  have g16_0 := g16_0.sm z (by omega)
  have g19_0 := g19_0.sm z (by omega)
  have g22_0 := g22_0.sm z (by omega)
  have g25_0 := g25_0.sm z (by omega)
  have g28_0 := g28_0.sm z (by omega)
  have zall := zall.trans (z.wide (lo' := b) (hi' := b + 41) (by omega) (by omega))
  refine zj_dup 101 rfl rfl rfl ?_
  refine zj_cC (n' := b + 41) 102 rfl rfl lk_5_38 ckGu_init (c_Gu (b := b + 37) h37 (by omega)) rfl rfl (fun τ hP => ?_)
  obtain ⟨z, g37_0⟩ := hP
  have ho := (z _ (by omega)).trans ho
  have h1 := (z _ (by omega)).trans h1
  have g2_0 := g2_0.sm z (by omega)
  have g5_0 := g5_0.sm z (by omega)
  have g8_0 := g8_0.sm z (by omega)
  have g11_0 := g11_0.sm z (by omega)
  have h14 := (z _ (by omega)).trans h14
  have h15 := (z _ (by omega)).trans h15
  have g16_0 := g16_0.sm z (by omega)
  have g19_0 := g19_0.sm z (by omega)
  have g22_0 := g22_0.sm z (by omega)
  have g25_0 := g25_0.sm z (by omega)
  have g28_0 := g28_0.sm z (by omega)
  have zall := zall.trans (z.wide (lo' := b) (hi' := b + 41) (by omega) (by omega))
  refine zj_putFG (fs' := [.ref (b + 1), .ref (b + 14), .ref (b + 15), .ref (b + 28), .ref (b + 37), .int 0, .int 0]) 103 rfl rfl ho rfl rfl rfl rfl rfl rfl rfl (fun τ z hon => ?_)
  have h1 := (z _ (by omega)).trans h1
  have g2_0 := g2_0.sm z (by omega)
  have g5_0 := g5_0.sm z (by omega)
  have g8_0 := g8_0.sm z (by omega)
  have g11_0 := g11_0.sm z (by omega)
  have h14 := (z _ (by omega)).trans h14
  have h15 := (z _ (by omega)).trans h15
  have g16_0 := g16_0.sm z (by omega)
  have g19_0 := g19_0.sm z (by omega)
  have g22_0 := g22_0.sm z (by omega)
  have g25_0 := g25_0.sm z (by omega)
  have g28_0 := g28_0.sm z (by omega)
  have g37_0 := g37_0.sm z (by omega)
  have zall := zall.trans (z.wide (lo' := b) (hi' := b + 41) (by omega) (by omega))
  have ho := hon
  refine zj_aload_n 104 rfl rfl rfl ?_
  refine zj_iconst 105 (3) rfl rfl (by decide) ?_
  refine zj_putG (fs' := [.ref (b + 1), .ref (b + 14), .ref (b + 15), .ref (b + 28), .ref (b + 37), .int 3, .int 0]) 106 rfl rfl ho rfl rfl rfl rfl rfl (fun τ z hon => ?_)
  have h1 := (z _ (by omega)).trans h1
  have g2_0 := g2_0.sm z (by omega)
  have g5_0 := g5_0.sm z (by omega)
  have g8_0 := g8_0.sm z (by omega)
  have g11_0 := g11_0.sm z (by omega)
  have h14 := (z _ (by omega)).trans h14
  have h15 := (z _ (by omega)).trans h15
  have g16_0 := g16_0.sm z (by omega)
  have g19_0 := g19_0.sm z (by omega)
  have g22_0 := g22_0.sm z (by omega)
  have g25_0 := g25_0.sm z (by omega)
  have g28_0 := g28_0.sm z (by omega)
  have g37_0 := g37_0.sm z (by omega)
  have zall := zall.trans (z.wide (lo' := b) (hi' := b + 41) (by omega) (by omega))
  have ho := hon
  refine zj_aload_n 107 rfl rfl rfl ?_
  refine zj_iconst 108 (2) rfl rfl (by decide) ?_
  refine zj_putG (fs' := [.ref (b + 1), .ref (b + 14), .ref (b + 15), .ref (b + 28), .ref (b + 37), .int 3, .int 2]) 109 rfl rfl ho rfl rfl rfl rfl rfl (fun τ z hon => ?_)
  have h1 := (z _ (by omega)).trans h1
  have g2_0 := g2_0.sm z (by omega)
  have g5_0 := g5_0.sm z (by omega)
  have g8_0 := g8_0.sm z (by omega)
  have g11_0 := g11_0.sm z (by omega)
  have h14 := (z _ (by omega)).trans h14
  have h15 := (z _ (by omega)).trans h15
  have g16_0 := g16_0.sm z (by omega)
  have g19_0 := g19_0.sm z (by omega)
  have g22_0 := g22_0.sm z (by omega)
  have g25_0 := g25_0.sm z (by omega)
  have g28_0 := g28_0.sm z (by omega)
  have g37_0 := g37_0.sm z (by omega)
  have zall := zall.trans (z.wide (lo' := b) (hi' := b + 41) (by omega) (by omega))
  have ho := hon
  refine zj_return 110 rfl rfl rfl ?_
  exact ⟨rfl, rfl, zall, ⟨ho, h1, (fun w hw => by
    match w, hw with
    | 0, _ => exact g2_0
    | 1, _ => exact g5_0
    | 2, _ => exact g8_0
    | 3, _ => exact g11_0
    | j + 4, h => exact absurd h (by omega)), h14, h15, (fun l hl => by
    match l, hl with
    | 0, _ => exact g16_0
    | 1, _ => exact g19_0
    | 2, _ => exact g22_0
    | 3, _ => exact g25_0
    | j + 4, h => exact absurd h (by omega)), g28_0, g37_0⟩⟩
theorem c_D {E : zE} {σ : zH} {b : Nat} (ho : σ b = some (.inr (7, [.null, .null, .null, .null, .null, .long 0, .long 0]))) (hz : E.z ≤ b) : zCX E YD_init 4 133 3440 [.ref b] (b + 1) σ (b + 134) (fun τ => zsm σ τ b (b + 134) ∧ dAt τ b K0) := by
  refine zMet.of oD_init (by decide +kernel) rfl (Nat.le_of_ble_eq_true rfl) ?_
  have zall : zsm σ σ b (b + 134) := zsm.rfl'
  refine zj_aload_n 0 rfl rfl rfl ?_
  refine zj_oinit 1 rfl rfl (zt 90 (by decide +kernel) rfl) (zt 91 (by decide +kernel) rfl) (zt 92 (by decide +kernel) rfl) rfl rfl ?_
  refine zj_aload_n 2 rfl rfl rfl ?_
  refine zj_newG (ci := 5) (m := b + 1) (m' := b + 2) 3 [.null, .null, .null, .null, .null, .int 0, .int 0] rfl rfl (by decide) rfl (zt 93 (by decide +kernel) rfl) (zt 94 (by decide +kernel) rfl) (zt 72 (by decide +kernel) rfl) zdf5 rfl rfl (by omega) rfl rfl (fun τ z h1 => ?_)
  have ho := (z _ (by omega)).trans ho
  have zall := zall.trans (z.wide (lo' := b) (hi' := b + 134) (by omega) (by omega))
  refine zj_dup 4 rfl rfl rfl ?_
  refine zj_cC (n' := b + 42) 5 rfl rfl lk_7_11 ckSt_init (c_St (b := b + 1) h1 (by omega)) rfl rfl (fun τ hP => ?_)
  obtain ⟨z, g1_0⟩ := hP
  have ho := (z _ (by omega)).trans ho
  have zall := zall.trans (z.wide (lo' := b) (hi' := b + 134) (by omega) (by omega))
  refine zj_putFG (fs' := [.ref (b + 1), .null, .null, .null, .null, .long 0, .long 0]) 6 rfl rfl ho rfl rfl rfl rfl rfl rfl rfl (fun τ z hon => ?_)
  have g1_0 := g1_0.sm z (by omega)
  have zall := zall.trans (z.wide (lo' := b) (hi' := b + 134) (by omega) (by omega))
  have ho := hon
  refine zj_aload_n 7 rfl rfl rfl ?_
  refine zj_iconst 8 (2) rfl rfl (by decide) ?_
  refine zj_anewaG (m := b + 42) (m' := b + 43) 9 5 2 rfl rfl rfl (by decide) (zt 93 (by decide +kernel) rfl) rfl (by decide) rfl rfl (by omega) rfl rfl (fun τ z h42 => ?_)
  have ho := (z _ (by omega)).trans ho
  have g1_0 := g1_0.sm z (by omega)
  have zall := zall.trans (z.wide (lo' := b) (hi' := b + 134) (by omega) (by omega))
  refine zj_dup 10 rfl rfl rfl ?_
  refine zj_iconst 11 (0) rfl rfl (by decide) ?_
  refine zj_newG (ci := 5) (m := b + 43) (m' := b + 44) 12 [.null, .null, .null, .null, .null, .int 0, .int 0] rfl rfl (by decide) rfl (zt 93 (by decide +kernel) rfl) (zt 94 (by decide +kernel) rfl) (zt 72 (by decide +kernel) rfl) zdf5 rfl rfl (by omega) rfl rfl (fun τ z h43 => ?_)
  have ho := (z _ (by omega)).trans ho
  have g1_0 := g1_0.sm z (by omega)
  have h42 := (z _ (by omega)).trans h42
  have zall := zall.trans (z.wide (lo' := b) (hi' := b + 134) (by omega) (by omega))
  refine zj_dup 13 rfl rfl rfl ?_
  refine zj_cC (n' := b + 84) 14 rfl rfl lk_7_11 ckSt_init (c_St (b := b + 43) h43 (by omega)) rfl rfl (fun τ hP => ?_)
  obtain ⟨z, g43_0⟩ := hP
  have ho := (z _ (by omega)).trans ho
  have g1_0 := g1_0.sm z (by omega)
  have h42 := (z _ (by omega)).trans h42
  have zall := zall.trans (z.wide (lo' := b) (hi' := b + 134) (by omega) (by omega))
  refine zj_aastG (t := 5) (ci := 5) 15 0 rfl rfl h42 g43_0.1 (by decide) (by decide) rfl rfl (by decide) (by decide) (fun τ z h42n => ?_)
  have ho := (z _ (by omega)).trans ho
  have g1_0 := g1_0.sm z (by omega)
  have g43_0 := g43_0.sm z (by omega)
  have zall := zall.trans (z.wide (lo' := b) (hi' := b + 134) (by omega) (by omega))
  have h42 := h42n
  refine zj_dup 16 rfl rfl rfl ?_
  refine zj_iconst 17 (1) rfl rfl (by decide) ?_
  refine zj_newG (ci := 5) (m := b + 84) (m' := b + 85) 18 [.null, .null, .null, .null, .null, .int 0, .int 0] rfl rfl (by decide) rfl (zt 93 (by decide +kernel) rfl) (zt 94 (by decide +kernel) rfl) (zt 72 (by decide +kernel) rfl) zdf5 rfl rfl (by omega) rfl rfl (fun τ z h84 => ?_)
  have ho := (z _ (by omega)).trans ho
  have g1_0 := g1_0.sm z (by omega)
  have h42 := (z _ (by omega)).trans h42
  have g43_0 := g43_0.sm z (by omega)
  have zall := zall.trans (z.wide (lo' := b) (hi' := b + 134) (by omega) (by omega))
  refine zj_dup 19 rfl rfl rfl ?_
  refine zj_cC (n' := b + 125) 20 rfl rfl lk_7_11 ckSt_init (c_St (b := b + 84) h84 (by omega)) rfl rfl (fun τ hP => ?_)
  obtain ⟨z, g84_0⟩ := hP
  have ho := (z _ (by omega)).trans ho
  have g1_0 := g1_0.sm z (by omega)
  have h42 := (z _ (by omega)).trans h42
  have g43_0 := g43_0.sm z (by omega)
  have zall := zall.trans (z.wide (lo' := b) (hi' := b + 134) (by omega) (by omega))
  refine zj_aastG (t := 5) (ci := 5) 21 1 rfl rfl h42 g84_0.1 (by decide) (by decide) rfl rfl (by decide) (by decide) (fun τ z h42n => ?_)
  have ho := (z _ (by omega)).trans ho
  have g1_0 := g1_0.sm z (by omega)
  have g43_0 := g43_0.sm z (by omega)
  have g84_0 := g84_0.sm z (by omega)
  have zall := zall.trans (z.wide (lo' := b) (hi' := b + 134) (by omega) (by omega))
  have h42 := h42n
  refine zj_arrG (fun i => some (b + 43 + 41 * i)) h42 (fun j hj => by
    match j, hj with
    | 0, _ => rfl
    | 1, _ => rfl
    | j + 2, h => exact absurd h (by omega)) (fun τ z h42n => ?_)
  have ho := (z _ (by omega)).trans ho
  have g1_0 := g1_0.sm z (by omega)
  have g43_0 := g43_0.sm z (by omega)
  have g84_0 := g84_0.sm z (by omega)
  have zall := zall.trans (z.wide (lo' := b) (hi' := b + 134) (by omega) (by omega))
  have h42 := h42n
  refine zj_putFG (fs' := [.ref (b + 1), .ref (b + 42), .null, .null, .null, .long 0, .long 0]) 22 rfl rfl ho rfl rfl rfl rfl rfl rfl rfl (fun τ z hon => ?_)
  have g1_0 := g1_0.sm z (by omega)
  have h42 := (z _ (by omega)).trans h42
  have g43_0 := g43_0.sm z (by omega)
  have g84_0 := g84_0.sm z (by omega)
  have zall := zall.trans (z.wide (lo' := b) (hi' := b + 134) (by omega) (by omega))
  have ho := hon
  refine zj_aload_n 23 rfl rfl rfl ?_
  refine zj_iconst 24 (2) rfl rfl (by decide) ?_
  refine zj_newaG (m := b + 125) (m' := b + 126) 25 2 2 (.inl (fun _ => 0)) rfl rfl rfl (by decide) (zt 283 (by decide +kernel) rfl) (fun cA => by rw [vp_cell_i]; rfl) rfl (by decide) (by decide) rfl rfl (by omega) rfl rfl (fun τ z h125 => ?_)
  have ho := (z _ (by omega)).trans ho
  have g1_0 := g1_0.sm z (by omega)
  have h42 := (z _ (by omega)).trans h42
  have g43_0 := g43_0.sm z (by omega)
  have g84_0 := g84_0.sm z (by omega)
  have zall := zall.trans (z.wide (lo' := b) (hi' := b + 134) (by omega) (by omega))
  refine zj_putFG (fs' := [.ref (b + 1), .ref (b + 42), .ref (b + 125), .null, .null, .long 0, .long 0]) 26 rfl rfl ho rfl rfl rfl rfl rfl rfl rfl (fun τ z hon => ?_)
  have g1_0 := g1_0.sm z (by omega)
  have h42 := (z _ (by omega)).trans h42
  have g43_0 := g43_0.sm z (by omega)
  have g84_0 := g84_0.sm z (by omega)
  have h125 := (z _ (by omega)).trans h125
  have zall := zall.trans (z.wide (lo' := b) (hi' := b + 134) (by omega) (by omega))
  have ho := hon
  refine zj_aload_n 27 rfl rfl rfl ?_
  refine zj_newG (ci := 1) (m := b + 126) (m' := b + 127) 28 [.null, .null, .null, .int 0, .int 0] rfl rfl (by decide) rfl (zt 255 (by decide +kernel) rfl) (zt 256 (by decide +kernel) rfl) (zt 77 (by decide +kernel) rfl) zdf1 rfl rfl (by omega) rfl rfl (fun τ z h126 => ?_)
  have ho := (z _ (by omega)).trans ho
  have g1_0 := g1_0.sm z (by omega)
  have h42 := (z _ (by omega)).trans h42
  have g43_0 := g43_0.sm z (by omega)
  have g84_0 := g84_0.sm z (by omega)
  have h125 := (z _ (by omega)).trans h125
  have zall := zall.trans (z.wide (lo' := b) (hi' := b + 134) (by omega) (by omega))
  refine zj_dup 29 rfl rfl rfl ?_
  refine zj_cC (n' := b + 133) 30 rfl rfl lk_7_26 ckEy_init (c_Ey (b := b + 126) h126 (by omega)) rfl rfl (fun τ hP => ?_)
  obtain ⟨z, g126_0, g126_1⟩ := hP
  have ho := (z _ (by omega)).trans ho
  have g1_0 := g1_0.sm z (by omega)
  have h42 := (z _ (by omega)).trans h42
  have g43_0 := g43_0.sm z (by omega)
  have g84_0 := g84_0.sm z (by omega)
  have h125 := (z _ (by omega)).trans h125
  have zall := zall.trans (z.wide (lo' := b) (hi' := b + 134) (by omega) (by omega))
  refine zj_putFG (fs' := [.ref (b + 1), .ref (b + 42), .ref (b + 125), .ref (b + 126), .null, .long 0, .long 0]) 31 rfl rfl ho rfl rfl rfl rfl rfl rfl rfl (fun τ z hon => ?_)
  have g1_0 := g1_0.sm z (by omega)
  have h42 := (z _ (by omega)).trans h42
  have g43_0 := g43_0.sm z (by omega)
  have g84_0 := g84_0.sm z (by omega)
  have h125 := (z _ (by omega)).trans h125
  have g126_0 := g126_0.sm z (by omega)
  have g126_1 := g126_1.sm z (by omega)
  have zall := zall.trans (z.wide (lo' := b) (hi' := b + 134) (by omega) (by omega))
  have ho := hon
  refine zj_aload_n 32 rfl rfl rfl ?_
  refine zj_bipush 33 (16) rfl rfl (by decide) ?_
  refine zj_newaG (m := b + 133) (m' := b + 134) 34 0 16 (.inl (fun _ => 0)) rfl rfl rfl (by decide) (zt 116 (by decide +kernel) rfl) (fun cA => by rw [vp_cell_i]; rfl) rfl (by decide) (by decide) rfl rfl (by omega) rfl rfl (fun τ z h133 => ?_)
  have ho := (z _ (by omega)).trans ho
  have g1_0 := g1_0.sm z (by omega)
  have h42 := (z _ (by omega)).trans h42
  have g43_0 := g43_0.sm z (by omega)
  have g84_0 := g84_0.sm z (by omega)
  have h125 := (z _ (by omega)).trans h125
  have g126_0 := g126_0.sm z (by omega)
  have g126_1 := g126_1.sm z (by omega)
  have zall := zall.trans (z.wide (lo' := b) (hi' := b + 134) (by omega) (by omega))
  refine zj_putFG (fs' := [.ref (b + 1), .ref (b + 42), .ref (b + 125), .ref (b + 126), .ref (b + 133), .long 0, .long 0]) 35 rfl rfl ho rfl rfl rfl rfl rfl rfl rfl (fun τ z hon => ?_)
  have g1_0 := g1_0.sm z (by omega)
  have h42 := (z _ (by omega)).trans h42
  have g43_0 := g43_0.sm z (by omega)
  have g84_0 := g84_0.sm z (by omega)
  have h125 := (z _ (by omega)).trans h125
  have g126_0 := g126_0.sm z (by omega)
  have g126_1 := g126_1.sm z (by omega)
  have h133 := (z _ (by omega)).trans h133
  have zall := zall.trans (z.wide (lo' := b) (hi' := b + 134) (by omega) (by omega))
  have ho := hon
  refine zj_aload_n 36 rfl rfl rfl ?_
  refine zj_lconst 37 (0) rfl rfl (by decide) ?_
  refine zj_putG (fs' := [.ref (b + 1), .ref (b + 42), .ref (b + 125), .ref (b + 126), .ref (b + 133), .long 0, .long 0]) 38 rfl rfl ho rfl rfl rfl rfl rfl (fun τ z hon => ?_)
  have g1_0 := g1_0.sm z (by omega)
  have h42 := (z _ (by omega)).trans h42
  have g43_0 := g43_0.sm z (by omega)
  have g84_0 := g84_0.sm z (by omega)
  have h125 := (z _ (by omega)).trans h125
  have g126_0 := g126_0.sm z (by omega)
  have g126_1 := g126_1.sm z (by omega)
  have h133 := (z _ (by omega)).trans h133
  have zall := zall.trans (z.wide (lo' := b) (hi' := b + 134) (by omega) (by omega))
  have ho := hon
  refine zj_aload_n 39 rfl rfl rfl ?_
  refine zj_lconst 40 (1) rfl rfl (by decide) ?_
  refine zj_putG (fs' := [.ref (b + 1), .ref (b + 42), .ref (b + 125), .ref (b + 126), .ref (b + 133), .long 0, .long 1]) 41 rfl rfl ho rfl rfl rfl rfl rfl (fun τ z hon => ?_)
  have g1_0 := g1_0.sm z (by omega)
  have h42 := (z _ (by omega)).trans h42
  have g43_0 := g43_0.sm z (by omega)
  have g84_0 := g84_0.sm z (by omega)
  have h125 := (z _ (by omega)).trans h125
  have g126_0 := g126_0.sm z (by omega)
  have g126_1 := g126_1.sm z (by omega)
  have h133 := (z _ (by omega)).trans h133
  have zall := zall.trans (z.wide (lo' := b) (hi' := b + 134) (by omega) (by omega))
  have ho := hon
  refine zj_return 42 rfl rfl rfl ?_
  exact ⟨rfl, rfl, zall, ⟨ho, g1_0, h42, (fun i hi => by
    match i, hi with
    | 0, _ => exact g43_0
    | 1, _ => exact g84_0
    | j + 2, h => exact absurd h (by omega)), h125, g126_0, g126_1, ⟨fun _ _ => rfl, fun _ _ => rfl⟩, h133⟩⟩
