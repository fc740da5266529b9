/-! the component: observers, sheets, shows, guesses added -/
section
variable {E : zE} {σ : zH} {c : Nat} {K : zDc}
theorem kObs (h : dAt σ c K) (x1 x2 : Int32) (n0 : Nat) (h0 : K.n.b.2.2.1 0 = nI n0) (hb : n0 < 8) : zM E YBk_addObserver 2 [.ref (c + 1 + 28), .int x1, .int x2] σ (some (.int (nI n0))) (zkb σ (c + 1 + 28) (((K.n.b.sA 0 (va_up (K.n.b.1 0) n0 x1)).sA 1 (va_up (K.n.b.1 1) n0 x2)).sI 0 (nI (n0 + 1)))) := by
  have hk := k_BaddObserver (E := E) (σ := σ) (a := c + 1 + 28) (M := K.n.b) x1 x2 n0 h0 hb
  rw [zkb_id h.2.1.2.2.2.2.2.2.1] at hk
  exact hk
theorem kObsF (h : dAt σ c K) (x1 x2 : Int32) (h0 : K.n.b.2.2.1 0 = nI 8) : zM E YBk_addObserver 2 [.ref (c + 1 + 28), .int x1, .int x2] σ (some (.int (-4))) σ := by
  have hk := k_BaddObserver_full (E := E) (σ := σ) (a := c + 1 + 28) (M := K.n.b) x1 x2 h0
  rw [zkb_id h.2.1.2.2.2.2.2.2.1] at hk
  exact hk
theorem kSht (h : dAt σ c K) (x1 x2 x3 : Int32) (n0 : Nat) (h0 : K.n.b.2.2.1 1 = nI n0) (hb : n0 < 16) : zM E YBk_addSheet 2 [.ref (c + 1 + 28), .int x1, .int x2, .int x3] σ (some (.int (nI n0))) (zkb σ (c + 1 + 28) ((((K.n.b.sA 2 (va_up (K.n.b.1 2) n0 x1)).sA 3 (va_up (K.n.b.1 3) n0 x2)).sA 4 (va_up (K.n.b.1 4) n0 x3)).sI 1 (nI (n0 + 1)))) := by
  have hk := k_BaddSheet (E := E) (σ := σ) (a := c + 1 + 28) (M := K.n.b) x1 x2 x3 n0 h0 hb
  rw [zkb_id h.2.1.2.2.2.2.2.2.1] at hk
  exact hk
theorem kShtF (h : dAt σ c K) (x1 x2 x3 : Int32) (h0 : K.n.b.2.2.1 1 = nI 16) : zM E YBk_addSheet 2 [.ref (c + 1 + 28), .int x1, .int x2, .int x3] σ (some (.int (-4))) σ := by
  have hk := k_BaddSheet_full (E := E) (σ := σ) (a := c + 1 + 28) (M := K.n.b) x1 x2 x3 h0
  rw [zkb_id h.2.1.2.2.2.2.2.2.1] at hk
  exact hk
theorem kShw (h : dAt σ c K) (x1 x2 x3 : Int32) (n0 : Nat) (h0 : K.n.b.2.2.1 2 = nI n0) (hb : n0 < 60) : zM E YBk_addShow 2 [.ref (c + 1 + 28), .int x1, .int x2, .int x3] σ (some (.int (nI (n0 + 1)))) (zkb σ (c + 1 + 28) ((((K.n.b.sA 5 (va_up (K.n.b.1 5) n0 x1)).sA 6 (va_up (K.n.b.1 6) n0 x2)).sA 7 (va_up (K.n.b.1 7) n0 x3)).sI 2 (nI (n0 + 1)))) := by
  have hk := k_BaddShow (E := E) (σ := σ) (a := c + 1 + 28) (M := K.n.b) x1 x2 x3 n0 h0 hb
  rw [zkb_id h.2.1.2.2.2.2.2.2.1] at hk
  exact hk
theorem kShwF (h : dAt σ c K) (x1 x2 x3 : Int32) (h0 : K.n.b.2.2.1 2 = nI 60) : zM E YBk_addShow 2 [.ref (c + 1 + 28), .int x1, .int x2, .int x3] σ (some (.int (-4))) σ := by
  have hk := k_BaddShow_full (E := E) (σ := σ) (a := c + 1 + 28) (M := K.n.b) x1 x2 x3 h0
  rw [zkb_id h.2.1.2.2.2.2.2.2.1] at hk
  exact hk
theorem kGus (h : dAt σ c K) (x1 x2 x3 : Int32) (n0 : Nat) (h0 : K.n.g.2.2.1 0 = nI n0) (hb : n0 < 12) : zM E YGu_add 2 [.ref (c + 1 + 37), .int x1, .int x2, .int x3] σ (some (.int (nI n0))) (zkg σ (c + 1 + 37) ((((K.n.g.sA 0 (va_up (K.n.g.1 0) n0 x1)).sA 1 (va_up (K.n.g.1 1) n0 x2)).sA 2 (va_up (K.n.g.1 2) n0 x3)).sI 0 (nI (n0 + 1)))) := by
  have hk := k_Gadd (E := E) (σ := σ) (a := c + 1 + 37) (M := K.n.g) x1 x2 x3 n0 h0 hb
  rw [zkg_id h.2.1.2.2.2.2.2.2.2] at hk
  exact hk
theorem kGusF (h : dAt σ c K) (x1 x2 x3 : Int32) (h0 : K.n.g.2.2.1 0 = nI 12) : zM E YGu_add 2 [.ref (c + 1 + 37), .int x1, .int x2, .int x3] σ (some (.int (-4))) σ := by
  have hk := k_Gadd_full (E := E) (σ := σ) (a := c + 1 + 37) (M := K.n.g) x1 x2 x3 h0
  rw [zkg_id h.2.1.2.2.2.2.2.2.2] at hk
  exact hk
theorem k_Dobserver (h : dAt σ c K) (l w n0 : Nat) (hl : l < 4) (hw : w < 10) (h0 : K.n.b.2.2.1 0 = nI n0) (hb : n0 < 8) : zX E YD_observer 3 [.ref c, .int (nI l), .int (nI w)] (σ) (some (.int (nI n0))) (fun τ => zsm σ τ c (c + 134) ∧ dAt τ c (K.sn (K.n.sb (((K.n.b.sA 0 (va_up (K.n.b.1 0) n0 (nI l))).sA 1 (va_up (K.n.b.1 1) n0 (nI w))).sI 0 (nI (n0 + 1)))))) := by
  refine zX.of oD_observer (by decide +kernel) rfl rfl (fun n => ?_)
  refine zj_iload_n 0 rfl rfl rfl ?_
  refine zj_iconst 1 (4) rfl rfl (by decide) ?_
  refine zj_csx 2 rfl rfl lk_7_42 ckD_isOneOf (k_isOneOf _ _) rfl rfl rfl rfl ?_
  refine zj_if_eq 3 rfl rfl (fun c5 => ?_) (fun c5 => ?_)
  · exact absurd (zr_of (n := 4) (by omega) (by decide)) (zo_0.mp c5)
  · refine zj_iload_n 4 rfl rfl rfl ?_
    refine zj_bipush 5 (10) rfl rfl (by decide) ?_
    refine zj_csx 6 rfl rfl lk_7_42 ckD_isOneOf (k_isOneOf _ _) rfl rfl rfl rfl ?_
    refine zj_if_ne 7 rfl rfl (fun c14 => ?_) (fun c14 => ?_)
    · refine zj_aload_n 10 rfl rfl rfl ?_
      refine zj_get 11 rfl rfl h.1 rfl ?_
      refine zj_get 12 rfl rfl h.2.1.1 rfl ?_
      refine zj_iload_n 13 rfl rfl rfl ?_
      refine zj_iload_n 14 rfl rfl rfl ?_
      refine zj_cvx 15 rfl rfl lk_7_136 ckBk_addObserver (kObs h _ _ n0 h0 hb) rfl h.2.1.2.2.2.2.2.2.1.1 rfl rfl rfl ?_
      refine zj_ireturn 16 rfl rfl rfl ?_
      exact ⟨rfl, rfl, zkb_sm.wide (by omega) (by omega), h.B _⟩
    · exact absurd (zr_of (n := 10) (by omega) (by decide)) (zo_0.mp c14)
theorem k_Dobserver_full (h : dAt σ c K) (l w : Nat) (hl : l < 4) (hw : w < 10) (h0 : K.n.b.2.2.1 0 = nI 8) : zM E YD_observer 3 [.ref c, .int (nI l), .int (nI w)] (σ) (some (.int (-4))) (σ) := by
  refine zM.of oD_observer (by decide +kernel) rfl rfl (fun n => ?_)
  refine zj_iload_n 0 rfl rfl rfl ?_
  refine zj_iconst 1 (4) rfl rfl (by decide) ?_
  refine zj_csx 2 rfl rfl lk_7_42 ckD_isOneOf (k_isOneOf _ _) rfl rfl rfl rfl ?_
  refine zj_if_eq 3 rfl rfl (fun c5 => ?_) (fun c5 => ?_)
  · exact absurd (zr_of (n := 4) (by omega) (by decide)) (zo_0.mp c5)
  · refine zj_iload_n 4 rfl rfl rfl ?_
    refine zj_bipush 5 (10) rfl rfl (by decide) ?_
    refine zj_csx 6 rfl rfl lk_7_42 ckD_isOneOf (k_isOneOf _ _) rfl rfl rfl rfl ?_
    refine zj_if_ne 7 rfl rfl (fun c14 => ?_) (fun c14 => ?_)
    · refine zj_aload_n 10 rfl rfl rfl ?_
      refine zj_get 11 rfl rfl h.1 rfl ?_
      refine zj_get 12 rfl rfl h.2.1.1 rfl ?_
      refine zj_iload_n 13 rfl rfl rfl ?_
      refine zj_iload_n 14 rfl rfl rfl ?_
      refine zj_cvx 15 rfl rfl lk_7_136 ckBk_addObserver (kObsF h _ _ h0) rfl h.2.1.2.2.2.2.2.2.1.1 rfl rfl rfl ?_
      refine zj_ireturn 16 rfl rfl rfl ?_
      exact ⟨rfl, rfl, rfl⟩
    · exact absurd (zr_of (n := 10) (by omega) (by decide)) (zo_0.mp c14)
theorem k_Dobserver_bad (l w : Int32) (hb : ¬ (zr l 4 ∧ zr w 10)) : zM E YD_observer 3 [.ref c, .int l, .int w] (σ) (some (.int (-2))) (σ) := by
  refine zM.of oD_observer (by decide +kernel) rfl rfl (fun n => ?_)
  refine zj_iload_n 0 rfl rfl rfl ?_
  refine zj_iconst 1 (4) rfl rfl (by decide) ?_
  refine zj_csx 2 rfl rfl lk_7_42 ckD_isOneOf (k_isOneOf _ _) rfl rfl rfl rfl ?_
  refine zj_if_eq 3 rfl rfl (fun c5 => ?_) (fun c5 => ?_)
  · refine zj_bipush 8 (-2) rfl rfl (by decide) ?_
    refine zj_ireturn 9 rfl rfl rfl ?_
    exact ⟨rfl, rfl, rfl⟩
  · refine zj_iload_n 4 rfl rfl rfl ?_
    refine zj_bipush 5 (10) rfl rfl (by decide) ?_
    refine zj_csx 6 rfl rfl lk_7_42 ckD_isOneOf (k_isOneOf _ _) rfl rfl rfl rfl ?_
    refine zj_if_ne 7 rfl rfl (fun c14 => ?_) (fun c14 => ?_)
    · exact absurd ⟨zo_n0.mp c5, zo_n0.mp c14⟩ hb
    · refine zj_bipush 8 (-2) rfl rfl (by decide) ?_
      refine zj_ireturn 9 rfl rfl rfl ?_
      exact ⟨rfl, rfl, rfl⟩
theorem k_Dguess (h : dAt σ c K) (w l g n0 : Nat) (hw : w < 4) (hl : l < 4) (hg : g < 4) (h0 : K.n.g.2.2.1 0 = nI n0) (hb : n0 < 12) : zX E YD_guess 3 [.ref c, .int (nI w), .int (nI l), .int (nI g)] (σ) (some (.int (nI n0))) (fun τ => zsm σ τ c (c + 134) ∧ dAt τ c (K.sn (K.n.sg ((((K.n.g.sA 0 (va_up (K.n.g.1 0) n0 (nI w))).sA 1 (va_up (K.n.g.1 1) n0 (nI l))).sA 2 (va_up (K.n.g.1 2) n0 (nI g))).sI 0 (nI (n0 + 1)))))) := by
  refine zX.of oD_guess (by decide +kernel) rfl rfl (fun n => ?_)
  refine zj_iload_n 0 rfl rfl rfl ?_
  refine zj_iconst 1 (4) rfl rfl (by decide) ?_
  refine zj_csx 2 rfl rfl lk_7_42 ckD_isOneOf (k_isOneOf _ _) rfl rfl rfl rfl ?_
  refine zj_if_eq 3 rfl rfl (fun c5 => ?_) (fun c5 => ?_)
  · exact absurd (zr_of (n := 4) (by omega) (by decide)) (zo_0.mp c5)
  · refine zj_iload_n 4 rfl rfl rfl ?_
    refine zj_iconst 5 (4) rfl rfl (by decide) ?_
    refine zj_csx 6 rfl rfl lk_7_42 ckD_isOneOf (k_isOneOf _ _) rfl rfl rfl rfl ?_
    refine zj_if_eq 7 rfl rfl (fun c13 => ?_) (fun c13 => ?_)
    · exact absurd (zr_of (n := 4) (by omega) (by decide)) (zo_0.mp c13)
    · refine zj_iload_n 8 rfl rfl rfl ?_
      refine zj_iconst 9 (4) rfl rfl (by decide) ?_
      refine zj_csx 10 rfl rfl lk_7_42 ckD_isOneOf (k_isOneOf _ _) rfl rfl rfl rfl ?_
      refine zj_if_ne 11 rfl rfl (fun c21 => ?_) (fun c21 => ?_)
      · refine zj_aload_n 14 rfl rfl rfl ?_
        refine zj_get 15 rfl rfl h.1 rfl ?_
        refine zj_get 16 rfl rfl h.2.1.1 rfl ?_
        refine zj_iload_n 17 rfl rfl rfl ?_
        refine zj_iload_n 18 rfl rfl rfl ?_
        refine zj_iload_n 19 rfl rfl rfl ?_
        refine zj_cvx 20 rfl rfl lk_7_207 ckGu_add (kGus h _ _ _ n0 h0 hb) rfl h.2.1.2.2.2.2.2.2.2.1 rfl rfl rfl ?_
        refine zj_ireturn 21 rfl rfl rfl ?_
        exact ⟨rfl, rfl, zkg_sm.wide (by omega) (by omega), h.G _⟩
      · exact absurd (zr_of (n := 4) (by omega) (by decide)) (zo_0.mp c21)
theorem k_Dguess_full (h : dAt σ c K) (w l g : Nat) (hw : w < 4) (hl : l < 4) (hg : g < 4) (h0 : K.n.g.2.2.1 0 = nI 12) : zM E YD_guess 3 [.ref c, .int (nI w), .int (nI l), .int (nI g)] (σ) (some (.int (-4))) (σ) := by
  refine zM.of oD_guess (by decide +kernel) rfl rfl (fun n => ?_)
  refine zj_iload_n 0 rfl rfl rfl ?_
  refine zj_iconst 1 (4) rfl rfl (by decide) ?_
  refine zj_csx 2 rfl rfl lk_7_42 ckD_isOneOf (k_isOneOf _ _) rfl rfl rfl rfl ?_
  refine zj_if_eq 3 rfl rfl (fun c5 => ?_) (fun c5 => ?_)
  · exact absurd (zr_of (n := 4) (by omega) (by decide)) (zo_0.mp c5)
  · refine zj_iload_n 4 rfl rfl rfl ?_
    refine zj_iconst 5 (4) rfl rfl (by decide) ?_
    refine zj_csx 6 rfl rfl lk_7_42 ckD_isOneOf (k_isOneOf _ _) rfl rfl rfl rfl ?_
    refine zj_if_eq 7 rfl rfl (fun c13 => ?_) (fun c13 => ?_)
    · exact absurd (zr_of (n := 4) (by omega) (by decide)) (zo_0.mp c13)
    · refine zj_iload_n 8 rfl rfl rfl ?_
      refine zj_iconst 9 (4) rfl rfl (by decide) ?_
      refine zj_csx 10 rfl rfl lk_7_42 ckD_isOneOf (k_isOneOf _ _) rfl rfl rfl rfl ?_
      refine zj_if_ne 11 rfl rfl (fun c21 => ?_) (fun c21 => ?_)
      · refine zj_aload_n 14 rfl rfl rfl ?_
        refine zj_get 15 rfl rfl h.1 rfl ?_
        refine zj_get 16 rfl rfl h.2.1.1 rfl ?_
        refine zj_iload_n 17 rfl rfl rfl ?_
        refine zj_iload_n 18 rfl rfl rfl ?_
        refine zj_iload_n 19 rfl rfl rfl ?_
        refine zj_cvx 20 rfl rfl lk_7_207 ckGu_add (kGusF h _ _ _ h0) rfl h.2.1.2.2.2.2.2.2.2.1 rfl rfl rfl ?_
        refine zj_ireturn 21 rfl rfl rfl ?_
        exact ⟨rfl, rfl, rfl⟩
      · exact absurd (zr_of (n := 4) (by omega) (by decide)) (zo_0.mp c21)
theorem k_Dguess_bad (w l g : Int32) (hb : ¬ (zr w 4 ∧ zr l 4 ∧ zr g 4)) : zM E YD_guess 3 [.ref c, .int w, .int l, .int g] (σ) (some (.int (-2))) (σ) := by
  refine zM.of oD_guess (by decide +kernel) rfl rfl (fun n => ?_)
  refine zj_iload_n 0 rfl rfl rfl ?_
  refine zj_iconst 1 (4) rfl rfl (by decide) ?_
  refine zj_csx 2 rfl rfl lk_7_42 ckD_isOneOf (k_isOneOf _ _) rfl rfl rfl rfl ?_
  refine zj_if_eq 3 rfl rfl (fun c5 => ?_) (fun c5 => ?_)
  · refine zj_bipush 12 (-2) rfl rfl (by decide) ?_
    refine zj_ireturn 13 rfl rfl rfl ?_
    exact ⟨rfl, rfl, rfl⟩
  · refine zj_iload_n 4 rfl rfl rfl ?_
    refine zj_iconst 5 (4) rfl rfl (by decide) ?_
    refine zj_csx 6 rfl rfl lk_7_42 ckD_isOneOf (k_isOneOf _ _) rfl rfl rfl rfl ?_
    refine zj_if_eq 7 rfl rfl (fun c13 => ?_) (fun c13 => ?_)
    · refine zj_bipush 12 (-2) rfl rfl (by decide) ?_
      refine zj_ireturn 13 rfl rfl rfl ?_
      exact ⟨rfl, rfl, rfl⟩
    · refine zj_iload_n 8 rfl rfl rfl ?_
      refine zj_iconst 9 (4) rfl rfl (by decide) ?_
      refine zj_csx 10 rfl rfl lk_7_42 ckD_isOneOf (k_isOneOf _ _) rfl rfl rfl rfl ?_
      refine zj_if_ne 11 rfl rfl (fun c21 => ?_) (fun c21 => ?_)
      · exact absurd ⟨zo_n0.mp c5, zo_n0.mp c13, zo_n0.mp c21⟩ hb
      · refine zj_bipush 12 (-2) rfl rfl (by decide) ?_
        refine zj_ireturn 13 rfl rfl rfl ?_
        exact ⟨rfl, rfl, rfl⟩
/-- what takesSheet says, in the reference's words -/
theorem tk_iff {K : zDc} {no ns nh ng : Nat} {ml mk : Nat → Nat} {r : Nat → Int32} (ok : mOk r no ns nh ng ml mk) (ok2 : mOk2 r ns) (hs : sRl K.n r ml) (o night : Int32) : (zr o no ∧ zr night 1000 ∧ (ns = 0 ∨ K.n.b.1 3 (ns - 1) ≤ night)) ↔ (zr o no ∧ pLast (rSn r) ns ≤ night.toInt ∧ night.toInt ≤ 999) := by
  unfold zr pLast
  by_cases h0 : ns = 0
  · rw [if_pos h0]
    constructor
    · rintro ⟨h1, h2, _⟩; exact ⟨h1, by omega, by omega⟩
    · rintro ⟨h1, h2, h3⟩; exact ⟨h1, by omega, Or.inl h0⟩
  · have e : K.n.b.1 3 (ns - 1) = rSn r (ns - 1) := (hs.2.2.2.1.2.1 (ns - 1) (by have := ok.2.1.2; omega)).2.1
    have hp := ok2.2.2 (ns - 1) (by omega)
    rw [if_neg h0, e, Int32.le_iff_toInt_le]
    constructor
    · rintro ⟨h1, h2, h3⟩
      have h3 := h3.resolve_left h0
      exact ⟨h1, h3, by omega⟩
    · rintro ⟨h1, h2, h3⟩; exact ⟨h1, by omega, Or.inr h2⟩
theorem k_Dsheet (h : dAt σ c K) {no ns nh ng : Nat} {ml mk : Nat → Nat} {r : Nat → Int32} (ok : mOk r no ns nh ng ml mk) (ok2 : mOk2 r ns) (hs : sRl K.n r ml) (o night lines : Int32) (hv : (zr o no ∧ pLast (rSn r) ns ≤ night.toInt ∧ night.toInt ≤ 999)) (hli : zr lines 268435456) (hns : ns < 16) : zX E YD_sheet 3 [.ref c, .int o, .int night, .int lines] (σ) (some (.int (nI ns))) (fun τ => zsm σ τ c (c + 134) ∧ dAt τ c (K.sn (K.n.sb ((((K.n.b.sA 2 (va_up (K.n.b.1 2) ns o)).sA 3 (va_up (K.n.b.1 3) ns night)).sA 4 (va_up (K.n.b.1 4) ns lines)).sI 1 (nI (ns + 1)))))) := by
  refine zX.of oD_sheet (by decide +kernel) rfl rfl (fun n => ?_)
  refine zj_aload_n 0 rfl rfl rfl ?_
  refine zj_get 1 rfl rfl h.1 rfl ?_
  refine zj_get 2 rfl rfl h.2.1.1 rfl ?_
  refine zj_iload_n 3 rfl rfl rfl ?_
  refine zj_iload_n 4 rfl rfl rfl ?_
  refine zj_cvx 5 rfl rfl lk_7_141 ckBk_takesSheet (k_takesSheet h.2.1.2.2.2.2.2.2.1 no (kN0 ok hs).1 (kN0 ok hs).2 ns (kN1 ok hs).1 (kN1 ok hs).2 _ _) rfl h.2.1.2.2.2.2.2.2.1.1 rfl rfl rfl ?_
  refine zj_if_eq 6 rfl rfl (fun c12 => ?_) (fun c12 => ?_)
  · exact absurd ((tk_iff ok ok2 hs _ _).mpr hv) (zo_0.mp c12)
  · refine zj_iload_n 7 rfl rfl rfl ?_
    refine zj_ldc 8 (268435456) rfl rfl (by decide) ?_
    refine zj_csx 9 rfl rfl lk_7_42 ckD_isOneOf (k_isOneOf _ _) rfl rfl rfl rfl ?_
    refine zj_if_ne 10 rfl rfl (fun c21 => ?_) (fun c21 => ?_)
    · refine zj_aload_n 13 rfl rfl rfl ?_
      refine zj_get 14 rfl rfl h.1 rfl ?_
      refine zj_get 15 rfl rfl h.2.1.1 rfl ?_
      refine zj_iload_n 16 rfl rfl rfl ?_
      refine zj_iload_n 17 rfl rfl rfl ?_
      refine zj_iload_n 18 rfl rfl rfl ?_
      refine zj_cvx 19 rfl rfl lk_7_144 ckBk_addSheet (kSht h _ _ _ ns (kN1 ok hs).1 hns) rfl h.2.1.2.2.2.2.2.2.1.1 rfl rfl rfl ?_
      refine zj_ireturn 20 rfl rfl rfl ?_
      exact ⟨rfl, rfl, zkb_sm.wide (by omega) (by omega), h.B _⟩
    · exact absurd hli (zo_0.mp c21)
theorem k_Dsheet_full (h : dAt σ c K) {no ns nh ng : Nat} {ml mk : Nat → Nat} {r : Nat → Int32} (ok : mOk r no ns nh ng ml mk) (ok2 : mOk2 r ns) (hs : sRl K.n r ml) (o night lines : Int32) (hv : (zr o no ∧ pLast (rSn r) ns ≤ night.toInt ∧ night.toInt ≤ 999)) (hli : zr lines 268435456) (hns : ns = 16) : zM E YD_sheet 3 [.ref c, .int o, .int night, .int lines] (σ) (some (.int (-4))) (σ) := by
  refine zM.of oD_sheet (by decide +kernel) rfl rfl (fun n => ?_)
  refine zj_aload_n 0 rfl rfl rfl ?_
  refine zj_get 1 rfl rfl h.1 rfl ?_
  refine zj_get 2 rfl rfl h.2.1.1 rfl ?_
  refine zj_iload_n 3 rfl rfl rfl ?_
  refine zj_iload_n 4 rfl rfl rfl ?_
  refine zj_cvx 5 rfl rfl lk_7_141 ckBk_takesSheet (k_takesSheet h.2.1.2.2.2.2.2.2.1 no (kN0 ok hs).1 (kN0 ok hs).2 ns (kN1 ok hs).1 (kN1 ok hs).2 _ _) rfl h.2.1.2.2.2.2.2.2.1.1 rfl rfl rfl ?_
  refine zj_if_eq 6 rfl rfl (fun c12 => ?_) (fun c12 => ?_)
  · exact absurd ((tk_iff ok ok2 hs _ _).mpr hv) (zo_0.mp c12)
  · refine zj_iload_n 7 rfl rfl rfl ?_
    refine zj_ldc 8 (268435456) rfl rfl (by decide) ?_
    refine zj_csx 9 rfl rfl lk_7_42 ckD_isOneOf (k_isOneOf _ _) rfl rfl rfl rfl ?_
    refine zj_if_ne 10 rfl rfl (fun c21 => ?_) (fun c21 => ?_)
    · refine zj_aload_n 13 rfl rfl rfl ?_
      refine zj_get 14 rfl rfl h.1 rfl ?_
      refine zj_get 15 rfl rfl h.2.1.1 rfl ?_
      refine zj_iload_n 16 rfl rfl rfl ?_
      refine zj_iload_n 17 rfl rfl rfl ?_
      refine zj_iload_n 18 rfl rfl rfl ?_
      refine zj_cvx 19 rfl rfl lk_7_144 ckBk_addSheet (kShtF h _ _ _ ((kN1 ok hs).1.trans (by rw [hns]))) rfl h.2.1.2.2.2.2.2.2.1.1 rfl rfl rfl ?_
      refine zj_ireturn 20 rfl rfl rfl ?_
      exact ⟨rfl, rfl, rfl⟩
    · exact absurd hli (zo_0.mp c21)
theorem k_Dsheet_bad (h : dAt σ c K) {no ns nh ng : Nat} {ml mk : Nat → Nat} {r : Nat → Int32} (ok : mOk r no ns nh ng ml mk) (ok2 : mOk2 r ns) (hs : sRl K.n r ml) (o night lines : Int32) (hv : ¬ ((zr o no ∧ pLast (rSn r) ns ≤ night.toInt ∧ night.toInt ≤ 999) ∧ zr lines 268435456)) : zM E YD_sheet 3 [.ref c, .int o, .int night, .int lines] (σ) (some (.int (-2))) (σ) := by
  refine zM.of oD_sheet (by decide +kernel) rfl rfl (fun n => ?_)
  refine zj_aload_n 0 rfl rfl rfl ?_
  refine zj_get 1 rfl rfl h.1 rfl ?_
  refine zj_get 2 rfl rfl h.2.1.1 rfl ?_
  refine zj_iload_n 3 rfl rfl rfl ?_
  refine zj_iload_n 4 rfl rfl rfl ?_
  refine zj_cvx 5 rfl rfl lk_7_141 ckBk_takesSheet (k_takesSheet h.2.1.2.2.2.2.2.2.1 no (kN0 ok hs).1 (kN0 ok hs).2 ns (kN1 ok hs).1 (kN1 ok hs).2 _ _) rfl h.2.1.2.2.2.2.2.2.1.1 rfl rfl rfl ?_
  refine zj_if_eq 6 rfl rfl (fun c12 => ?_) (fun c12 => ?_)
  · refine zj_bipush 11 (-2) rfl rfl (by decide) ?_
    refine zj_ireturn 12 rfl rfl rfl ?_
    exact ⟨rfl, rfl, rfl⟩
  · refine zj_iload_n 7 rfl rfl rfl ?_
    refine zj_ldc 8 (268435456) rfl rfl (by decide) ?_
    refine zj_csx 9 rfl rfl lk_7_42 ckD_isOneOf (k_isOneOf _ _) rfl rfl rfl rfl ?_
    refine zj_if_ne 10 rfl rfl (fun c21 => ?_) (fun c21 => ?_)
    · exact absurd ⟨(tk_iff ok ok2 hs _ _).mp (zo_n0.mp c12), zo_n0.mp c21⟩ hv
    · refine zj_bipush 11 (-2) rfl rfl (by decide) ?_
      refine zj_ireturn 12 rfl rfl rfl ?_
      exact ⟨rfl, rfl, rfl⟩
theorem zlt_not {x y : Int32} (h : ¬ x < y) : y.toInt ≤ x.toInt := by
  rw [Int32.lt_iff_toInt_lt] at h; omega
theorem k_Dshow (h : dAt σ c K) {no ns nh ng : Nat} {ml mk : Nat → Nat} {r : Nat → Int32} (ok : mOk r no ns nh ng ml mk) (ok2 : mOk2 r ns) (hs : sRl K.n r ml) (s o : Nat) (night : Int32) (hs0 : s < ns) (ho : o < no) (hv : (rSn r s).toInt ≤ night.toInt ∧ night.toInt ≤ 999) (hnh : nh < 60) : zX E YD_show 3 [.ref c, .int (nI s), .int (nI o), .int night] (σ) (some (.int (nI (nh + 1)))) (fun τ => zsm σ τ c (c + 134) ∧ dAt τ c (K.sn (K.n.sb ((((K.n.b.sA 5 (va_up (K.n.b.1 5) nh (nI s))).sA 6 (va_up (K.n.b.1 6) nh (nI o))).sA 7 (va_up (K.n.b.1 7) nh night)).sI 2 (nI (nh + 1)))))) := by
  refine zX.of oD_show (by decide +kernel) rfl rfl (fun n => ?_)
  have b0 := (kN0 ok hs).2
  have b1 := (kN1 ok hs).2
  refine zj_aload_n 0 rfl rfl rfl ?_
  refine zj_get 1 rfl rfl h.1 rfl ?_
  refine zj_get 2 rfl rfl h.2.1.1 rfl ?_
  refine zj_astore 3 rfl rfl ?_
  refine zj_iload_n 4 rfl rfl rfl ?_
  refine zj_aload 5 rfl rfl rfl ?_
  refine zj_get 6 rfl rfl h.2.1.2.2.2.2.2.2.1.1 rfl ?_
  refine zj_csx 7 rfl rfl lk_7_42 ckD_isOneOf (k_isOne _ ns (kN1 ok hs).1 (by have := (kN1 ok hs).2; omega)) rfl rfl rfl rfl ?_
  refine zj_if_eq 8 rfl rfl (fun c18 => ?_) (fun c18 => ?_)
  · exact absurd (zr_of (n := ns) hs0 (by have := (kN1 ok hs).2; omega)) (zo_0.mp c18)
  · refine zj_iload_n 9 rfl rfl rfl ?_
    refine zj_aload 10 rfl rfl rfl ?_
    refine zj_get 11 rfl rfl h.2.1.2.2.2.2.2.2.1.1 rfl ?_
    refine zj_csx 12 rfl rfl lk_7_42 ckD_isOneOf (k_isOne _ no (kN0 ok hs).1 (by have := (kN0 ok hs).2; omega)) rfl rfl rfl rfl ?_
    refine zj_if_eq 13 rfl rfl (fun c30 => ?_) (fun c30 => ?_)
    · exact absurd (zr_of (n := no) ho (by have := (kN0 ok hs).2; omega)) (zo_0.mp c30)
    · refine zj_iload_n 14 rfl rfl rfl ?_
      refine zj_sipush 15 (1000) rfl rfl (by decide) ?_
      refine zj_csx 16 rfl rfl lk_7_42 ckD_isOneOf (k_isOneOf _ _) rfl rfl rfl rfl ?_
      refine zj_if_eq 17 rfl rfl (fun c40 => ?_) (fun c40 => ?_)
      · refine absurd ?_ (zo_0.mp c40)
        have hp := ok2.2.2 s hs0
        exact (show zr night 1000 from ⟨by omega, by omega⟩)
      · refine zj_iload_n 18 rfl rfl rfl ?_
        refine zj_aload 19 rfl rfl rfl ?_
        refine zj_get 20 rfl rfl h.2.1.2.2.2.2.2.2.1.1 rfl ?_
        refine zj_iload_n 21 rfl rfl rfl ?_
        refine zn_iald 22 (s) rfl rfl h.2.1.2.2.2.2.2.2.1.2.2.2.2.1 rfl (by omega) (by decide) ?_
        refine zj_icmp_ge 23 rfl rfl (fun c51 => ?_) (fun c51 => ?_)
        · refine zj_aload 26 rfl rfl rfl ?_
          refine zj_iload_n 27 rfl rfl rfl ?_
          refine zj_iload_n 28 rfl rfl rfl ?_
          refine zj_iload_n 29 rfl rfl rfl ?_
          refine zj_cvx 30 rfl rfl lk_7_162 ckBk_addShow (kShw h _ _ _ nh (kN2 ok hs).1 hnh) rfl h.2.1.2.2.2.2.2.2.1.1 rfl rfl rfl ?_
          refine zj_ireturn 31 rfl rfl rfl ?_
          exact ⟨rfl, rfl, zkb_sm.wide (by omega) (by omega), h.B _⟩
        · refine absurd ?_ c51
          rw [(hs.2.2.2.1.2.1 s (by omega)).2.1, Int32.le_iff_toInt_le]
          exact hv.1
theorem k_Dshow_full (h : dAt σ c K) {no ns nh ng : Nat} {ml mk : Nat → Nat} {r : Nat → Int32} (ok : mOk r no ns nh ng ml mk) (ok2 : mOk2 r ns) (hs : sRl K.n r ml) (s o : Nat) (night : Int32) (hs0 : s < ns) (ho : o < no) (hv : (rSn r s).toInt ≤ night.toInt ∧ night.toInt ≤ 999) (hnh : nh = 60) : zM E YD_show 3 [.ref c, .int (nI s), .int (nI o), .int night] (σ) (some (.int (-4))) (σ) := by
  refine zM.of oD_show (by decide +kernel) rfl rfl (fun n => ?_)
  have b0 := (kN0 ok hs).2
  have b1 := (kN1 ok hs).2
  refine zj_aload_n 0 rfl rfl rfl ?_
  refine zj_get 1 rfl rfl h.1 rfl ?_
  refine zj_get 2 rfl rfl h.2.1.1 rfl ?_
  refine zj_astore 3 rfl rfl ?_
  refine zj_iload_n 4 rfl rfl rfl ?_
  refine zj_aload 5 rfl rfl rfl ?_
  refine zj_get 6 rfl rfl h.2.1.2.2.2.2.2.2.1.1 rfl ?_
  refine zj_csx 7 rfl rfl lk_7_42 ckD_isOneOf (k_isOne _ ns (kN1 ok hs).1 (by have := (kN1 ok hs).2; omega)) rfl rfl rfl rfl ?_
  refine zj_if_eq 8 rfl rfl (fun c18 => ?_) (fun c18 => ?_)
  · exact absurd (zr_of (n := ns) hs0 (by have := (kN1 ok hs).2; omega)) (zo_0.mp c18)
  · refine zj_iload_n 9 rfl rfl rfl ?_
    refine zj_aload 10 rfl rfl rfl ?_
    refine zj_get 11 rfl rfl h.2.1.2.2.2.2.2.2.1.1 rfl ?_
    refine zj_csx 12 rfl rfl lk_7_42 ckD_isOneOf (k_isOne _ no (kN0 ok hs).1 (by have := (kN0 ok hs).2; omega)) rfl rfl rfl rfl ?_
    refine zj_if_eq 13 rfl rfl (fun c30 => ?_) (fun c30 => ?_)
    · exact absurd (zr_of (n := no) ho (by have := (kN0 ok hs).2; omega)) (zo_0.mp c30)
    · refine zj_iload_n 14 rfl rfl rfl ?_
      refine zj_sipush 15 (1000) rfl rfl (by decide) ?_
      refine zj_csx 16 rfl rfl lk_7_42 ckD_isOneOf (k_isOneOf _ _) rfl rfl rfl rfl ?_
      refine zj_if_eq 17 rfl rfl (fun c40 => ?_) (fun c40 => ?_)
      · refine absurd ?_ (zo_0.mp c40)
        have hp := ok2.2.2 s hs0
        exact (show zr night 1000 from ⟨by omega, by omega⟩)
      · refine zj_iload_n 18 rfl rfl rfl ?_
        refine zj_aload 19 rfl rfl rfl ?_
        refine zj_get 20 rfl rfl h.2.1.2.2.2.2.2.2.1.1 rfl ?_
        refine zj_iload_n 21 rfl rfl rfl ?_
        refine zn_iald 22 (s) rfl rfl h.2.1.2.2.2.2.2.2.1.2.2.2.2.1 rfl (by omega) (by decide) ?_
        refine zj_icmp_ge 23 rfl rfl (fun c51 => ?_) (fun c51 => ?_)
        · refine zj_aload 26 rfl rfl rfl ?_
          refine zj_iload_n 27 rfl rfl rfl ?_
          refine zj_iload_n 28 rfl rfl rfl ?_
          refine zj_iload_n 29 rfl rfl rfl ?_
          refine zj_cvx 30 rfl rfl lk_7_162 ckBk_addShow (kShwF h _ _ _ ((kN2 ok hs).1.trans (by rw [hnh]))) rfl h.2.1.2.2.2.2.2.2.1.1 rfl rfl rfl ?_
          refine zj_ireturn 31 rfl rfl rfl ?_
          exact ⟨rfl, rfl, rfl⟩
        · refine absurd ?_ c51
          rw [(hs.2.2.2.1.2.1 s (by omega)).2.1, Int32.le_iff_toInt_le]
          exact hv.1
theorem k_Dshow_bad (h : dAt σ c K) {no ns nh ng : Nat} {ml mk : Nat → Nat} {r : Nat → Int32} (ok : mOk r no ns nh ng ml mk) (ok2 : mOk2 r ns) (hs : sRl K.n r ml) (s o night : Int32) (hv : ¬ (zr s ns ∧ zr o no ∧ (rSn r s.toNatClampNeg).toInt ≤ night.toInt ∧ night.toInt ≤ 999)) : zM E YD_show 3 [.ref c, .int s, .int o, .int night] (σ) (some (.int (-2))) (σ) := by
  refine zM.of oD_show (by decide +kernel) rfl rfl (fun n => ?_)
  have b0 := (kN0 ok hs).2
  have b1 := (kN1 ok hs).2
  refine zj_aload_n 0 rfl rfl rfl ?_
  refine zj_get 1 rfl rfl h.1 rfl ?_
  refine zj_get 2 rfl rfl h.2.1.1 rfl ?_
  refine zj_astore 3 rfl rfl ?_
  refine zj_iload_n 4 rfl rfl rfl ?_
  refine zj_aload 5 rfl rfl rfl ?_
  refine zj_get 6 rfl rfl h.2.1.2.2.2.2.2.2.1.1 rfl ?_
  refine zj_csx 7 rfl rfl lk_7_42 ckD_isOneOf (k_isOne _ ns (kN1 ok hs).1 (by have := (kN1 ok hs).2; omega)) rfl rfl rfl rfl ?_
  refine zj_if_eq 8 rfl rfl (fun c18 => ?_) (fun c18 => ?_)
  · refine zj_bipush 24 (-2) rfl rfl (by decide) ?_
    refine zj_ireturn 25 rfl rfl rfl ?_
    exact ⟨rfl, rfl, rfl⟩
  · obtain ⟨j, hj, rfl⟩ := zr_nI (zo_n0.mp c18)
    refine zj_iload_n 9 rfl rfl rfl ?_
    refine zj_aload 10 rfl rfl rfl ?_
    refine zj_get 11 rfl rfl h.2.1.2.2.2.2.2.2.1.1 rfl ?_
    refine zj_csx 12 rfl rfl lk_7_42 ckD_isOneOf (k_isOne _ no (kN0 ok hs).1 (by have := (kN0 ok hs).2; omega)) rfl rfl rfl rfl ?_
    refine zj_if_eq 13 rfl rfl (fun c30 => ?_) (fun c30 => ?_)
    · refine zj_bipush 24 (-2) rfl rfl (by decide) ?_
      refine zj_ireturn 25 rfl rfl rfl ?_
      exact ⟨rfl, rfl, rfl⟩
    · refine zj_iload_n 14 rfl rfl rfl ?_
      refine zj_sipush 15 (1000) rfl rfl (by decide) ?_
      refine zj_csx 16 rfl rfl lk_7_42 ckD_isOneOf (k_isOneOf _ _) rfl rfl rfl rfl ?_
      refine zj_if_eq 17 rfl rfl (fun c40 => ?_) (fun c40 => ?_)
      · refine zj_bipush 24 (-2) rfl rfl (by decide) ?_
        refine zj_ireturn 25 rfl rfl rfl ?_
        exact ⟨rfl, rfl, rfl⟩
      · refine zj_iload_n 18 rfl rfl rfl ?_
        refine zj_aload 19 rfl rfl rfl ?_
        refine zj_get 20 rfl rfl h.2.1.2.2.2.2.2.2.1.1 rfl ?_
        refine zj_iload_n 21 rfl rfl rfl ?_
        refine zn_iald 22 (j) rfl rfl h.2.1.2.2.2.2.2.2.1.2.2.2.2.1 rfl (by omega) (by decide) ?_
        refine zj_icmp_ge 23 rfl rfl (fun c51 => ?_) (fun c51 => ?_)
        · rw [nI_clamp (by omega)] at hv
          refine absurd ⟨zo_n0.mp c18, zo_n0.mp c30, ?_, ?_⟩ hv
          · rw [(hs.2.2.2.1.2.1 j (by omega)).2.1, Int32.le_iff_toInt_le] at c51
            exact c51
          · have g := (show zr night 1000 from zo_n0.mp c40).2
            omega
        · refine zj_bipush 24 (-2) rfl rfl (by decide) ?_
          refine zj_ireturn 25 rfl rfl rfl ?_
          exact ⟨rfl, rfl, rfl⟩
theorem k_Down (h : dAt σ c K) (v : Nat) (hv : v < 29) : zX E YD_own 2 [.ref c, .int (nI v)] (σ) (some (.int K.n.o)) (fun τ => zsm σ τ c (c + 134) ∧ dAt τ c (K.sn (K.n.so (nI v)))) := by
  refine zX.of oD_own (by decide +kernel) rfl rfl (fun n => ?_)
  refine zj_iload_n 0 rfl rfl rfl ?_
  refine zj_bipush 1 (29) rfl rfl (by decide) ?_
  refine zj_csx 2 rfl rfl lk_7_42 ckD_isOneOf (k_isOneOf _ _) rfl rfl rfl rfl ?_
  refine zj_if_ne 3 rfl rfl (fun c6 => ?_) (fun c6 => ?_)
  · refine zj_aload_n 6 rfl rfl rfl ?_
    refine zj_get 7 rfl rfl h.1 rfl ?_
    refine zj_get 8 rfl rfl h.2.1.1 rfl ?_
    refine zj_istore_n 9 rfl rfl ?_
    refine zj_aload_n 10 rfl rfl rfl ?_
    refine zj_get 11 rfl rfl h.1 rfl ?_
    refine zj_iload_n 12 rfl rfl rfl ?_
    refine zn_put 13 rfl rfl h.2.1.1 rfl rfl rfl rfl rfl ?_
    refine zj_iload_n 14 rfl rfl rfl ?_
    refine zj_ireturn 15 rfl rfl rfl ?_
    exact ⟨rfl, rfl, zsm_zup.wide (by omega) (by omega), h.un (zsm_zup.wide (by omega) (by omega)) (h.2.1.u0 (x := nI v) (y := K.n.e) zsm_zup (zup_eq _ _ _))⟩
  · exact absurd (zr_of (n := 29) (by omega) (by decide)) (zo_0.mp c6)
theorem k_Down_bad (v : Int32) (hb : ¬ zr v 29) : zM E YD_own 2 [.ref c, .int v] (σ) (some (.int (-2))) (σ) := by
  refine zM.of oD_own (by decide +kernel) rfl rfl (fun n => ?_)
  refine zj_iload_n 0 rfl rfl rfl ?_
  refine zj_bipush 1 (29) rfl rfl (by decide) ?_
  refine zj_csx 2 rfl rfl lk_7_42 ckD_isOneOf (k_isOneOf _ _) rfl rfl rfl rfl ?_
  refine zj_if_ne 3 rfl rfl (fun c6 => ?_) (fun c6 => ?_)
  · exact absurd (zo_n0.mp c6) hb
  · refine zj_bipush 4 (-2) rfl rfl (by decide) ?_
    refine zj_ireturn 5 rfl rfl rfl ?_
    exact ⟨rfl, rfl, rfl⟩
theorem k_Derror (h : dAt σ c K) (v : Nat) (hv : v < 29) : zX E YD_error 2 [.ref c, .int (nI v)] (σ) (some (.int K.n.e)) (fun τ => zsm σ τ c (c + 134) ∧ dAt τ c (K.sn (K.n.se (nI v)))) := by
  refine zX.of oD_error (by decide +kernel) rfl rfl (fun n => ?_)
  refine zj_iload_n 0 rfl rfl rfl ?_
  refine zj_bipush 1 (29) rfl rfl (by decide) ?_
  refine zj_csx 2 rfl rfl lk_7_42 ckD_isOneOf (k_isOneOf _ _) rfl rfl rfl rfl ?_
  refine zj_if_ne 3 rfl rfl (fun c6 => ?_) (fun c6 => ?_)
  · refine zj_aload_n 6 rfl rfl rfl ?_
    refine zj_get 7 rfl rfl h.1 rfl ?_
    refine zj_get 8 rfl rfl h.2.1.1 rfl ?_
    refine zj_istore_n 9 rfl rfl ?_
    refine zj_aload_n 10 rfl rfl rfl ?_
    refine zj_get 11 rfl rfl h.1 rfl ?_
    refine zj_iload_n 12 rfl rfl rfl ?_
    refine zn_put 13 rfl rfl h.2.1.1 rfl rfl rfl rfl rfl ?_
    refine zj_iload_n 14 rfl rfl rfl ?_
    refine zj_ireturn 15 rfl rfl rfl ?_
    exact ⟨rfl, rfl, zsm_zup.wide (by omega) (by omega), h.un (zsm_zup.wide (by omega) (by omega)) (h.2.1.u0 (x := K.n.o) (y := nI v) zsm_zup (zup_eq _ _ _))⟩
  · exact absurd (zr_of (n := 29) (by omega) (by decide)) (zo_0.mp c6)
theorem k_Derror_bad (v : Int32) (hb : ¬ zr v 29) : zM E YD_error 2 [.ref c, .int v] (σ) (some (.int (-2))) (σ) := by
  refine zM.of oD_error (by decide +kernel) rfl rfl (fun n => ?_)
  refine zj_iload_n 0 rfl rfl rfl ?_
  refine zj_bipush 1 (29) rfl rfl (by decide) ?_
  refine zj_csx 2 rfl rfl lk_7_42 ckD_isOneOf (k_isOneOf _ _) rfl rfl rfl rfl ?_
  refine zj_if_ne 3 rfl rfl (fun c6 => ?_) (fun c6 => ?_)
  · exact absurd (zo_n0.mp c6) hb
  · refine zj_bipush 4 (-2) rfl rfl (by decide) ?_
    refine zj_ireturn 5 rfl rfl rfl ?_
    exact ⟨rfl, rfl, rfl⟩
end
