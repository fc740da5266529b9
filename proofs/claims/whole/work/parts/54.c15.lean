/-! the component: lines of a law -/
def lnNo (x : Nat) : Nat := if x < 7 then pNo x (x + 1) else 28
theorem lnNo_s : ∀ x, x < 8 → pNo x 8 = lnNo (x + 1) ∧ pNo x (x + 1) = lnNo x := by decide +kernel
abbrev cTr (cs : List (Int32 × Int64)) (see : Nat → Int32) (g : Nat) (ws : Int32) (mk : Nat → Nat) (n : Nat) : Bool := decide (qVal cs (mLt see g (mk (pA n)) (mk (pBb n)) ws) ≠ 0)
def eyI (M : zMo) (ws : Int32) (g : Nat) (Mk : zMo) : Prop := Mk.2.1 0 5 = ws.toInt64 ∧ Mk.2.1 0 6 = (nI g).toInt64 ∧ Mk.2.2.1 = M.2.2.1
theorem eyI_aim {M Mk : zMo} {ws : Int32} {g : Nat} (h : eyI M ws g Mk) (f : Nat → Int64) (v1 v2 v3 v4 : Int64) : eyI M ws g ((Mk.sB 0 (va_up (va_up (va_up (va_up (Mk.2.1 0) 1 v1) 2 v2) 3 v3) 4 v4)).sB 1 f) := by
  obtain ⟨h1, h2, h3⟩ := h
  exact ⟨h1, h2, h3⟩
theorem eyI_lt {M Mk : zMo} {ws : Int32} {g : Nat} (h : eyI M ws g Mk) (see : Nat → Int32) (p q : Nat) : ∀ j, j < 6 → (Mk.sB 0 (va_up (va_up (va_up (va_up (Mk.2.1 0) 1 (see p).toInt64) 2 (see q).toInt64) 3 (nI (zfar p q)).toInt64) 4 (see (zmid p q)).toInt64)).2.1 0 (j + 1) = mLt see g p q ws j := by
  obtain ⟨h1, h2, h3⟩ := h
  intro j hj
  match j, hj with
  | 0, _ => rfl
  | 1, _ => rfl
  | 2, _ => rfl
  | 3, _ => rfl
  | 4, _ => exact h1
  | 5, _ => exact h2
  | j + 6, h => omega
section
variable {E : zE} {σ : zH} {a b : Nat} {M N Pc : zMo}
theorem l_lines_in (hL : zktAt σ b N) (hd : b + 3 ≤ a ∨ a + 7 ≤ b) (hP : zkpAt σ (a + 1) Pc) (g : Nat) (hgl : Pc.2.2.1 0 = nI g) (mr : Nat) (mf : Nat → Int32) (mk : Nat → Nat) (hm : σ mr = some (.inl (0, 8, .inl mf))) (hmd : mr < a ∨ a + 7 ≤ mr) (hmk : ∀ m, m < 8 → mf m = nI (mk m) ∧ mk m < 81) (ws : Int32) (cs : List (Int32 × Int64)) (hn : N.2.2.1 2 = nI cs.length) (hn2 : cs.length ≤ 40) (hst : ∀ i p, cs[i]? = some p → N.1 1 i = cst p) (hco : ∀ p ∈ cs, cCode p) (hev : ∀ lt, ∃ fin, evC lt cs [] = some fin) (x : Nat) (hx : x < 8) (kk : ∀ n Mk, eyI M ws g Mk → zXB E YEy_linesOf 3 n (some (.int (pDr (cTr cs (Pc.1 2) g ws mk) 28))) (fun s => ∃ Mk, s = zke σ a Mk ∧ Mk.2.2.1 = M.2.2.1) (zke σ a Mk) 102 [some (.ref a), some (.ref b), some (.ref mr), some (.int ws), some (.int (pDr (cTr cs (Pc.1 2) g ws mk) (pNo x 8))), some (.int (nI (pNo x 8))), some (.int (nI x)), some (.int (nI 8))] []) : ∀ (m : Nat) (y : Nat) (Mk : zMo), (y + m = 8) → (x < y) → (eyI M ws g Mk) → ∀ n, zXB E YEy_linesOf 3 n (some (.int (pDr (cTr cs (Pc.1 2) g ws mk) 28))) (fun s => ∃ Mk, s = zke σ a Mk ∧ Mk.2.2.1 = M.2.2.1) (zke σ a Mk) 55 [some (.ref a), some (.ref b), some (.ref mr), some (.int ws), some (.int (pDr (cTr cs (Pc.1 2) g ws mk) (pNo x y))), some (.int (nI (pNo x y))), some (.int (nI x)), some (.int (nI y))] [] := by
  intro m
  induction m using Nat.strongRecOn with
  | ind m ih =>
  intro y Mk hk hxy hI n
  refine zj_iload 34 rfl rfl rfl ?_
  refine zj_aload_n 35 rfl rfl rfl ?_
  refine zj_alen 36 rfl rfl (by rw [zke_ne (by omega)]; exact hm) (by decide) ?_
  refine zn_icmp_ge 37 (y) (8) rfl rfl rfl rfl (by omega) (by omega) (fun c59 => ?_) (fun c59 => ?_)
  · obtain rfl : y = 8 := by omega
    exact kk n Mk hI
  · have hno := pNo_ok x hx y (by omega) hxy
    refine zj_aload_n 38 rfl rfl rfl ?_
    refine zj_aload_n 39 rfl rfl rfl ?_
    refine zj_iload 40 rfl rfl rfl ?_
    refine zn_iald 41 (x) rfl rfl (by rw [zke_ne (by omega)]; exact hm) rfl (by omega) (by decide) ?_
    refine zj_aload_n 42 rfl rfl rfl ?_
    refine zj_iload 43 rfl rfl rfl ?_
    refine zn_iald 44 (y) rfl rfl (by rw [zke_ne (by omega)]; exact hm) rfl (by omega) (by decide) ?_
    rw [(hmk x hx).1, (hmk y (by omega)).1]
    refine zj_cvv 45 rfl rfl lk_1_50 ckEy_aimAt (k_aimAt hP (mk x) (mk y) (hmk x hx).2 (hmk y (by omega)).2) rfl zke_0 rfl rfl rfl ?_
    refine zj_aload_n 46 rfl rfl rfl ?_
    refine zj_aload_n 47 rfl rfl rfl ?_
    refine zj_cvxX 48 rfl rfl lk_1_54 ckEy_work (k_work (M := Mk.sB 0 (va_up (va_up (va_up (va_up (Mk.2.1 0) 1 (Pc.1 2 (mk x)).toInt64) 2 (Pc.1 2 (mk y)).toInt64) 3 (nI (zfar (mk x) (mk y))).toInt64) 4 (Pc.1 2 (zmid (mk x) (mk y))).toInt64)) hL hd cs (mLt (Pc.1 2) g (mk x) (mk y) ws) hn hn2 hst hco (eyI_lt hI (Pc.1 2) (mk x) (mk y)) (hev _).choose (hev _).choose_spec) rfl zke_0 rfl rfl rfl (fun s1 hP1 => ?_)
    obtain ⟨f, rfl⟩ := hP1
    refine zj_lconst 49 (0) rfl rfl (by decide) ?_
    refine zj_lcmp 50 rfl rfl ?_
    refine zj_if_eq 51 rfl rfl (fun c81 => ?_) (fun c81 => ?_)
    · refine zn_iinc 58 (pNo x y) rfl rfl rfl rfl ?_
      refine zn_iinc 59 (y) rfl rfl rfl rfl ?_
      refine zj_goto 60 rfl rfl ?_
      have e : pDr (cTr cs (Pc.1 2) g ws mk) (pNo x y + 1) = pDr (cTr cs (Pc.1 2) g ws mk) (pNo x y) ||| (if (cTr cs (Pc.1 2) g ws mk) (pNo x y) then 1 <<< (nI (pNo x y) &&& 31) else 0) := rfl
      have e2 : (cTr cs (Pc.1 2) g ws mk) (pNo x y) = decide (qVal cs (mLt (Pc.1 2) g (mk x) (mk y) ws) ≠ 0) := by unfold cTr; rw [hno.2.1, hno.2.2.1]
      rw [e2, if_neg (by rw [decide_eq_true_eq]; exact fun z => z ((lg_cmp_eq _ _).mp c81)), zor0] at e
      have hh := ih (m - 1) (by omega) (y + 1) ((Mk.sB 0 (va_up (va_up (va_up (va_up (Mk.2.1 0) 1 (Pc.1 2 (mk x)).toInt64) 2 (Pc.1 2 (mk y)).toInt64) 3 (nI (zfar (mk x) (mk y))).toInt64) 4 (Pc.1 2 (zmid (mk x) (mk y))).toInt64)).sB 1 f) (by omega) (by omega) (eyI_aim hI f _ _ _ _) n
      rw [hno.2.2.2, e] at hh
      exact hh
    · refine zj_iload 52 rfl rfl rfl ?_
      refine zj_iconst 53 (1) rfl rfl (by decide) ?_
      refine zj_iload 54 rfl rfl rfl ?_
      refine zj_ishl 55 rfl rfl ?_
      refine zj_ior 56 rfl rfl ?_
      refine zj_istore 57 rfl rfl ?_
      refine zn_iinc 58 (pNo x y) rfl rfl rfl rfl ?_
      refine zn_iinc 59 (y) rfl rfl rfl rfl ?_
      refine zj_goto 60 rfl rfl ?_
      have e : pDr (cTr cs (Pc.1 2) g ws mk) (pNo x y + 1) = pDr (cTr cs (Pc.1 2) g ws mk) (pNo x y) ||| (if (cTr cs (Pc.1 2) g ws mk) (pNo x y) then 1 <<< (nI (pNo x y) &&& 31) else 0) := rfl
      have e2 : (cTr cs (Pc.1 2) g ws mk) (pNo x y) = decide (qVal cs (mLt (Pc.1 2) g (mk x) (mk y) ws) ≠ 0) := by unfold cTr; rw [hno.2.1, hno.2.2.1]
      rw [e2, if_pos (by rw [decide_eq_true_eq]; exact fun z => c81 ((lg_cmp_eq _ _).mpr z))] at e
      have hh := ih (m - 1) (by omega) (y + 1) ((Mk.sB 0 (va_up (va_up (va_up (va_up (Mk.2.1 0) 1 (Pc.1 2 (mk x)).toInt64) 2 (Pc.1 2 (mk y)).toInt64) 3 (nI (zfar (mk x) (mk y))).toInt64) 4 (Pc.1 2 (zmid (mk x) (mk y))).toInt64)).sB 1 f) (by omega) (by omega) (eyI_aim hI f _ _ _ _) n
      rw [hno.2.2.2, e] at hh
      exact hh
theorem l_lines (hL : zktAt σ b N) (hd : b + 3 ≤ a ∨ a + 7 ≤ b) (hP : zkpAt σ (a + 1) Pc) (g : Nat) (hgl : Pc.2.2.1 0 = nI g) (mr : Nat) (mf : Nat → Int32) (mk : Nat → Nat) (hm : σ mr = some (.inl (0, 8, .inl mf))) (hmd : mr < a ∨ a + 7 ≤ mr) (hmk : ∀ m, m < 8 → mf m = nI (mk m) ∧ mk m < 81) (ws : Int32) (cs : List (Int32 × Int64)) (hn : N.2.2.1 2 = nI cs.length) (hn2 : cs.length ≤ 40) (hst : ∀ i p, cs[i]? = some p → N.1 1 i = cst p) (hco : ∀ p ∈ cs, cCode p) (hev : ∀ lt, ∃ fin, evC lt cs [] = some fin) : ∀ (m : Nat) (x : Nat) (Mk : zMo) (o7 : Option Value), (x + m = 8) → (eyI M ws g Mk) → ∀ n, zXB E YEy_linesOf 3 n (some (.int (pDr (cTr cs (Pc.1 2) g ws mk) 28))) (fun s => ∃ Mk, s = zke σ a Mk ∧ Mk.2.2.1 = M.2.2.1) (zke σ a Mk) 42 [some (.ref a), some (.ref b), some (.ref mr), some (.int ws), some (.int (pDr (cTr cs (Pc.1 2) g ws mk) (lnNo x))), some (.int (nI (lnNo x))), some (.int (nI x)), o7] [] := by
  intro m
  induction m using Nat.strongRecOn with
  | ind m ih =>
  intro x Mk o7 hk hI n
  refine zj_iload 26 rfl rfl rfl ?_
  refine zj_aload_n 27 rfl rfl rfl ?_
  refine zj_alen 28 rfl rfl (by rw [zke_ne (by omega)]; exact hm) (by decide) ?_
  refine zn_icmp_ge 29 (x) (8) rfl rfl rfl rfl (by omega) (by omega) (fun c46 => ?_) (fun c46 => ?_)
  · refine zj_iload 63 rfl rfl rfl ?_
    refine zj_ireturn 64 rfl rfl rfl ?_
    obtain rfl : x = 8 := by omega
    exact ⟨rfl, rfl, Mk, rfl, hI.2.2⟩
  · refine zj_iload 30 rfl rfl rfl ?_
    refine zj_iconst 31 (1) rfl rfl (by decide) ?_
    refine zn_iadd 32 (x) (1) rfl rfl rfl rfl ?_
    refine zj_istore 33 rfl rfl ?_
    rw [← (lnNo_s x (by omega)).2]
    refine l_lines_in hL hd hP g hgl mr mf mk hm hmd hmk ws cs hn hn2 hst hco hev x (by omega) (fun n Mk hI => ?_) (8 - (x + 1)) (x + 1) Mk (by omega) (by omega) hI n
    refine zn_iinc 61 (x) rfl rfl rfl rfl ?_
    refine zj_goto 62 rfl rfl ?_
    have hh := fun o => ih (m - 1) (by omega) (x + 1) Mk o (by omega) hI n
    rw [← (lnNo_s x (by omega)).1] at hh
    exact hh _
theorem k_Elines (hL : zktAt σ b N) (hd : b + 3 ≤ a ∨ a + 7 ≤ b) (hP : zkpAt σ (a + 1) Pc) (g : Nat) (hgl : Pc.2.2.1 0 = nI g) (mr : Nat) (mf : Nat → Int32) (mk : Nat → Nat) (hm : σ mr = some (.inl (0, 8, .inl mf))) (hmd : mr < a ∨ a + 7 ≤ mr) (hmk : ∀ m, m < 8 → mf m = nI (mk m) ∧ mk m < 81) (ws : Int32) (cs : List (Int32 × Int64)) (hn : N.2.2.1 2 = nI cs.length) (hn2 : cs.length ≤ 40) (hst : ∀ i p, cs[i]? = some p → N.1 1 i = cst p) (hco : ∀ p ∈ cs, cCode p) (hev : ∀ lt, ∃ fin, evC lt cs [] = some fin) (hf : N.2.2.1 1 = -1) : zX E YEy_linesOf 3 [.ref a, .ref b, .ref mr, .int ws] (zke σ a M) (some (.int (pDr (cTr cs (Pc.1 2) g ws mk) 28))) (fun s => ∃ Mk, s = zke σ a Mk ∧ Mk.2.2.1 = M.2.2.1) := by
  refine zX.of oEy_linesOf (by decide +kernel) rfl rfl (fun n => ?_)
  refine zj_aload_n 0 rfl rfl rfl ?_
  refine zj_get 1 rfl rfl (by rw [zke_ne (by omega)]; exact hL.1) rfl ?_
  refine zj_iconst 2 (-1) rfl rfl (by decide) ?_
  refine zj_icmp_eq 3 rfl rfl (fun c5 => ?_) (fun c5 => ?_)
  · refine zj_aload_n 6 rfl rfl rfl ?_
    refine zj_get 7 rfl rfl zke_0 rfl ?_
    refine zj_iconst 8 (5) rfl rfl (by decide) ?_
    refine zj_iload_n 9 rfl rfl rfl ?_
    refine zj_i2l 10 rfl rfl ?_
    refine zn_last 11 (5) rfl rfl zke_5 rfl (by omega) (by decide) zke_u5 ?_
    refine zj_aload_n 12 rfl rfl rfl ?_
    refine zj_get 13 rfl rfl zke_0 rfl ?_
    refine zj_bipush 14 (6) rfl rfl (by decide) ?_
    refine zj_aload_n 15 rfl rfl rfl ?_
    refine zj_get 16 rfl rfl zke_0 rfl ?_
    refine zj_get 17 rfl rfl (zkp_in hP).1 rfl ?_
    rw [hgl]
    refine zj_i2l 18 rfl rfl ?_
    refine zn_last 19 (6) rfl rfl zke_5 rfl (by omega) (by decide) zke_u5 ?_
    refine zj_iconst 20 (0) rfl rfl (by decide) ?_
    refine zj_istore 21 rfl rfl ?_
    refine zj_iconst 22 (0) rfl rfl (by decide) ?_
    refine zj_istore 23 rfl rfl ?_
    refine zj_iconst 24 (0) rfl rfl (by decide) ?_
    refine zj_istore 25 rfl rfl ?_
    simp only [sB_sB]
    exact l_lines hL hd hP g hgl mr mf mk hm hmd hmk ws cs hn hn2 hst hco hev 8 0 _ _ (by omega) ⟨rfl, rfl, rfl⟩ n
  · exact absurd hf c5
theorem k_Elines_f (hL : zktAt σ b N) (hd : b + 3 ≤ a ∨ a + 7 ≤ b) (mr : Nat) (ws : Int32) (hf : ¬ N.2.2.1 1 = -1) : zM E YEy_linesOf 3 [.ref a, .ref b, .ref mr, .int ws] (zke σ a M) (some (.int 0)) (zke σ a M) := by
  refine zM.of oEy_linesOf (by decide +kernel) rfl rfl (fun n => ?_)
  refine zj_aload_n 0 rfl rfl rfl ?_
  refine zj_get 1 rfl rfl (by rw [zke_ne (by omega)]; exact hL.1) rfl ?_
  refine zj_iconst 2 (-1) rfl rfl (by decide) ?_
  refine zj_icmp_eq 3 rfl rfl (fun c5 => ?_) (fun c5 => ?_)
  · exact absurd c5 hf
  · refine zj_iconst 4 (0) rfl rfl (by decide) ?_
    refine zj_ireturn 5 rfl rfl rfl ?_
    exact ⟨rfl, rfl, rfl⟩
theorem k_look (hL : zktAt σ b N) (hd : b + 3 ≤ a ∨ a + 7 ≤ b) (hP : zkpAt σ (a + 1) Pc) (g : Nat) (hgl : Pc.2.2.1 0 = nI g) (mr : Nat) (mf : Nat → Int32) (mk : Nat → Nat) (hm : σ mr = some (.inl (0, 8, .inl mf))) (hmd : mr < a ∨ a + 7 ≤ mr) (hmk : ∀ m, m < 8 → mf m = nI (mk m) ∧ mk m < 81) (cs : List (Int32 × Int64)) (hn : N.2.2.1 2 = nI cs.length) (hn2 : cs.length ≤ 40) (hst : ∀ i p, cs[i]? = some p → N.1 1 i = cst p) (hco : ∀ p ∈ cs, cCode p) (hev : ∀ lt, ∃ fin, evC lt cs [] = some fin) (hf : N.2.2.1 1 = -1) : zX E YEy_look 4 [.ref a, .ref b, .ref mr] (zke σ a M) (none) (fun s => ∃ Mk, s = zke σ a Mk ∧ Mk.2.2.1 0 = (pDr (cTr cs (Pc.1 2) g 0 mk) 28) ∧ Mk.2.2.1 1 = (if N.2.2.1 3 = 0 then (pDr (cTr cs (Pc.1 2) g 0 mk) 28) else pDr (cTr cs (Pc.1 2) g 1 mk) 28)) := by
  refine zX.of oEy_look (by decide +kernel) rfl rfl (fun n => ?_)
  refine zj_aload_n 0 rfl rfl rfl ?_
  refine zj_aload_n 1 rfl rfl rfl ?_
  refine zj_aload_n 2 rfl rfl rfl ?_
  refine zj_aload_n 3 rfl rfl rfl ?_
  refine zj_iconst 4 (0) rfl rfl (by decide) ?_
  refine zj_cvxX 5 rfl rfl lk_1_25 ckEy_linesOf (k_Elines (M := M) hL hd hP g hgl mr mf mk hm hmd hmk 0 cs hn hn2 hst hco hev hf) rfl zke_0 rfl rfl rfl (fun s1 hP1 => ?_)
  obtain ⟨M1, rfl, h1⟩ := hP1
  refine zn_put 6 rfl rfl zke_0 rfl rfl rfl rfl zke_p_linesOfUnshown ?_
  refine zj_aload_n 7 rfl rfl rfl ?_
  refine zj_aload_n 8 rfl rfl rfl ?_
  refine zj_get 9 rfl rfl (by rw [zke_ne (by omega)]; exact hL.1) rfl ?_
  refine zj_if_eq 10 rfl rfl (fun c16 => ?_) (fun c16 => ?_)
  · refine zj_aload_n 17 rfl rfl rfl ?_
    refine zj_get 18 rfl rfl zke_0 rfl ?_
    refine zn_put 19 rfl rfl zke_0 rfl rfl rfl rfl zke_p_linesOfShown ?_
    refine zj_return 20 rfl rfl rfl ?_
    refine ⟨rfl, rfl, _, rfl, rfl, ?_⟩
    exact (if_pos c16).symm
  · refine zj_aload_n 11 rfl rfl rfl ?_
    refine zj_aload_n 12 rfl rfl rfl ?_
    refine zj_aload_n 13 rfl rfl rfl ?_
    refine zj_iconst 14 (1) rfl rfl (by decide) ?_
    refine zj_cvxX 15 rfl rfl lk_1_25 ckEy_linesOf (k_Elines (M := M1.sI 0 (pDr (cTr cs (Pc.1 2) g 0 mk) 28)) hL hd hP g hgl mr mf mk hm hmd hmk 1 cs hn hn2 hst hco hev hf) rfl zke_0 rfl rfl rfl (fun s1 hP1 => ?_)
    obtain ⟨M2, rfl, h2⟩ := hP1
    refine zj_goto 16 rfl rfl ?_
    refine zn_put 19 rfl rfl zke_0 rfl rfl rfl rfl zke_p_linesOfShown ?_
    refine zj_return 20 rfl rfl rfl ?_
    refine ⟨rfl, rfl, _, rfl, ?_, ?_⟩
    · exact congrFun h2 0
    · exact (if_neg c16).symm
theorem k_look_f (hL : zktAt σ b N) (hd : b + 3 ≤ a ∨ a + 7 ≤ b) (mr : Nat) (hf : ¬ N.2.2.1 1 = -1) : zM E YEy_look 4 [.ref a, .ref b, .ref mr] (zke σ a M) (none) (zke σ a ((M.sI 0 0).sI 1 0)) := by
  refine zM.of oEy_look (by decide +kernel) rfl rfl (fun n => ?_)
  refine zj_aload_n 0 rfl rfl rfl ?_
  refine zj_aload_n 1 rfl rfl rfl ?_
  refine zj_aload_n 2 rfl rfl rfl ?_
  refine zj_aload_n 3 rfl rfl rfl ?_
  refine zj_iconst 4 (0) rfl rfl (by decide) ?_
  refine zj_cvx 5 rfl rfl lk_1_25 ckEy_linesOf (k_Elines_f hL hd mr _ hf) rfl zke_0 rfl rfl rfl ?_
  refine zn_put 6 rfl rfl zke_0 rfl rfl rfl rfl zke_p_linesOfUnshown ?_
  refine zj_aload_n 7 rfl rfl rfl ?_
  refine zj_aload_n 8 rfl rfl rfl ?_
  refine zj_get 9 rfl rfl (by rw [zke_ne (by omega)]; exact hL.1) rfl ?_
  refine zj_if_eq 10 rfl rfl (fun c16 => ?_) (fun c16 => ?_)
  · refine zj_aload_n 17 rfl rfl rfl ?_
    refine zj_get 18 rfl rfl zke_0 rfl ?_
    refine zn_put 19 rfl rfl zke_0 rfl rfl rfl rfl zke_p_linesOfShown ?_
    refine zj_return 20 rfl rfl rfl ?_
    exact ⟨rfl, rfl, rfl⟩
  · refine zj_aload_n 11 rfl rfl rfl ?_
    refine zj_aload_n 12 rfl rfl rfl ?_
    refine zj_aload_n 13 rfl rfl rfl ?_
    refine zj_iconst 14 (1) rfl rfl (by decide) ?_
    refine zj_cvx 15 rfl rfl lk_1_25 ckEy_linesOf (k_Elines_f hL hd mr _ hf) rfl zke_0 rfl rfl rfl ?_
    refine zj_goto 16 rfl rfl ?_
    refine zn_put 19 rfl rfl zke_0 rfl rfl rfl rfl zke_p_linesOfShown ?_
    refine zj_return 20 rfl rfl rfl ?_
    exact ⟨rfl, rfl, rfl⟩
end
