/-! the reference: fairest, draw, oldest, took -/
abbrev mFar (r : Nat → Int32) (ml mk : Nat → Nat) (l w g : Nat) : Int32 := mDw (fun j => r (372 + 40 * l + j)) (ml l) (mSeen (mFp r w mk (fun _ => 0) 8) g 0) g 0 mk
abbrev zab (x : Int32) : Int32 := if x < 0 then -x else x
def pFr (v : Nat → Int32) : Nat → Int32 × Int32
  | 0 => (0, -1)
  | g + 1 => if (pFr v g).2 < zab (v g) then (nI g, zab (v g)) else pFr v g
theorem pFr_s (v : Nat → Int32) (g : Nat) : pFr v (g + 1) = if (pFr v g).2 < zab (v g) then (nI g, zab (v g)) else pFr v g := rfl
theorem mCr_sI (M : zMo) (j : Nat) (x : Int32) : mCr M (M.sI j x) := ⟨rfl, rfl, rfl, rfl, rfl, rfl⟩
section
variable {E : zE} {σ : zH} {a : Nat} {M : zMo}
theorem k_drawnFar_r (r : Nat → Int32) (hr0 : M.1 0 = r) (no ns nh ng : Nat) (ml mk : Nat → Nat) (ok : mOk r no ns nh ng ml mk) (l w g : Nat) (hl : l < 4) (hw : w < 4) (hg : g < 4) : zX E YM_drawnFar 8 [.ref a, .int (nI l), .int (nI w), .int (nI g)] (mw σ a M) (some (.int (mFar r ml mk l w g))) (mQ σ a M) := by
  subst hr0
  exact k_drawnFar l w g (ml l) mk hl hw hg (ok.2.2.2.2.1 l hl).1 (ok.2.2.2.2.1 l hl).2 ok.2.2.2.2.2.1
theorem l_fair (no ns nh ng : Nat) (ml mk : Nat → Nat) (ok : mOk (M.1 0) no ns nh ng ml mk) (l1 l2 w : Nat) (what : Int32) (h1 : l1 < 4) (h2 : l2 < 4) (hw : w < 4) : ∀ (m : Nat) (g : Nat) (Mk : zMo) (o8 : Option Value), (g + m = 4) → (mCr M Mk) → ∀ n, zXB E YM_fairest 9 n (some (.int (if what = 0 then (pFr (fun g => zb28 (mFar (M.1 0) ml mk l1 w g) 28 - zb28 (mFar (M.1 0) ml mk l2 w g) 28) 4).1 else (pFr (fun g => zb28 (mFar (M.1 0) ml mk l1 w g) 28 - zb28 (mFar (M.1 0) ml mk l2 w g) 28) 4).2))) (mQ σ a M) (mw σ a Mk) 44 [some (.ref a), some (.int (nI l1)), some (.int (nI l2)), some (.int (nI w)), some (.int what), some (.int (pFr (fun g => zb28 (mFar (M.1 0) ml mk l1 w g) 28 - zb28 (mFar (M.1 0) ml mk l2 w g) 28) g).1), some (.int (pFr (fun g => zb28 (mFar (M.1 0) ml mk l1 w g) 28 - zb28 (mFar (M.1 0) ml mk l2 w g) 28) g).2), some (.int (nI g)), o8] [] := by
  intro m
  induction m using Nat.strongRecOn with
  | ind m ih =>
  intro g Mk o8 hk hc n
  refine zj_iload 23 rfl rfl rfl ?_
  refine zj_iconst 24 (4) rfl rfl (by decide) ?_
  refine zn_icmp_ge 25 (g) (4) rfl rfl rfl rfl (by omega) (by omega) (fun c47 => ?_) (fun c47 => ?_)
  · refine zj_iload 63 rfl rfl rfl ?_
    refine zj_if_ne 64 rfl rfl (fun c130 => ?_) (fun c130 => ?_)
    · refine zj_iload 67 rfl rfl rfl ?_
      refine zj_ireturn 68 rfl rfl rfl ?_
      obtain rfl : g = 4 := by omega
      exact ⟨zrt (by rw [if_neg c130]), rfl, Mk, rfl, hc⟩
    · refine zj_iload 65 rfl rfl rfl ?_
      refine zj_goto 66 rfl rfl ?_
      refine zj_ireturn 68 rfl rfl rfl ?_
      obtain rfl : g = 4 := by omega
      exact ⟨zrt (by rw [if_pos c130]), rfl, Mk, rfl, hc⟩
  · refine zj_aload_n 26 rfl rfl rfl ?_
    refine zj_iload_n 27 rfl rfl rfl ?_
    refine zj_iload_n 28 rfl rfl rfl ?_
    refine zj_iload 29 rfl rfl rfl ?_
    refine zj_cvxX 30 rfl rfl lk_8_181 ckM_drawnFar (k_drawnFar_r (M.1 0) hc.1 no ns nh ng ml mk ok l1 w g h1 hw (by omega)) rfl mw_0 rfl rfl rfl (fun s1 hP1 => ?_)
    obtain ⟨M1, rfl, hc0⟩ := hP1
    have hc1 := hc.trans hc0
    refine zj_csx 31 rfl rfl lk_8_184 ckM_bitsOf (k_bitsOf _) rfl rfl rfl rfl ?_
    refine zj_aload_n 32 rfl rfl rfl ?_
    refine zj_iload_n 33 rfl rfl rfl ?_
    refine zj_iload_n 34 rfl rfl rfl ?_
    refine zj_iload 35 rfl rfl rfl ?_
    refine zj_cvxX 36 rfl rfl lk_8_181 ckM_drawnFar (k_drawnFar_r (M.1 0) hc1.1 no ns nh ng ml mk ok l2 w g h2 hw (by omega)) rfl mw_0 rfl rfl rfl (fun s1 hP1 => ?_)
    obtain ⟨M2, rfl, hc00⟩ := hP1
    have hc2 := hc1.trans hc00
    refine zj_csx 37 rfl rfl lk_8_184 ckM_bitsOf (k_bitsOf _) rfl rfl rfl rfl ?_
    refine zj_isub 38 rfl rfl ?_
    refine zj_istore 39 rfl rfl ?_
    refine zj_iload 40 rfl rfl rfl ?_
    refine zj_if_ge 41 rfl rfl (fun c77 => ?_) (fun c77 => ?_)
    · refine zj_iload 45 rfl rfl rfl ?_
      refine zj_istore 46 rfl rfl ?_
      refine zj_iload 47 rfl rfl rfl ?_
      refine zj_iload 48 rfl rfl rfl ?_
      refine zj_icmp_le 49 rfl rfl (fun c94 => ?_) (fun c94 => ?_)
      · refine zj_iload 52 rfl rfl rfl ?_
        refine zj_istore 53 rfl rfl ?_
        refine zj_iload 54 rfl rfl rfl ?_
        refine zj_iload 55 rfl rfl rfl ?_
        refine zj_icmp_le 56 rfl rfl (fun c110 => ?_) (fun c110 => ?_)
        · refine zj_iload 59 rfl rfl rfl ?_
          refine zj_istore 60 rfl rfl ?_
          refine zn_iinc 61 (g) rfl rfl rfl rfl ?_
          refine zj_goto 62 rfl rfl ?_
          have e := pFr_s (fun g => zb28 (mFar (M.1 0) ml mk l1 w g) 28 - zb28 (mFar (M.1 0) ml mk l2 w g) 28) g
          have ez : zab ((fun g => zb28 (mFar (M.1 0) ml mk l1 w g) 28 - zb28 (mFar (M.1 0) ml mk l2 w g) 28) g) = _ := if_neg (Int32.not_lt.mpr c77)
          rw [ez] at e
          have hh := fun o => ih (m - 1) (by omega) (g + 1) M2 o (by omega) hc2 n
          first
            | exact absurd c110 (Int32.not_le.mpr c94)
            | exact absurd c94 (Int32.not_le.mpr c110)
            | exact absurd c94 c110
            | exact absurd c110 c94
            | (rw [if_pos (Int32.not_le.mp c94)] at e; rw [e] at hh; exact hh _)
            | (rw [if_neg (Int32.not_lt.mpr c94)] at e; rw [e] at hh; exact hh _)
        · refine zj_iload 57 rfl rfl rfl ?_
          refine zj_goto 58 rfl rfl ?_
          refine zj_istore 60 rfl rfl ?_
          refine zn_iinc 61 (g) rfl rfl rfl rfl ?_
          refine zj_goto 62 rfl rfl ?_
          have e := pFr_s (fun g => zb28 (mFar (M.1 0) ml mk l1 w g) 28 - zb28 (mFar (M.1 0) ml mk l2 w g) 28) g
          have ez : zab ((fun g => zb28 (mFar (M.1 0) ml mk l1 w g) 28 - zb28 (mFar (M.1 0) ml mk l2 w g) 28) g) = _ := if_neg (Int32.not_lt.mpr c77)
          rw [ez] at e
          have hh := fun o => ih (m - 1) (by omega) (g + 1) M2 o (by omega) hc2 n
          first
            | exact absurd c110 (Int32.not_le.mpr c94)
            | exact absurd c94 (Int32.not_le.mpr c110)
            | exact absurd c94 c110
            | exact absurd c110 c94
            | (rw [if_pos (Int32.not_le.mp c94)] at e; rw [e] at hh; exact hh _)
            | (rw [if_neg (Int32.not_lt.mpr c94)] at e; rw [e] at hh; exact hh _)
      · refine zj_iload 50 rfl rfl rfl ?_
        refine zj_goto 51 rfl rfl ?_
        refine zj_istore 53 rfl rfl ?_
        refine zj_iload 54 rfl rfl rfl ?_
        refine zj_iload 55 rfl rfl rfl ?_
        refine zj_icmp_le 56 rfl rfl (fun c110 => ?_) (fun c110 => ?_)
        · refine zj_iload 59 rfl rfl rfl ?_
          refine zj_istore 60 rfl rfl ?_
          refine zn_iinc 61 (g) rfl rfl rfl rfl ?_
          refine zj_goto 62 rfl rfl ?_
          have e := pFr_s (fun g => zb28 (mFar (M.1 0) ml mk l1 w g) 28 - zb28 (mFar (M.1 0) ml mk l2 w g) 28) g
          have ez : zab ((fun g => zb28 (mFar (M.1 0) ml mk l1 w g) 28 - zb28 (mFar (M.1 0) ml mk l2 w g) 28) g) = _ := if_neg (Int32.not_lt.mpr c77)
          rw [ez] at e
          have hh := fun o => ih (m - 1) (by omega) (g + 1) M2 o (by omega) hc2 n
          first
            | exact absurd c110 (Int32.not_le.mpr c94)
            | exact absurd c94 (Int32.not_le.mpr c110)
            | exact absurd c94 c110
            | exact absurd c110 c94
            | (rw [if_pos (Int32.not_le.mp c94)] at e; rw [e] at hh; exact hh _)
            | (rw [if_neg (Int32.not_lt.mpr c94)] at e; rw [e] at hh; exact hh _)
        · refine zj_iload 57 rfl rfl rfl ?_
          refine zj_goto 58 rfl rfl ?_
          refine zj_istore 60 rfl rfl ?_
          refine zn_iinc 61 (g) rfl rfl rfl rfl ?_
          refine zj_goto 62 rfl rfl ?_
          have e := pFr_s (fun g => zb28 (mFar (M.1 0) ml mk l1 w g) 28 - zb28 (mFar (M.1 0) ml mk l2 w g) 28) g
          have ez : zab ((fun g => zb28 (mFar (M.1 0) ml mk l1 w g) 28 - zb28 (mFar (M.1 0) ml mk l2 w g) 28) g) = _ := if_neg (Int32.not_lt.mpr c77)
          rw [ez] at e
          have hh := fun o => ih (m - 1) (by omega) (g + 1) M2 o (by omega) hc2 n
          first
            | exact absurd c110 (Int32.not_le.mpr c94)
            | exact absurd c94 (Int32.not_le.mpr c110)
            | exact absurd c94 c110
            | exact absurd c110 c94
            | (rw [if_pos (Int32.not_le.mp c94)] at e; rw [e] at hh; exact hh _)
            | (rw [if_neg (Int32.not_lt.mpr c94)] at e; rw [e] at hh; exact hh _)
    · refine zj_iload 42 rfl rfl rfl ?_
      refine zj_ineg 43 rfl rfl ?_
      refine zj_goto 44 rfl rfl ?_
      refine zj_istore 46 rfl rfl ?_
      refine zj_iload 47 rfl rfl rfl ?_
      refine zj_iload 48 rfl rfl rfl ?_
      refine zj_icmp_le 49 rfl rfl (fun c94 => ?_) (fun c94 => ?_)
      · refine zj_iload 52 rfl rfl rfl ?_
        refine zj_istore 53 rfl rfl ?_
        refine zj_iload 54 rfl rfl rfl ?_
        refine zj_iload 55 rfl rfl rfl ?_
        refine zj_icmp_le 56 rfl rfl (fun c110 => ?_) (fun c110 => ?_)
        · refine zj_iload 59 rfl rfl rfl ?_
          refine zj_istore 60 rfl rfl ?_
          refine zn_iinc 61 (g) rfl rfl rfl rfl ?_
          refine zj_goto 62 rfl rfl ?_
          have e := pFr_s (fun g => zb28 (mFar (M.1 0) ml mk l1 w g) 28 - zb28 (mFar (M.1 0) ml mk l2 w g) 28) g
          have ez : zab ((fun g => zb28 (mFar (M.1 0) ml mk l1 w g) 28 - zb28 (mFar (M.1 0) ml mk l2 w g) 28) g) = _ := if_pos (Int32.not_le.mp c77)
          rw [ez] at e
          have hh := fun o => ih (m - 1) (by omega) (g + 1) M2 o (by omega) hc2 n
          first
            | exact absurd c110 (Int32.not_le.mpr c94)
            | exact absurd c94 (Int32.not_le.mpr c110)
            | exact absurd c94 c110
            | exact absurd c110 c94
            | (rw [if_pos (Int32.not_le.mp c94)] at e; rw [e] at hh; exact hh _)
            | (rw [if_neg (Int32.not_lt.mpr c94)] at e; rw [e] at hh; exact hh _)
        · refine zj_iload 57 rfl rfl rfl ?_
          refine zj_goto 58 rfl rfl ?_
          refine zj_istore 60 rfl rfl ?_
          refine zn_iinc 61 (g) rfl rfl rfl rfl ?_
          refine zj_goto 62 rfl rfl ?_
          have e := pFr_s (fun g => zb28 (mFar (M.1 0) ml mk l1 w g) 28 - zb28 (mFar (M.1 0) ml mk l2 w g) 28) g
          have ez : zab ((fun g => zb28 (mFar (M.1 0) ml mk l1 w g) 28 - zb28 (mFar (M.1 0) ml mk l2 w g) 28) g) = _ := if_pos (Int32.not_le.mp c77)
          rw [ez] at e
          have hh := fun o => ih (m - 1) (by omega) (g + 1) M2 o (by omega) hc2 n
          first
            | exact absurd c110 (Int32.not_le.mpr c94)
            | exact absurd c94 (Int32.not_le.mpr c110)
            | exact absurd c94 c110
            | exact absurd c110 c94
            | (rw [if_pos (Int32.not_le.mp c94)] at e; rw [e] at hh; exact hh _)
            | (rw [if_neg (Int32.not_lt.mpr c94)] at e; rw [e] at hh; exact hh _)
      · refine zj_iload 50 rfl rfl rfl ?_
        refine zj_goto 51 rfl rfl ?_
        refine zj_istore 53 rfl rfl ?_
        refine zj_iload 54 rfl rfl rfl ?_
        refine zj_iload 55 rfl rfl rfl ?_
        refine zj_icmp_le 56 rfl rfl (fun c110 => ?_) (fun c110 => ?_)
        · refine zj_iload 59 rfl rfl rfl ?_
          refine zj_istore 60 rfl rfl ?_
          refine zn_iinc 61 (g) rfl rfl rfl rfl ?_
          refine zj_goto 62 rfl rfl ?_
          have e := pFr_s (fun g => zb28 (mFar (M.1 0) ml mk l1 w g) 28 - zb28 (mFar (M.1 0) ml mk l2 w g) 28) g
          have ez : zab ((fun g => zb28 (mFar (M.1 0) ml mk l1 w g) 28 - zb28 (mFar (M.1 0) ml mk l2 w g) 28) g) = _ := if_pos (Int32.not_le.mp c77)
          rw [ez] at e
          have hh := fun o => ih (m - 1) (by omega) (g + 1) M2 o (by omega) hc2 n
          first
            | exact absurd c110 (Int32.not_le.mpr c94)
            | exact absurd c94 (Int32.not_le.mpr c110)
            | exact absurd c94 c110
            | exact absurd c110 c94
            | (rw [if_pos (Int32.not_le.mp c94)] at e; rw [e] at hh; exact hh _)
            | (rw [if_neg (Int32.not_lt.mpr c94)] at e; rw [e] at hh; exact hh _)
        · refine zj_iload 57 rfl rfl rfl ?_
          refine zj_goto 58 rfl rfl ?_
          refine zj_istore 60 rfl rfl ?_
          refine zn_iinc 61 (g) rfl rfl rfl rfl ?_
          refine zj_goto 62 rfl rfl ?_
          have e := pFr_s (fun g => zb28 (mFar (M.1 0) ml mk l1 w g) 28 - zb28 (mFar (M.1 0) ml mk l2 w g) 28) g
          have ez : zab ((fun g => zb28 (mFar (M.1 0) ml mk l1 w g) 28 - zb28 (mFar (M.1 0) ml mk l2 w g) 28) g) = _ := if_pos (Int32.not_le.mp c77)
          rw [ez] at e
          have hh := fun o => ih (m - 1) (by omega) (g + 1) M2 o (by omega) hc2 n
          first
            | exact absurd c110 (Int32.not_le.mpr c94)
            | exact absurd c94 (Int32.not_le.mpr c110)
            | exact absurd c94 c110
            | exact absurd c110 c94
            | (rw [if_pos (Int32.not_le.mp c94)] at e; rw [e] at hh; exact hh _)
            | (rw [if_neg (Int32.not_lt.mpr c94)] at e; rw [e] at hh; exact hh _)
theorem k_Mfairest (no ns nh ng : Nat) (ml mk : Nat → Nat) (ok : mOk (M.1 0) no ns nh ng ml mk) (l1 l2 w : Nat) (what : Int32) (h1 : l1 < 4) (h2 : l2 < 4) (hw : w < 4) (hv : zr what 2) : zX E YM_fairest 9 [.ref a, .int (nI l1), .int (nI l2), .int (nI w), .int what] (mw σ a M) (some (.int (if what = 0 then (pFr (fun g => zb28 (mFar (M.1 0) ml mk l1 w g) 28 - zb28 (mFar (M.1 0) ml mk l2 w g) 28) 4).1 else (pFr (fun g => zb28 (mFar (M.1 0) ml mk l1 w g) 28 - zb28 (mFar (M.1 0) ml mk l2 w g) 28) 4).2))) (mQ σ a M) := by
  refine zX.of oM_fairest (by decide +kernel) rfl rfl (fun n => ?_)
  refine zj_iload_n 0 rfl rfl rfl ?_
  refine zj_csx 1 rfl rfl lk_8_57 ckM_isFour (k_isFour _) rfl rfl rfl rfl ?_
  refine zj_if_eq 2 rfl rfl (fun c4 => ?_) (fun c4 => ?_)
  · exact absurd (zr_of (n := 4) (by omega) (by decide)) (zo_0.mp c4)
  · refine zj_iload_n 3 rfl rfl rfl ?_
    refine zj_csx 4 rfl rfl lk_8_57 ckM_isFour (k_isFour _) rfl rfl rfl rfl ?_
    refine zj_if_eq 5 rfl rfl (fun c11 => ?_) (fun c11 => ?_)
    · exact absurd (zr_of (n := 4) (by omega) (by decide)) (zo_0.mp c11)
    · refine zj_iload_n 6 rfl rfl rfl ?_
      refine zj_csx 7 rfl rfl lk_8_57 ckM_isFour (k_isFour _) rfl rfl rfl rfl ?_
      refine zj_if_eq 8 rfl rfl (fun c18 => ?_) (fun c18 => ?_)
      · exact absurd (zr_of (n := 4) (by omega) (by decide)) (zo_0.mp c18)
      · refine zj_iload 9 rfl rfl rfl ?_
        refine zj_i2l 10 rfl rfl ?_
        refine zj_lconst 11 (0) rfl rfl (by decide) ?_
        refine zj_lconst 12 (1) rfl rfl (by decide) ?_
        refine zj_csx 13 rfl rfl lk_8_51 ckM_in (k_in0 _ _ 2 (by decide)) rfl rfl rfl rfl ?_
        refine zj_if_ne 14 rfl rfl (fun c29 => ?_) (fun c29 => ?_)
        · refine zj_iconst 17 (0) rfl rfl (by decide) ?_
          refine zj_istore 18 rfl rfl ?_
          refine zj_iconst 19 (-1) rfl rfl (by decide) ?_
          refine zj_istore 20 rfl rfl ?_
          refine zj_iconst 21 (0) rfl rfl (by decide) ?_
          refine zj_istore 22 rfl rfl ?_
          exact l_fair no ns nh ng ml mk ok l1 l2 w what h1 h2 hw 4 0 M _ (by omega) mCr.rfl n
        · exact absurd hv (zo_0.mp c29)
theorem k_Mfairest_bad (x y z what : Int32) (hb : ¬ (zr x 4 ∧ zr y 4 ∧ zr z 4 ∧ zr what 2)) : zM E YM_fairest 9 [.ref a, .int x, .int y, .int z, .int what] (mw σ a M) (some (.int (-2))) (mw σ a M) := by
  refine zM.of oM_fairest (by decide +kernel) rfl rfl (fun n => ?_)
  refine zj_iload_n 0 rfl rfl rfl ?_
  refine zj_csx 1 rfl rfl lk_8_57 ckM_isFour (k_isFour _) rfl rfl rfl rfl ?_
  refine zj_if_eq 2 rfl rfl (fun c4 => ?_) (fun c4 => ?_)
  · refine zj_bipush 15 (-2) rfl rfl (by decide) ?_
    refine zj_ireturn 16 rfl rfl rfl ?_
    exact ⟨rfl, rfl, rfl⟩
  · refine zj_iload_n 3 rfl rfl rfl ?_
    refine zj_csx 4 rfl rfl lk_8_57 ckM_isFour (k_isFour _) rfl rfl rfl rfl ?_
    refine zj_if_eq 5 rfl rfl (fun c11 => ?_) (fun c11 => ?_)
    · refine zj_bipush 15 (-2) rfl rfl (by decide) ?_
      refine zj_ireturn 16 rfl rfl rfl ?_
      exact ⟨rfl, rfl, rfl⟩
    · refine zj_iload_n 6 rfl rfl rfl ?_
      refine zj_csx 7 rfl rfl lk_8_57 ckM_isFour (k_isFour _) rfl rfl rfl rfl ?_
      refine zj_if_eq 8 rfl rfl (fun c18 => ?_) (fun c18 => ?_)
      · refine zj_bipush 15 (-2) rfl rfl (by decide) ?_
        refine zj_ireturn 16 rfl rfl rfl ?_
        exact ⟨rfl, rfl, rfl⟩
      · refine zj_iload 9 rfl rfl rfl ?_
        refine zj_i2l 10 rfl rfl ?_
        refine zj_lconst 11 (0) rfl rfl (by decide) ?_
        refine zj_lconst 12 (1) rfl rfl (by decide) ?_
        refine zj_csx 13 rfl rfl lk_8_51 ckM_in (k_in0 _ _ 2 (by decide)) rfl rfl rfl rfl ?_
        refine zj_if_ne 14 rfl rfl (fun c29 => ?_) (fun c29 => ?_)
        · exact absurd ⟨zo_n0.mp c4, zo_n0.mp c11, zo_n0.mp c18, zo_n0.mp c29⟩ hb
        · refine zj_bipush 15 (-2) rfl rfl (by decide) ?_
          refine zj_ireturn 16 rfl rfl rfl ?_
          exact ⟨rfl, rfl, rfl⟩
theorem k_drawnOn_m (w : Nat) (hw : w < 4) (dk : Int32) (no ns nh ng : Nat) (ml mk : Nat → Nat) (ok : mOk (M.1 0) no ns nh ng ml mk) (l g air : Nat) (hl : l < 4) (hg : g < 4) (ha : air < 5) (x : Int32) (hx : x = nI l) (shown : Int32) : zX E YM_drawnOn 8 [.ref a, .int x, .int (nI w), .int dk, .int (nI g), .int (nI air), .int shown] (mw σ a M) (some (.int (mDw (fun j => M.1 0 (372 + 40 * l + j)) (ml l) (mSeen (mPic (M.1 0) w dk) g air) g shown mk))) (mQ σ a M) := by
  subst hx
  exact k_drawnOn w hw dk l g air (ml l) shown mk hl hg ha (ok.2.2.2.2.1 l hl).1 (ok.2.2.2.2.1 l hl).2 ok.2.2.2.2.2.1
theorem k_Mdraw (no ns nh ng : Nat) (ml mk : Nat → Nat) (ok : mOk (M.1 0) no ns nh ng ml mk) (o : Nat) (night : Int32) (w dk g air : Nat) (hw : w < 4) (hd : dk < 16) (hg : g < 4) (ha : air < 5) (hov : o < no) (hv : zr (nI o) no ∧ pLast (rSn (M.1 0)) ns ≤ night.toInt ∧ night.toInt ≤ 999) (hns : ns < 16) : zX E YM_draw 9 [.ref a, .int (nI o), .int night, .int (nI w), .int (nI dk), .int (nI g), .int (nI air)] (mw σ a M) (some (.int (nI ns))) (mQ σ a (M.sA 0 (va_up (va_up (va_up (va_up (M.1 0) (550 + 3 * ns) (mDw (fun j => M.1 0 (372 + 40 * (rOl (M.1 0) o).toNatClampNeg + j)) (ml (rOl (M.1 0) o).toNatClampNeg) (mSeen (mPic (M.1 0) w (nI dk)) g air) g (pSHm (M.1 0) nh ns (nI o) night) mk)) (551 + 3 * ns) (nI o)) (552 + 3 * ns) night) 549 (nI (ns + 1))))) := by
  obtain ⟨l1, l2⟩ := zr4 (ok.2.2.2.2.2.2.1 o hov)
  have hno := ok.1.2
  refine zX.of oM_draw (by decide +kernel) rfl rfl (fun n => ?_)
  refine zj_aload_n 0 rfl rfl rfl ?_
  refine zj_iload_n 1 rfl rfl rfl ?_
  refine zj_iload_n 2 rfl rfl rfl ?_
  refine zj_cvx 3 rfl rfl lk_8_197 ckM_isNext (k_isNext _ _ no ns ok.1.1 ok.1.2 ok.2.1.1 ok.2.1.2) rfl mw_0 rfl rfl rfl ?_
  refine zj_if_eq 4 rfl rfl (fun c6 => ?_) (fun c6 => ?_)
  · exact absurd hv (zo_0.mp c6)
  · refine zj_iload_n 5 rfl rfl rfl ?_
    refine zj_iload 6 rfl rfl rfl ?_
    refine zj_iload 7 rfl rfl rfl ?_
    refine zj_iload 8 rfl rfl rfl ?_
    refine zj_csx 9 rfl rfl lk_8_82 ckM_isLook (k_isLook _ _ _ _) rfl rfl rfl rfl ?_
    refine zj_if_ne 10 rfl rfl (fun c19 => ?_) (fun c19 => ?_)
    · refine zj_aload_n 13 rfl rfl rfl ?_
      refine zj_get 14 rfl rfl mw_0 rfl ?_
      refine zj_sipush 15 (549) rfl rfl (by decide) ?_
      refine zn_iald 16 (549) rfl rfl mw_1 rfl (by omega) (by decide) ?_
      refine zj_bipush 17 (16) rfl rfl (by decide) ?_
      refine zn_icmp_ne 18 (ns) (16) rfl rfl ok.2.1.1 rfl (by omega) (by omega) (fun c35 => ?_) (fun c35 => ?_)
      · refine zj_aload_n 21 rfl rfl rfl ?_
        refine zj_iload_n 22 rfl rfl rfl ?_
        refine zj_iload_n 23 rfl rfl rfl ?_
        refine zj_aload_n 24 rfl rfl rfl ?_
        refine zj_aload_n 25 rfl rfl rfl ?_
        refine zj_get 26 rfl rfl mw_0 rfl ?_
        refine zj_sipush 27 (533) rfl rfl (by decide) ?_
        refine zj_iconst 28 (2) rfl rfl (by decide) ?_
        refine zj_iload_n 29 rfl rfl rfl ?_
        refine zn_imul 30 (2) (o) rfl rfl rfl rfl ?_
        refine zn_iadd 31 (533) (2 * o) rfl rfl rfl rfl ?_
        refine zn_iald 32 ((533) + (2 * o)) rfl rfl mw_1 rfl (by omega) (by decide) ?_
        refine zj_iload_n 33 rfl rfl rfl ?_
        refine zj_iload 34 rfl rfl rfl ?_
        refine zj_iload 35 rfl rfl rfl ?_
        refine zj_iload 36 rfl rfl rfl ?_
        refine zj_aload_n 37 rfl rfl rfl ?_
        refine zj_iload_n 38 rfl rfl rfl ?_
        refine zj_iload_n 39 rfl rfl rfl ?_
        refine zj_cvx16 40 rfl rfl lk_8_210 ckM_shownBy (k_shownBy _ _ nh ns ok.2.2.1.1 ok.2.2.1.2 ok.2.1.1 ok.2.1.2) rfl mw_0 rfl rfl rfl ?_
        refine zj_cvxX 41 rfl rfl lk_8_177 ckM_drawnOn (k_drawnOn_m w hw (nI dk) no ns nh ng ml mk ok _ g air l1 hg ha _ l2 _) rfl mw_0 rfl rfl rfl (fun s1 hP1 => ?_)
        obtain ⟨M1, rfl, hc1⟩ := hP1
        refine zj_cvx 42 rfl rfl lk_8_201 ckM_addSheet (k_addSheet _ _ _ ns (by rw [hc1.1]; exact ok.2.1.1) hns) rfl mw_0 rfl rfl rfl ?_
        refine zj_ireturn 43 rfl rfl rfl ?_
        refine ⟨rfl, rfl, _, rfl, ?_⟩
        obtain ⟨q1, q2, q3, q4, q5, q6⟩ := hc1
        refine ⟨?_, ?_, ?_, ?_, ?_, ?_⟩
        · rw [q1]; simp [va_up]
        · simpa [va_up] using q2
        · simpa [va_up] using q3
        · simpa [va_up] using q4
        · simpa [va_up] using q5
        · simpa [va_up] using q6
      · exact absurd c35 (by omega)
    · exact absurd ⟨zr_of (n := 4) (by omega) (by decide), zr_of (n := 16) (by omega) (by decide), zr_of (n := 4) (by omega) (by decide), zr_of (n := 5) (by omega) (by decide)⟩ (zo_0.mp c19)
theorem k_Mdraw_full (o night : Int32) (w dk g air : Nat) (hw : w < 4) (hd : dk < 16) (hg : g < 4) (ha : air < 5) (no : Nat) (h : M.1 0 532 = nI no) (hb : no ≤ 8) (h2 : M.1 0 549 = nI 16) (hv : zr o no ∧ pLast (rSn (M.1 0)) 16 ≤ night.toInt ∧ night.toInt ≤ 999) : zM E YM_draw 9 [.ref a, .int o, .int night, .int (nI w), .int (nI dk), .int (nI g), .int (nI air)] (mw σ a M) (some (.int (-4))) (mw σ a M) := by
  refine zM.of oM_draw (by decide +kernel) rfl rfl (fun n => ?_)
  refine zj_aload_n 0 rfl rfl rfl ?_
  refine zj_iload_n 1 rfl rfl rfl ?_
  refine zj_iload_n 2 rfl rfl rfl ?_
  refine zj_cvx 3 rfl rfl lk_8_197 ckM_isNext (k_isNext _ _ no 16 h hb h2 (by decide)) rfl mw_0 rfl rfl rfl ?_
  refine zj_if_eq 4 rfl rfl (fun c6 => ?_) (fun c6 => ?_)
  · exact absurd hv (zo_0.mp c6)
  · refine zj_iload_n 5 rfl rfl rfl ?_
    refine zj_iload 6 rfl rfl rfl ?_
    refine zj_iload 7 rfl rfl rfl ?_
    refine zj_iload 8 rfl rfl rfl ?_
    refine zj_csx 9 rfl rfl lk_8_82 ckM_isLook (k_isLook _ _ _ _) rfl rfl rfl rfl ?_
    refine zj_if_ne 10 rfl rfl (fun c19 => ?_) (fun c19 => ?_)
    · refine zj_aload_n 13 rfl rfl rfl ?_
      refine zj_get 14 rfl rfl mw_0 rfl ?_
      refine zj_sipush 15 (549) rfl rfl (by decide) ?_
      refine zn_iald 16 (549) rfl rfl mw_1 rfl (by omega) (by decide) ?_
      refine zj_bipush 17 (16) rfl rfl (by decide) ?_
      refine zn_icmp_ne 18 (16) (16) rfl rfl h2 rfl (by omega) (by omega) (fun c35 => ?_) (fun c35 => ?_)
      · exact absurd c35 (by decide)
      · refine zj_bipush 19 (-4) rfl rfl (by decide) ?_
        refine zj_ireturn 20 rfl rfl rfl ?_
        exact ⟨rfl, rfl, rfl⟩
    · exact absurd ⟨zr_of (n := 4) (by omega) (by decide), zr_of (n := 16) (by omega) (by decide), zr_of (n := 4) (by omega) (by decide), zr_of (n := 5) (by omega) (by decide)⟩ (zo_0.mp c19)
theorem k_Mdraw_bad (o night w dk g air : Int32) (no ns : Nat) (h : M.1 0 532 = nI no) (hb : no ≤ 8) (h2 : M.1 0 549 = nI ns) (hb2 : ns ≤ 16) (hv : ¬ ((zr o no ∧ pLast (rSn (M.1 0)) ns ≤ night.toInt ∧ night.toInt ≤ 999) ∧ (zr w 4 ∧ zr dk 16 ∧ zr g 4 ∧ zr air 5))) : zM E YM_draw 9 [.ref a, .int o, .int night, .int w, .int dk, .int g, .int air] (mw σ a M) (some (.int (-2))) (mw σ a M) := by
  refine zM.of oM_draw (by decide +kernel) rfl rfl (fun n => ?_)
  refine zj_aload_n 0 rfl rfl rfl ?_
  refine zj_iload_n 1 rfl rfl rfl ?_
  refine zj_iload_n 2 rfl rfl rfl ?_
  refine zj_cvx 3 rfl rfl lk_8_197 ckM_isNext (k_isNext _ _ no ns h hb h2 hb2) rfl mw_0 rfl rfl rfl ?_
  refine zj_if_eq 4 rfl rfl (fun c6 => ?_) (fun c6 => ?_)
  · refine zj_bipush 11 (-2) rfl rfl (by decide) ?_
    refine zj_ireturn 12 rfl rfl rfl ?_
    exact ⟨rfl, rfl, rfl⟩
  · refine zj_iload_n 5 rfl rfl rfl ?_
    refine zj_iload 6 rfl rfl rfl ?_
    refine zj_iload 7 rfl rfl rfl ?_
    refine zj_iload 8 rfl rfl rfl ?_
    refine zj_csx 9 rfl rfl lk_8_82 ckM_isLook (k_isLook _ _ _ _) rfl rfl rfl rfl ?_
    refine zj_if_ne 10 rfl rfl (fun c19 => ?_) (fun c19 => ?_)
    · exact absurd ⟨zo_n0.mp c6, zo_n0.mp c19⟩ hv
    · refine zj_bipush 11 (-2) rfl rfl (by decide) ?_
      refine zj_ireturn 12 rfl rfl rfl ?_
      exact ⟨rfl, rfl, rfl⟩
theorem l_old_in (s0 s f : Nat) (b : Int32) (hs : s < 32) (hx : ∃ i, i < s ∧ zbit b i = true) (Mx : zMo) (res : Option Value) (pst : zH) (kk : ∀ n k, k < s → k = pLo b s s → zB E YM_oldest 3 n res pst (mw σ a Mx) 31 [some (.ref a), some (.int (nI s0)), some (.int (nI k)), some (.int b)] []) : ∀ (m : Nat) (k : Nat), (k + m = s) → (∀ i, i < k → ¬ zhas b (nI i)) → ∀ n, zB E YM_oldest 3 n (res) (pst) (mw σ a Mx) 17 [some (.ref a), some (.int (nI s0)), some (.int (nI k)), some (.int b)] [] := by
  intro m
  induction m using Nat.strongRecOn with
  | ind m ih =>
  intro k hk hn n
  have hks : k < s := by
    obtain ⟨i, hi, hz⟩ := hx
    by_cases g : i < k
    · exact absurd ((zhas_bit b (show i < 32 by omega)).mpr hz) (hn i g)
    · omega
  refine zj_iload_n 12 rfl rfl rfl ?_
  refine zj_iload_n 13 rfl rfl rfl ?_
  refine zj_ishr 14 rfl rfl ?_
  refine zj_iconst 15 (1) rfl rfl (by decide) ?_
  refine zj_iand 16 rfl rfl ?_
  refine zj_if_ne 17 rfl rfl (fun c22 => ?_) (fun c22 => ?_)
  · exact kk n k hks (pLo_at b s k hks hn c22).symm
  · refine zn_iinc 18 (k) rfl rfl rfl rfl ?_
    refine zj_goto 19 rfl rfl ?_
    refine ih (m - 1) (by omega) (k + 1) (by omega) (fun i hi => ?_) n
    by_cases e : i = k
    · subst e; exact fun z => z c22
    · exact hn i (by omega)
theorem l_old (nh : Nat) (h : M.1 0 598 = nI nh) (hb : nh ≤ 60) (s0 : Nat) : ∀ (m : Nat) (f : Nat), (m ≤ f ∧ m < 17) → ∀ n, zB E YM_oldest 3 n (some (.int (nI (pOld (fun s => (mMH (M.1 0) nh s).1) f m)))) (mw σ a (M.sI 6 (mMH (M.1 0) nh (pOld (fun s => (mMH (M.1 0) nh s).1) f m)).2)) (mw σ a (M.sI 6 (mMH (M.1 0) nh m).2)) 8 [some (.ref a), some (.int (nI s0)), some (.int (nI m)), some (.int (mMH (M.1 0) nh m).1)] [] := by
  intro m
  induction m using Nat.strongRecOn with
  | ind m ih =>
  intro f hf n
  refine zj_iload_n 6 rfl rfl rfl ?_
  refine zj_bipush 7 (16) rfl rfl (by decide) ?_
  refine zj_ishr 8 rfl rfl ?_
  refine zj_if_ne 9 rfl rfl (fun c12 => ?_) (fun c12 => ?_)
  · refine zj_iload_n 25 rfl rfl rfl ?_
    refine zj_ireturn 26 rfl rfl rfl ?_
    have e : (pOld (fun s => (mMH (M.1 0) nh s).1) f m) = m := by
      match f, hf with
      | 0, _ => rfl
      | f + 1, _ => exact if_neg c12
    rw [e]
    exact ⟨rfl, rfl, rfl⟩
  · refine zj_iconst 10 (0) rfl rfl (by decide) ?_
    refine zj_istore_n 11 rfl rfl ?_
    have hx : ∃ i, i < m ∧ zbit (mMH (M.1 0) nh m).1 i = true := by
      rcases pMH_bit (rSl (M.1 0)) m (pSBm (M.1 0) nh (rSo (M.1 0) m) (rSn (M.1 0) m)) (zb28 (rSl (M.1 0) m) 28 + M.1 0 779) m (by omega) with q | q
      · have := zshr0 (i := 16) (by decide) c12
        rw [this] at q; exact absurd q (by decide)
      · exact q
    obtain ⟨f, rfl⟩ : ∃ f', f = f' + 1 := ⟨f - 1, by obtain ⟨i, hi, _⟩ := hx; omega⟩
    have e : (pOld (fun s => (mMH (M.1 0) nh s).1) (f + 1) m) = (pOld (fun s => (mMH (M.1 0) nh s).1) f (pLo (mMH (M.1 0) nh m).1 m m)) := if_pos c12
    rw [e]
    refine l_old_in s0 m f _ (by omega) hx _ _ _ (fun n k hk1 hk2 => ?_) m 0 (by omega) (fun i hi => by omega) n
    rw [← hk2]
    refine zj_aload_n 20 rfl rfl rfl ?_
    refine zj_iload_n 21 rfl rfl rfl ?_
    refine zj_cvx 22 rfl rfl lk_8_247 ckM_mayHave (k_mayHave _ (by omega) nh h hb) rfl mw_0 rfl rfl rfl ?_
    refine zj_istore_n 23 rfl rfl ?_
    refine zj_goto 24 rfl rfl ?_
    rw [sI_sI]
    exact ih k (by omega) f (by omega) n
theorem k_oldest (s : Nat) (hs : s < 17) (nh : Nat) (h : M.1 0 598 = nI nh) (hb : nh ≤ 60) : zM E YM_oldest 3 [.ref a, .int (nI s)] (mw σ a M) (some (.int (nI (pOld (fun s => (mMH (M.1 0) nh s).1) s s)))) (mw σ a (M.sI 6 (mMH (M.1 0) nh (pOld (fun s => (mMH (M.1 0) nh s).1) s s)).2)) := by
  refine zM.of oM_oldest (by decide +kernel) rfl rfl (fun n => ?_)
  refine zj_iload_n 0 rfl rfl rfl ?_
  refine zj_istore_n 1 rfl rfl ?_
  refine zj_aload_n 2 rfl rfl rfl ?_
  refine zj_iload_n 3 rfl rfl rfl ?_
  refine zj_cvx 4 rfl rfl lk_8_247 ckM_mayHave (k_mayHave _ (by omega) nh h hb) rfl mw_0 rfl rfl rfl ?_
  refine zj_istore_n 5 rfl rfl ?_
  exact l_old nh h hb s s s ⟨Nat.le_refl _, hs⟩ n
theorem k_Mtook0 (s ns : Nat) (h2 : M.1 0 549 = nI ns) (hb2 : ns ≤ 16) (hs : s < ns) (nh : Nat) (h : M.1 0 598 = nI nh) (hb : nh ≤ 60) : zX E YM_took 4 [.ref a, .int (nI s), .int (nI 0)] (mw σ a M) (some (.int ((mMH (M.1 0) nh s).1))) (mQ σ a M) := by
  refine zX.of oM_took (by decide +kernel) rfl rfl (fun n => ?_)
  refine zj_aload_n 0 rfl rfl rfl ?_
  refine zj_iload_n 1 rfl rfl rfl ?_
  refine zj_cvx 2 rfl rfl lk_8_213 ckM_isSheet (k_isSheet _ ns h2 (by omega)) rfl mw_0 rfl rfl rfl ?_
  refine zj_if_eq 3 rfl rfl (fun c5 => ?_) (fun c5 => ?_)
  · exact absurd (zr_of (n := ns) (by omega) (by omega)) (zo_0.mp c5)
  · refine zj_iload_n 4 rfl rfl rfl ?_
    refine zj_i2l 5 rfl rfl ?_
    refine zj_lconst 6 (0) rfl rfl (by decide) ?_
    refine zj_ldc2 7 (3) rfl rfl (by decide) ?_
    refine zj_csx 8 rfl rfl lk_8_51 ckM_in (k_in0 _ _ 4 (by decide)) rfl rfl rfl rfl ?_
    refine zj_if_ne 9 rfl rfl (fun c17 => ?_) (fun c17 => ?_)
    · refine zj_aload_n 12 rfl rfl rfl ?_
      refine zj_iload_n 13 rfl rfl rfl ?_
      refine zj_cvx 14 rfl rfl lk_8_247 ckM_mayHave (k_mayHave _ (by omega) nh h hb) rfl mw_0 rfl rfl rfl ?_
      refine zj_istore_n 15 rfl rfl ?_
      refine zj_iload_n 16 rfl rfl rfl ?_
      refine zj_if_ne 17 rfl rfl (fun c30 => ?_) (fun c30 => ?_)
      · exact absurd c30 (by decide)
      · refine zj_iload_n 18 rfl rfl rfl ?_
        refine zj_goto 19 rfl rfl ?_
        refine zj_ireturn 40 rfl rfl rfl ?_
        exact ⟨rfl, rfl, _, rfl, mCr_sI _ _ _⟩
    · exact absurd (zr_of (n := 4) (by omega) (by decide)) (zo_0.mp c17)
theorem k_Mtook1 (s ns : Nat) (h2 : M.1 0 549 = nI ns) (hb2 : ns ≤ 16) (hs : s < ns) (nh : Nat) (h : M.1 0 598 = nI nh) (hb : nh ≤ 60) : zX E YM_took 4 [.ref a, .int (nI s), .int (nI 1)] (mw σ a M) (some (.int ((mMH (M.1 0) nh s).2))) (mQ σ a M) := by
  refine zX.of oM_took (by decide +kernel) rfl rfl (fun n => ?_)
  refine zj_aload_n 0 rfl rfl rfl ?_
  refine zj_iload_n 1 rfl rfl rfl ?_
  refine zj_cvx 2 rfl rfl lk_8_213 ckM_isSheet (k_isSheet _ ns h2 (by omega)) rfl mw_0 rfl rfl rfl ?_
  refine zj_if_eq 3 rfl rfl (fun c5 => ?_) (fun c5 => ?_)
  · exact absurd (zr_of (n := ns) (by omega) (by omega)) (zo_0.mp c5)
  · refine zj_iload_n 4 rfl rfl rfl ?_
    refine zj_i2l 5 rfl rfl ?_
    refine zj_lconst 6 (0) rfl rfl (by decide) ?_
    refine zj_ldc2 7 (3) rfl rfl (by decide) ?_
    refine zj_csx 8 rfl rfl lk_8_51 ckM_in (k_in0 _ _ 4 (by decide)) rfl rfl rfl rfl ?_
    refine zj_if_ne 9 rfl rfl (fun c17 => ?_) (fun c17 => ?_)
    · refine zj_aload_n 12 rfl rfl rfl ?_
      refine zj_iload_n 13 rfl rfl rfl ?_
      refine zj_cvx 14 rfl rfl lk_8_247 ckM_mayHave (k_mayHave _ (by omega) nh h hb) rfl mw_0 rfl rfl rfl ?_
      refine zj_istore_n 15 rfl rfl ?_
      refine zj_iload_n 16 rfl rfl rfl ?_
      refine zj_if_ne 17 rfl rfl (fun c30 => ?_) (fun c30 => ?_)
      · refine zj_iload_n 20 rfl rfl rfl ?_
        refine zj_iconst 21 (1) rfl rfl (by decide) ?_
        refine zn_icmp_ne 22 (1) (1) rfl rfl rfl rfl (by omega) (by omega) (fun c39 => ?_) (fun c39 => ?_)
        · exact absurd c39 (by decide)
        · refine zj_aload_n 23 rfl rfl rfl ?_
          refine zj_get 24 rfl rfl mw_0 rfl ?_
          refine zj_goto 25 rfl rfl ?_
          refine zj_ireturn 40 rfl rfl rfl ?_
          exact ⟨rfl, rfl, _, rfl, mCr_sI _ _ _⟩
      · exact absurd c30 (by decide)
    · exact absurd (zr_of (n := 4) (by omega) (by decide)) (zo_0.mp c17)
theorem k_Mtook2 (s ns : Nat) (h2 : M.1 0 549 = nI ns) (hb2 : ns ≤ 16) (hs : s < ns) (nh : Nat) (h : M.1 0 598 = nI nh) (hb : nh ≤ 60) : zX E YM_took 4 [.ref a, .int (nI s), .int (nI 2)] (mw σ a M) (some (.int (zo (zb28 (mMH (M.1 0) nh s).1 28 = 1)))) (mQ σ a M) := by
  refine zX.of oM_took (by decide +kernel) rfl rfl (fun n => ?_)
  refine zj_aload_n 0 rfl rfl rfl ?_
  refine zj_iload_n 1 rfl rfl rfl ?_
  refine zj_cvx 2 rfl rfl lk_8_213 ckM_isSheet (k_isSheet _ ns h2 (by omega)) rfl mw_0 rfl rfl rfl ?_
  refine zj_if_eq 3 rfl rfl (fun c5 => ?_) (fun c5 => ?_)
  · exact absurd (zr_of (n := ns) (by omega) (by omega)) (zo_0.mp c5)
  · refine zj_iload_n 4 rfl rfl rfl ?_
    refine zj_i2l 5 rfl rfl ?_
    refine zj_lconst 6 (0) rfl rfl (by decide) ?_
    refine zj_ldc2 7 (3) rfl rfl (by decide) ?_
    refine zj_csx 8 rfl rfl lk_8_51 ckM_in (k_in0 _ _ 4 (by decide)) rfl rfl rfl rfl ?_
    refine zj_if_ne 9 rfl rfl (fun c17 => ?_) (fun c17 => ?_)
    · refine zj_aload_n 12 rfl rfl rfl ?_
      refine zj_iload_n 13 rfl rfl rfl ?_
      refine zj_cvx 14 rfl rfl lk_8_247 ckM_mayHave (k_mayHave _ (by omega) nh h hb) rfl mw_0 rfl rfl rfl ?_
      refine zj_istore_n 15 rfl rfl ?_
      refine zj_iload_n 16 rfl rfl rfl ?_
      refine zj_if_ne 17 rfl rfl (fun c30 => ?_) (fun c30 => ?_)
      · refine zj_iload_n 20 rfl rfl rfl ?_
        refine zj_iconst 21 (1) rfl rfl (by decide) ?_
        refine zn_icmp_ne 22 (2) (1) rfl rfl rfl rfl (by omega) (by omega) (fun c39 => ?_) (fun c39 => ?_)
        · refine zj_iload_n 26 rfl rfl rfl ?_
          refine zj_iconst 27 (2) rfl rfl (by decide) ?_
          refine zn_icmp_ne 28 (2) (2) rfl rfl rfl rfl (by omega) (by omega) (fun c51 => ?_) (fun c51 => ?_)
          · exact absurd c51 (by decide)
          · refine zj_iload_n 29 rfl rfl rfl ?_
            refine zj_csx 30 rfl rfl lk_8_184 ckM_bitsOf (k_bitsOf _) rfl rfl rfl rfl ?_
            refine zj_iconst 31 (1) rfl rfl (by decide) ?_
            refine zj_icmp_ne 32 rfl rfl (fun c59 => ?_) (fun c59 => ?_)
            · refine zj_iconst 35 (0) rfl rfl (by decide) ?_
              refine zj_goto 36 rfl rfl ?_
              refine zj_ireturn 40 rfl rfl rfl ?_
              exact ⟨zrt (zo_f c59), rfl, _, rfl, mCr_sI _ _ _⟩
            · refine zj_iconst 33 (1) rfl rfl (by decide) ?_
              refine zj_goto 34 rfl rfl ?_
              refine zj_ireturn 40 rfl rfl rfl ?_
              exact ⟨zrt (zo_t c59), rfl, _, rfl, mCr_sI _ _ _⟩
        · exact absurd c39 (by decide)
      · exact absurd c30 (by decide)
    · exact absurd (zr_of (n := 4) (by omega) (by decide)) (zo_0.mp c17)
theorem k_Mtook3 (s ns : Nat) (h2 : M.1 0 549 = nI ns) (hb2 : ns ≤ 16) (hs : s < ns) (nh : Nat) (h : M.1 0 598 = nI nh) (hb : nh ≤ 60) : zX E YM_took 4 [.ref a, .int (nI s), .int (nI 3)] (mw σ a M) (some (.int (nI (pOld (fun s => (mMH (M.1 0) nh s).1) s s)))) (mQ σ a M) := by
  refine zX.of oM_took (by decide +kernel) rfl rfl (fun n => ?_)
  refine zj_aload_n 0 rfl rfl rfl ?_
  refine zj_iload_n 1 rfl rfl rfl ?_
  refine zj_cvx 2 rfl rfl lk_8_213 ckM_isSheet (k_isSheet _ ns h2 (by omega)) rfl mw_0 rfl rfl rfl ?_
  refine zj_if_eq 3 rfl rfl (fun c5 => ?_) (fun c5 => ?_)
  · exact absurd (zr_of (n := ns) (by omega) (by omega)) (zo_0.mp c5)
  · refine zj_iload_n 4 rfl rfl rfl ?_
    refine zj_i2l 5 rfl rfl ?_
    refine zj_lconst 6 (0) rfl rfl (by decide) ?_
    refine zj_ldc2 7 (3) rfl rfl (by decide) ?_
    refine zj_csx 8 rfl rfl lk_8_51 ckM_in (k_in0 _ _ 4 (by decide)) rfl rfl rfl rfl ?_
    refine zj_if_ne 9 rfl rfl (fun c17 => ?_) (fun c17 => ?_)
    · refine zj_aload_n 12 rfl rfl rfl ?_
      refine zj_iload_n 13 rfl rfl rfl ?_
      refine zj_cvx 14 rfl rfl lk_8_247 ckM_mayHave (k_mayHave _ (by omega) nh h hb) rfl mw_0 rfl rfl rfl ?_
      refine zj_istore_n 15 rfl rfl ?_
      refine zj_iload_n 16 rfl rfl rfl ?_
      refine zj_if_ne 17 rfl rfl (fun c30 => ?_) (fun c30 => ?_)
      · refine zj_iload_n 20 rfl rfl rfl ?_
        refine zj_iconst 21 (1) rfl rfl (by decide) ?_
        refine zn_icmp_ne 22 (3) (1) rfl rfl rfl rfl (by omega) (by omega) (fun c39 => ?_) (fun c39 => ?_)
        · refine zj_iload_n 26 rfl rfl rfl ?_
          refine zj_iconst 27 (2) rfl rfl (by decide) ?_
          refine zn_icmp_ne 28 (3) (2) rfl rfl rfl rfl (by omega) (by omega) (fun c51 => ?_) (fun c51 => ?_)
          · refine zj_aload_n 37 rfl rfl rfl ?_
            refine zj_iload_n 38 rfl rfl rfl ?_
            refine zj_cvx 39 rfl rfl lk_8_250 ckM_oldest (k_oldest s (by omega) nh h hb) rfl mw_0 rfl rfl rfl ?_
            refine zj_ireturn 40 rfl rfl rfl ?_
            exact ⟨rfl, rfl, _, rfl, (mCr_sI _ _ _).trans (mCr_sI _ _ _)⟩
          · exact absurd c51 (by decide)
        · exact absurd c39 (by decide)
      · exact absurd c30 (by decide)
    · exact absurd (zr_of (n := 4) (by omega) (by decide)) (zo_0.mp c17)
theorem k_Mtook_bad (s w : Int32) (ns : Nat) (h2 : M.1 0 549 = nI ns) (hb2 : ns ≤ 16) (hv : ¬ (zr s ns ∧ zr w 4)) : zM E YM_took 4 [.ref a, .int s, .int w] (mw σ a M) (some (.int (-2))) (mw σ a M) := by
  refine zM.of oM_took (by decide +kernel) rfl rfl (fun n => ?_)
  refine zj_aload_n 0 rfl rfl rfl ?_
  refine zj_iload_n 1 rfl rfl rfl ?_
  refine zj_cvx 2 rfl rfl lk_8_213 ckM_isSheet (k_isSheet _ ns h2 (by omega)) rfl mw_0 rfl rfl rfl ?_
  refine zj_if_eq 3 rfl rfl (fun c5 => ?_) (fun c5 => ?_)
  · refine zj_bipush 10 (-2) rfl rfl (by decide) ?_
    refine zj_ireturn 11 rfl rfl rfl ?_
    exact ⟨rfl, rfl, rfl⟩
  · refine zj_iload_n 4 rfl rfl rfl ?_
    refine zj_i2l 5 rfl rfl ?_
    refine zj_lconst 6 (0) rfl rfl (by decide) ?_
    refine zj_ldc2 7 (3) rfl rfl (by decide) ?_
    refine zj_csx 8 rfl rfl lk_8_51 ckM_in (k_in0 _ _ 4 (by decide)) rfl rfl rfl rfl ?_
    refine zj_if_ne 9 rfl rfl (fun c17 => ?_) (fun c17 => ?_)
    · exact absurd ⟨zo_n0.mp c5, zo_n0.mp c17⟩ hv
    · refine zj_bipush 10 (-2) rfl rfl (by decide) ?_
      refine zj_ireturn 11 rfl rfl rfl ?_
      exact ⟨rfl, rfl, rfl⟩
end
