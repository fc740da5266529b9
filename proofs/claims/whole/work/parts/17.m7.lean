/-! the reference: who took, weights, seasons, images, the digest -/
def pMH (sl : Nat → Int32) (s : Nat) (fr l0 : Int32) : Nat → Int32 × Int32
  | 0 => (65536, l0)
  | t + 1 =>
    if zhas fr (nI t) then
      (if zb28 (sl s ^^^ sl t) 28 < (pMH sl s fr l0 t).2 then 1 <<< (nI t &&& 31) else if zb28 (sl s ^^^ sl t) 28 = (pMH sl s fr l0 t).2 then (pMH sl s fr l0 t).1 ||| (1 <<< (nI t &&& 31)) else (pMH sl s fr l0 t).1,
       if zb28 (sl s ^^^ sl t) 28 < (pMH sl s fr l0 t).2 then zb28 (sl s ^^^ sl t) 28 else (pMH sl s fr l0 t).2)
    else pMH sl s fr l0 t
theorem pMH_s (sl : Nat → Int32) (s : Nat) (fr l0 : Int32) (t : Nat) : pMH sl s fr l0 (t + 1) = if zhas fr (nI t) then
      (if zb28 (sl s ^^^ sl t) 28 < (pMH sl s fr l0 t).2 then 1 <<< (nI t &&& 31) else if zb28 (sl s ^^^ sl t) 28 = (pMH sl s fr l0 t).2 then (pMH sl s fr l0 t).1 ||| (1 <<< (nI t &&& 31)) else (pMH sl s fr l0 t).1,
       if zb28 (sl s ^^^ sl t) 28 < (pMH sl s fr l0 t).2 then zb28 (sl s ^^^ sl t) 28 else (pMH sl s fr l0 t).2)
    else pMH sl s fr l0 t := rfl
abbrev mMH (r : Nat → Int32) (nh s : Nat) : Int32 × Int32 := pMH (rSl r) s (pSBm r nh (rSo r s) (rSn r s)) (zb28 (rSl r s) 28 + r 779) s
theorem sI_sI (M : zMo) (j : Nat) (x y : Int32) : (M.sI j x).sI j y = M.sI j y := by
  unfold zMo.sI; rw [va_up_up]
theorem sI_id (M : zMo) (j : Nat) : M.sI j (M.2.2.1 j) = M := by
  unfold zMo.sI; rw [zva_id]
theorem sL_sL (M : zMo) (j : Nat) (x y : Int64) : (M.sL j x).sL j y = M.sL j y := by
  unfold zMo.sL; rw [va_up_up]
theorem zfull : ∀ ns, ns < 17 → ((1 : Int32) <<< (nI ns &&& 31) - 1).toInt = (2 ^ ns : Nat) - 1 := by decide +kernel
def pLSe (sl : Nat → Int32) (x y : Int32) : Nat → Int32
  | 0 => 268435455
  | s + 1 => (pLSe sl x y s &&& (if zhas x (nI s) then sl s else -1)) &&& (if zhas y (nI s) then sl s ^^^ (-1) else -1)
def pW (sl : Nat → Int32) (wt : Nat → Int32) (line : Int32) : Nat → Int32
  | 0 => 0
  | s + 1 => pW sl wt line s + (if zhas (sl s) line then wt s else -(wt s))
def pWA (wt : Nat → Int32) : Nat → Int32
  | 0 => 0
  | s + 1 => pWA wt s + wt s
def pWB (w : Nat → Int32) (all : Int32) (what : Nat) : Nat → Int32
  | 0 => 0
  | k + 1 => pWB w all what k ||| (if 0 < w k ∧ (what = 0 ∨ all ≤ 2 * w k) then 1 <<< (nI k &&& 31) else 0)
abbrev mWt (r : Nat → Int32) (s : Nat) : Int32 := r (534 + 2 * (rSo r s).toNatClampNeg)
def zcp (f g : Nat → Int32) (b k : Nat) : Nat → Int32 := fun j => if b ≤ j ∧ j < b + k then f (j - b) else g j
theorem zcp_0 (f g : Nat → Int32) (b : Nat) : zcp f g b 0 = g := by funext j; unfold zcp; rw [if_neg (by omega)]
theorem zcp_up (f g : Nat → Int32) (b k : Nat) : va_up (zcp f g b k) (b + k) (f k) = zcp f g b (k + 1) := by
  funext j
  unfold va_up zcp
  by_cases h : j = b + k
  · subst h; rw [if_pos rfl, if_pos (by omega)]; congr 1; omega
  · rw [if_neg h]
    by_cases h2 : b ≤ j ∧ j < b + k
    · rw [if_pos h2, if_pos (by omega)]
    · rw [if_neg h2, if_neg (by omega)]
def pTR (f : Nat → Int32) (h : Int64) : Nat → Int64
  | 0 => h
  | k + 1 => 31 * pTR f h k + (f k).toInt64
section
variable {E : zE} {σ : zH} {a : Nat} {M : zMo}
theorem k_Mpart0  : zM E YM_part 1 [.ref a, .int (nI 0)] (mw σ a M) (some (.long (M.2.2.2 0))) (mw σ a M) := by
  refine zM.of oM_part (by decide +kernel) rfl rfl (fun n => ?_)
  refine zj_iload_n 0 rfl rfl rfl ?_
  refine zj_if_ne 1 rfl rfl (fun c1 => ?_) (fun c1 => ?_)
  · exact absurd c1 (by decide)
  · refine zj_aload_n 2 rfl rfl rfl ?_
    refine zj_get 3 rfl rfl mw_0 rfl ?_
    refine zj_goto 4 rfl rfl ?_
    refine zj_lreturn 12 rfl rfl rfl ?_
    exact ⟨rfl, rfl, rfl⟩
theorem k_Mpart1  : zM E YM_part 1 [.ref a, .int (nI 1)] (mw σ a M) (some (.long (M.2.2.2 1))) (mw σ a M) := by
  refine zM.of oM_part (by decide +kernel) rfl rfl (fun n => ?_)
  refine zj_iload_n 0 rfl rfl rfl ?_
  refine zj_if_ne 1 rfl rfl (fun c1 => ?_) (fun c1 => ?_)
  · refine zj_iload_n 5 rfl rfl rfl ?_
    refine zj_iconst 6 (1) rfl rfl (by decide) ?_
    refine zn_icmp_ne 7 (1) (1) rfl rfl rfl rfl (by omega) (by omega) (fun c13 => ?_) (fun c13 => ?_)
    · exact absurd c13 (by decide)
    · refine zj_aload_n 8 rfl rfl rfl ?_
      refine zj_get 9 rfl rfl mw_0 rfl ?_
      refine zj_goto 10 rfl rfl ?_
      refine zj_lreturn 12 rfl rfl rfl ?_
      exact ⟨rfl, rfl, rfl⟩
  · exact absurd c1 (by decide)
theorem k_Mpart_bad (x : Int32) (hb : ¬ zr x 2) : zM E YM_part 1 [.ref a, .int x] (mw σ a M) (some (.long (-1))) (mw σ a M) := by
  refine zM.of oM_part (by decide +kernel) rfl rfl (fun n => ?_)
  refine zj_iload_n 0 rfl rfl rfl ?_
  refine zj_if_ne 1 rfl rfl (fun c1 => ?_) (fun c1 => ?_)
  · refine zj_iload_n 5 rfl rfl rfl ?_
    refine zj_iconst 6 (1) rfl rfl (by decide) ?_
    refine zj_icmp_ne 7 rfl rfl (fun c13 => ?_) (fun c13 => ?_)
    · refine zj_ldc2 11 (-1) rfl rfl (by decide) ?_
      refine zj_lreturn 12 rfl rfl rfl ?_
      exact ⟨rfl, rfl, rfl⟩
    · exact absurd (show zr x 2 by rw [c13]; decide) hb
  · exact absurd (show zr x 2 by rw [c1]; decide) hb
theorem k_Mown (v : Nat) (hv : v < 29) : zM E YM_own 2 [.ref a, .int (nI v)] (mw σ a M) (some (.int (M.1 0 779))) (mw σ a (M.sA 0 (va_up (M.1 0) 779 (nI v)))) := by
  refine zM.of oM_own (by decide +kernel) rfl rfl (fun n => ?_)
  refine zj_iload_n 0 rfl rfl rfl ?_
  refine zj_i2l 1 rfl rfl ?_
  refine zj_lconst 2 (0) rfl rfl (by decide) ?_
  refine zj_ldc2 3 (28) rfl rfl (by decide) ?_
  refine zj_csx 4 rfl rfl lk_8_51 ckM_in (k_in0 _ _ 29 (by decide)) rfl rfl rfl rfl ?_
  refine zj_if_eq 5 rfl rfl (fun c9 => ?_) (fun c9 => ?_)
  · exact absurd (zr_of (n := 29) (by omega) (by decide)) (zo_0.mp c9)
  · refine zj_aload_n 6 rfl rfl rfl ?_
    refine zj_sipush 7 (779) rfl rfl (by decide) ?_
    refine zj_iload_n 8 rfl rfl rfl ?_
    refine zj_cvx 9 rfl rfl lk_8_66 ckM_change (k_change 779 _ (by decide)) rfl mw_0 rfl rfl rfl ?_
    refine zj_goto 10 rfl rfl ?_
    refine zj_ireturn 12 rfl rfl rfl ?_
    exact ⟨rfl, rfl, rfl⟩
theorem k_Mown_bad (v : Int32) (hb : ¬ zr v 29) : zM E YM_own 2 [.ref a, .int v] (mw σ a M) (some (.int (-2))) (mw σ a M) := by
  refine zM.of oM_own (by decide +kernel) rfl rfl (fun n => ?_)
  refine zj_iload_n 0 rfl rfl rfl ?_
  refine zj_i2l 1 rfl rfl ?_
  refine zj_lconst 2 (0) rfl rfl (by decide) ?_
  refine zj_ldc2 3 (28) rfl rfl (by decide) ?_
  refine zj_csx 4 rfl rfl lk_8_51 ckM_in (k_in0 _ _ 29 (by decide)) rfl rfl rfl rfl ?_
  refine zj_if_eq 5 rfl rfl (fun c9 => ?_) (fun c9 => ?_)
  · refine zj_bipush 11 (-2) rfl rfl (by decide) ?_
    refine zj_ireturn 12 rfl rfl rfl ?_
    exact ⟨rfl, rfl, rfl⟩
  · exact absurd (zo_n0.mp c9) hb
theorem k_Merror (v : Nat) (hv : v < 29) : zM E YM_error 2 [.ref a, .int (nI v)] (mw σ a M) (some (.int (M.1 0 817))) (mw σ a (M.sA 0 (va_up (M.1 0) 817 (nI v)))) := by
  refine zM.of oM_error (by decide +kernel) rfl rfl (fun n => ?_)
  refine zj_iload_n 0 rfl rfl rfl ?_
  refine zj_i2l 1 rfl rfl ?_
  refine zj_lconst 2 (0) rfl rfl (by decide) ?_
  refine zj_ldc2 3 (28) rfl rfl (by decide) ?_
  refine zj_csx 4 rfl rfl lk_8_51 ckM_in (k_in0 _ _ 29 (by decide)) rfl rfl rfl rfl ?_
  refine zj_if_eq 5 rfl rfl (fun c9 => ?_) (fun c9 => ?_)
  · exact absurd (zr_of (n := 29) (by omega) (by decide)) (zo_0.mp c9)
  · refine zj_aload_n 6 rfl rfl rfl ?_
    refine zj_sipush 7 (817) rfl rfl (by decide) ?_
    refine zj_iload_n 8 rfl rfl rfl ?_
    refine zj_cvx 9 rfl rfl lk_8_66 ckM_change (k_change 817 _ (by decide)) rfl mw_0 rfl rfl rfl ?_
    refine zj_goto 10 rfl rfl ?_
    refine zj_ireturn 12 rfl rfl rfl ?_
    exact ⟨rfl, rfl, rfl⟩
theorem k_Merror_bad (v : Int32) (hb : ¬ zr v 29) : zM E YM_error 2 [.ref a, .int v] (mw σ a M) (some (.int (-2))) (mw σ a M) := by
  refine zM.of oM_error (by decide +kernel) rfl rfl (fun n => ?_)
  refine zj_iload_n 0 rfl rfl rfl ?_
  refine zj_i2l 1 rfl rfl ?_
  refine zj_lconst 2 (0) rfl rfl (by decide) ?_
  refine zj_ldc2 3 (28) rfl rfl (by decide) ?_
  refine zj_csx 4 rfl rfl lk_8_51 ckM_in (k_in0 _ _ 29 (by decide)) rfl rfl rfl rfl ?_
  refine zj_if_eq 5 rfl rfl (fun c9 => ?_) (fun c9 => ?_)
  · refine zj_bipush 11 (-2) rfl rfl (by decide) ?_
    refine zj_ireturn 12 rfl rfl rfl ?_
    exact ⟨rfl, rfl, rfl⟩
  · exact absurd (zo_n0.mp c9) hb
theorem k_isSheets (x : Int32) (ns : Nat) (h2 : M.1 0 549 = nI ns) (hb2 : ns ≤ 16) : zM E YM_isSheets 2 [.ref a, .int x] (mw σ a M) (some (.int (zo (zr x (2 ^ ns : Nat))))) (mw σ a M) := by
  refine zM.of oM_isSheets (by decide +kernel) rfl rfl (fun n => ?_)
  refine zj_iload_n 0 rfl rfl rfl ?_
  refine zj_i2l 1 rfl rfl ?_
  refine zj_lconst 2 (0) rfl rfl (by decide) ?_
  refine zj_iconst 3 (1) rfl rfl (by decide) ?_
  refine zj_aload_n 4 rfl rfl rfl ?_
  refine zj_get 5 rfl rfl mw_0 rfl ?_
  refine zj_sipush 6 (549) rfl rfl (by decide) ?_
  refine zn_iald 7 (549) rfl rfl mw_1 rfl (by omega) (by decide) ?_
  rw [h2]
  refine zj_ishl 8 rfl rfl ?_
  refine zj_iconst 9 (1) rfl rfl (by decide) ?_
  refine zj_isub 10 rfl rfl ?_
  refine zj_i2l 11 rfl rfl ?_
  refine zj_csx 12 rfl rfl lk_8_51 ckM_in (k_in _ _ _) rfl rfl rfl rfl ?_
  refine zj_zreturn 13 rfl rfl rfl (zo_nar _) ?_
  exact ⟨zrt (zo_c (by rw [zl0, zl0, zfull ns (by omega), Int64.toInt_zero]; unfold zr; omega)), rfl, rfl⟩
theorem l_mayHave (s : Nat) (hs : s < 80) (fr l0 : Int32) : ∀ (m : Nat) (t : Nat) (o5 : Option Value), (t + m = s) → ∀ n, zB E YM_mayHave 2 n (some (.int (pMH (rSl (M.1 0)) s fr l0 s).1)) (mw σ a (M.sI 6 (pMH (rSl (M.1 0)) s fr l0 s).2)) (mw σ a (M.sI 6 (pMH (rSl (M.1 0)) s fr l0 t).2)) 42 [some (.ref a), some (.int (nI s)), some (.int fr), some (.int (pMH (rSl (M.1 0)) s fr l0 t).1), some (.int (nI t)), o5] [] := by
  intro m
  induction m using Nat.strongRecOn with
  | ind m ih =>
  intro t o5 ht n
  refine zj_iload 24 rfl rfl rfl ?_
  refine zj_iload_n 25 rfl rfl rfl ?_
  refine zn_icmp_ge 26 (t) (s) rfl rfl rfl rfl (by omega) (by omega) (fun c45 => ?_) (fun c45 => ?_)
  · refine zj_iload_n 75 rfl rfl rfl ?_
    refine zj_ireturn 76 rfl rfl rfl ?_
    obtain rfl : t = s := by omega
    exact ⟨rfl, rfl, rfl⟩
  · refine zj_iload_n 27 rfl rfl rfl ?_
    refine zj_iload 28 rfl rfl rfl ?_
    refine zj_ishr 29 rfl rfl ?_
    refine zj_iconst 30 (1) rfl rfl (by decide) ?_
    refine zj_iand 31 rfl rfl ?_
    refine zj_iconst 32 (1) rfl rfl (by decide) ?_
    refine zj_icmp_ne 33 rfl rfl (fun c55 => ?_) (fun c55 => ?_)
    · refine zn_iinc 73 (t) rfl rfl rfl rfl ?_
      refine zj_goto 74 rfl rfl ?_
      have e := pMH_s (rSl (M.1 0)) s fr l0 t
      have hh := ih (m - 1) (by omega) (t + 1)
      first
        | (rw [if_neg (fun g => c55 ((zhas1_iff _ _).mpr g))] at e
           rw [e] at hh
           exact hh _ (by omega) n)
        | exact absurd c118 c81
        | exact absurd c81 c118
        | (rw [if_pos ((zhas1_iff _ _).mp c55)] at e
           rw [sI_sI]
           have c81' : zb28 (rSl (M.1 0) s ^^^ rSl (M.1 0) t) 28 < (pMH (rSl (M.1 0)) s fr l0 t).2 := Int32.not_le.mp c81
           rw [if_pos c81', if_pos c81'] at e
           rw [e] at hh
           exact hh _ (by omega) n)
        | (rw [if_pos ((zhas1_iff _ _).mp c55)] at e
           rw [sI_sI]
           have c81' : ¬ zb28 (rSl (M.1 0) s ^^^ rSl (M.1 0) t) 28 < (pMH (rSl (M.1 0)) s fr l0 t).2 := Int32.not_lt.mpr c81
           rw [if_neg c81', if_neg c81'] at e
           first
             | (have c97' : zb28 (rSl (M.1 0) s ^^^ rSl (M.1 0) t) 28 = (pMH (rSl (M.1 0)) s fr l0 t).2 := c97
                rw [if_pos c97'] at e
                rw [e] at hh
                exact hh _ (by omega) n)
             | (have c97' : ¬ zb28 (rSl (M.1 0) s ^^^ rSl (M.1 0) t) 28 = (pMH (rSl (M.1 0)) s fr l0 t).2 := c97
                rw [if_neg c97'] at e
                rw [e] at hh
                exact hh _ (by omega) n))
    · refine zj_aload_n 34 rfl rfl rfl ?_
      refine zj_iload_n 35 rfl rfl rfl ?_
      refine zj_cvx 36 rfl rfl lk_8_207 ckM_linesOf (k_linesOf _ (by omega)) rfl mw_0 rfl rfl rfl ?_
      refine zj_aload_n 37 rfl rfl rfl ?_
      refine zj_iload 38 rfl rfl rfl ?_
      refine zj_cvx 39 rfl rfl lk_8_207 ckM_linesOf (k_linesOf _ (by omega)) rfl mw_0 rfl rfl rfl ?_
      refine zj_ixor 40 rfl rfl ?_
      refine zj_csx 41 rfl rfl lk_8_184 ckM_bitsOf (k_bitsOf _) rfl rfl rfl rfl ?_
      refine zj_istore 42 rfl rfl ?_
      refine zj_iload 43 rfl rfl rfl ?_
      refine zj_aload_n 44 rfl rfl rfl ?_
      refine zj_get 45 rfl rfl mw_0 rfl ?_
      refine zj_icmp_ge 46 rfl rfl (fun c81 => ?_) (fun c81 => ?_)
      · refine zj_iload 51 rfl rfl rfl ?_
        refine zj_aload_n 52 rfl rfl rfl ?_
        refine zj_get 53 rfl rfl mw_0 rfl ?_
        refine zj_icmp_ne 54 rfl rfl (fun c97 => ?_) (fun c97 => ?_)
        · refine zj_iload_n 61 rfl rfl rfl ?_
          refine zj_istore_n 62 rfl rfl ?_
          refine zj_aload_n 63 rfl rfl rfl ?_
          refine zj_iload 64 rfl rfl rfl ?_
          refine zj_aload_n 65 rfl rfl rfl ?_
          refine zj_get 66 rfl rfl mw_0 rfl ?_
          refine zj_icmp_ge 67 rfl rfl (fun c118 => ?_) (fun c118 => ?_)
          · refine zj_aload_n 70 rfl rfl rfl ?_
            refine zj_get 71 rfl rfl mw_0 rfl ?_
            refine zn_put 72 rfl rfl mw_0 rfl rfl rfl rfl mw_p_leastCost ?_
            refine zn_iinc 73 (t) rfl rfl rfl rfl ?_
            refine zj_goto 74 rfl rfl ?_
            have e := pMH_s (rSl (M.1 0)) s fr l0 t
            have hh := ih (m - 1) (by omega) (t + 1)
            first
              | (rw [if_neg (fun g => c55 ((zhas1_iff _ _).mpr g))] at e
                 rw [e] at hh
                 exact hh _ (by omega) n)
              | exact absurd c118 c81
              | exact absurd c81 c118
              | (rw [if_pos ((zhas1_iff _ _).mp c55)] at e
                 rw [sI_sI]
                 have c81' : zb28 (rSl (M.1 0) s ^^^ rSl (M.1 0) t) 28 < (pMH (rSl (M.1 0)) s fr l0 t).2 := Int32.not_le.mp c81
                 rw [if_pos c81', if_pos c81'] at e
                 rw [e] at hh
                 exact hh _ (by omega) n)
              | (rw [if_pos ((zhas1_iff _ _).mp c55)] at e
                 rw [sI_sI]
                 have c81' : ¬ zb28 (rSl (M.1 0) s ^^^ rSl (M.1 0) t) 28 < (pMH (rSl (M.1 0)) s fr l0 t).2 := Int32.not_lt.mpr c81
                 rw [if_neg c81', if_neg c81'] at e
                 first
                   | (have c97' : zb28 (rSl (M.1 0) s ^^^ rSl (M.1 0) t) 28 = (pMH (rSl (M.1 0)) s fr l0 t).2 := c97
                      rw [if_pos c97'] at e
                      rw [e] at hh
                      exact hh _ (by omega) n)
                   | (have c97' : ¬ zb28 (rSl (M.1 0) s ^^^ rSl (M.1 0) t) 28 = (pMH (rSl (M.1 0)) s fr l0 t).2 := c97
                      rw [if_neg c97'] at e
                      rw [e] at hh
                      exact hh _ (by omega) n))
          · refine zj_iload 68 rfl rfl rfl ?_
            refine zj_goto 69 rfl rfl ?_
            refine zn_put 72 rfl rfl mw_0 rfl rfl rfl rfl mw_p_leastCost ?_
            refine zn_iinc 73 (t) rfl rfl rfl rfl ?_
            refine zj_goto 74 rfl rfl ?_
            have e := pMH_s (rSl (M.1 0)) s fr l0 t
            have hh := ih (m - 1) (by omega) (t + 1)
            first
              | (rw [if_neg (fun g => c55 ((zhas1_iff _ _).mpr g))] at e
                 rw [e] at hh
                 exact hh _ (by omega) n)
              | exact absurd c118 c81
              | exact absurd c81 c118
              | (rw [if_pos ((zhas1_iff _ _).mp c55)] at e
                 rw [sI_sI]
                 have c81' : zb28 (rSl (M.1 0) s ^^^ rSl (M.1 0) t) 28 < (pMH (rSl (M.1 0)) s fr l0 t).2 := Int32.not_le.mp c81
                 rw [if_pos c81', if_pos c81'] at e
                 rw [e] at hh
                 exact hh _ (by omega) n)
              | (rw [if_pos ((zhas1_iff _ _).mp c55)] at e
                 rw [sI_sI]
                 have c81' : ¬ zb28 (rSl (M.1 0) s ^^^ rSl (M.1 0) t) 28 < (pMH (rSl (M.1 0)) s fr l0 t).2 := Int32.not_lt.mpr c81
                 rw [if_neg c81', if_neg c81'] at e
                 first
                   | (have c97' : zb28 (rSl (M.1 0) s ^^^ rSl (M.1 0) t) 28 = (pMH (rSl (M.1 0)) s fr l0 t).2 := c97
                      rw [if_pos c97'] at e
                      rw [e] at hh
                      exact hh _ (by omega) n)
                   | (have c97' : ¬ zb28 (rSl (M.1 0) s ^^^ rSl (M.1 0) t) 28 = (pMH (rSl (M.1 0)) s fr l0 t).2 := c97
                      rw [if_neg c97'] at e
                      rw [e] at hh
                      exact hh _ (by omega) n))
        · refine zj_iload_n 55 rfl rfl rfl ?_
          refine zj_iconst 56 (1) rfl rfl (by decide) ?_
          refine zj_iload 57 rfl rfl rfl ?_
          refine zj_ishl 58 rfl rfl ?_
          refine zj_ior 59 rfl rfl ?_
          refine zj_goto 60 rfl rfl ?_
          refine zj_istore_n 62 rfl rfl ?_
          refine zj_aload_n 63 rfl rfl rfl ?_
          refine zj_iload 64 rfl rfl rfl ?_
          refine zj_aload_n 65 rfl rfl rfl ?_
          refine zj_get 66 rfl rfl mw_0 rfl ?_
          refine zj_icmp_ge 67 rfl rfl (fun c118 => ?_) (fun c118 => ?_)
          · refine zj_aload_n 70 rfl rfl rfl ?_
            refine zj_get 71 rfl rfl mw_0 rfl ?_
            refine zn_put 72 rfl rfl mw_0 rfl rfl rfl rfl mw_p_leastCost ?_
            refine zn_iinc 73 (t) rfl rfl rfl rfl ?_
            refine zj_goto 74 rfl rfl ?_
            have e := pMH_s (rSl (M.1 0)) s fr l0 t
            have hh := ih (m - 1) (by omega) (t + 1)
            first
              | (rw [if_neg (fun g => c55 ((zhas1_iff _ _).mpr g))] at e
                 rw [e] at hh
                 exact hh _ (by omega) n)
              | exact absurd c118 c81
              | exact absurd c81 c118
              | (rw [if_pos ((zhas1_iff _ _).mp c55)] at e
                 rw [sI_sI]
                 have c81' : zb28 (rSl (M.1 0) s ^^^ rSl (M.1 0) t) 28 < (pMH (rSl (M.1 0)) s fr l0 t).2 := Int32.not_le.mp c81
                 rw [if_pos c81', if_pos c81'] at e
                 rw [e] at hh
                 exact hh _ (by omega) n)
              | (rw [if_pos ((zhas1_iff _ _).mp c55)] at e
                 rw [sI_sI]
                 have c81' : ¬ zb28 (rSl (M.1 0) s ^^^ rSl (M.1 0) t) 28 < (pMH (rSl (M.1 0)) s fr l0 t).2 := Int32.not_lt.mpr c81
                 rw [if_neg c81', if_neg c81'] at e
                 first
                   | (have c97' : zb28 (rSl (M.1 0) s ^^^ rSl (M.1 0) t) 28 = (pMH (rSl (M.1 0)) s fr l0 t).2 := c97
                      rw [if_pos c97'] at e
                      rw [e] at hh
                      exact hh _ (by omega) n)
                   | (have c97' : ¬ zb28 (rSl (M.1 0) s ^^^ rSl (M.1 0) t) 28 = (pMH (rSl (M.1 0)) s fr l0 t).2 := c97
                      rw [if_neg c97'] at e
                      rw [e] at hh
                      exact hh _ (by omega) n))
          · refine zj_iload 68 rfl rfl rfl ?_
            refine zj_goto 69 rfl rfl ?_
            refine zn_put 72 rfl rfl mw_0 rfl rfl rfl rfl mw_p_leastCost ?_
            refine zn_iinc 73 (t) rfl rfl rfl rfl ?_
            refine zj_goto 74 rfl rfl ?_
            have e := pMH_s (rSl (M.1 0)) s fr l0 t
            have hh := ih (m - 1) (by omega) (t + 1)
            first
              | (rw [if_neg (fun g => c55 ((zhas1_iff _ _).mpr g))] at e
                 rw [e] at hh
                 exact hh _ (by omega) n)
              | exact absurd c118 c81
              | exact absurd c81 c118
              | (rw [if_pos ((zhas1_iff _ _).mp c55)] at e
                 rw [sI_sI]
                 have c81' : zb28 (rSl (M.1 0) s ^^^ rSl (M.1 0) t) 28 < (pMH (rSl (M.1 0)) s fr l0 t).2 := Int32.not_le.mp c81
                 rw [if_pos c81', if_pos c81'] at e
                 rw [e] at hh
                 exact hh _ (by omega) n)
              | (rw [if_pos ((zhas1_iff _ _).mp c55)] at e
                 rw [sI_sI]
                 have c81' : ¬ zb28 (rSl (M.1 0) s ^^^ rSl (M.1 0) t) 28 < (pMH (rSl (M.1 0)) s fr l0 t).2 := Int32.not_lt.mpr c81
                 rw [if_neg c81', if_neg c81'] at e
                 first
                   | (have c97' : zb28 (rSl (M.1 0) s ^^^ rSl (M.1 0) t) 28 = (pMH (rSl (M.1 0)) s fr l0 t).2 := c97
                      rw [if_pos c97'] at e
                      rw [e] at hh
                      exact hh _ (by omega) n)
                   | (have c97' : ¬ zb28 (rSl (M.1 0) s ^^^ rSl (M.1 0) t) 28 = (pMH (rSl (M.1 0)) s fr l0 t).2 := c97
                      rw [if_neg c97'] at e
                      rw [e] at hh
                      exact hh _ (by omega) n))
      · refine zj_iconst 47 (1) rfl rfl (by decide) ?_
        refine zj_iload 48 rfl rfl rfl ?_
        refine zj_ishl 49 rfl rfl ?_
        refine zj_goto 50 rfl rfl ?_
        refine zj_istore_n 62 rfl rfl ?_
        refine zj_aload_n 63 rfl rfl rfl ?_
        refine zj_iload 64 rfl rfl rfl ?_
        refine zj_aload_n 65 rfl rfl rfl ?_
        refine zj_get 66 rfl rfl mw_0 rfl ?_
        refine zj_icmp_ge 67 rfl rfl (fun c118 => ?_) (fun c118 => ?_)
        · refine zj_aload_n 70 rfl rfl rfl ?_
          refine zj_get 71 rfl rfl mw_0 rfl ?_
          refine zn_put 72 rfl rfl mw_0 rfl rfl rfl rfl mw_p_leastCost ?_
          refine zn_iinc 73 (t) rfl rfl rfl rfl ?_
          refine zj_goto 74 rfl rfl ?_
          have e := pMH_s (rSl (M.1 0)) s fr l0 t
          have hh := ih (m - 1) (by omega) (t + 1)
          first
            | (rw [if_neg (fun g => c55 ((zhas1_iff _ _).mpr g))] at e
               rw [e] at hh
               exact hh _ (by omega) n)
            | exact absurd c118 c81
            | exact absurd c81 c118
            | (rw [if_pos ((zhas1_iff _ _).mp c55)] at e
               rw [sI_sI]
               have c81' : zb28 (rSl (M.1 0) s ^^^ rSl (M.1 0) t) 28 < (pMH (rSl (M.1 0)) s fr l0 t).2 := Int32.not_le.mp c81
               rw [if_pos c81', if_pos c81'] at e
               rw [e] at hh
               exact hh _ (by omega) n)
            | (rw [if_pos ((zhas1_iff _ _).mp c55)] at e
               rw [sI_sI]
               have c81' : ¬ zb28 (rSl (M.1 0) s ^^^ rSl (M.1 0) t) 28 < (pMH (rSl (M.1 0)) s fr l0 t).2 := Int32.not_lt.mpr c81
               rw [if_neg c81', if_neg c81'] at e
               first
                 | (have c97' : zb28 (rSl (M.1 0) s ^^^ rSl (M.1 0) t) 28 = (pMH (rSl (M.1 0)) s fr l0 t).2 := c97
                    rw [if_pos c97'] at e
                    rw [e] at hh
                    exact hh _ (by omega) n)
                 | (have c97' : ¬ zb28 (rSl (M.1 0) s ^^^ rSl (M.1 0) t) 28 = (pMH (rSl (M.1 0)) s fr l0 t).2 := c97
                    rw [if_neg c97'] at e
                    rw [e] at hh
                    exact hh _ (by omega) n))
        · refine zj_iload 68 rfl rfl rfl ?_
          refine zj_goto 69 rfl rfl ?_
          refine zn_put 72 rfl rfl mw_0 rfl rfl rfl rfl mw_p_leastCost ?_
          refine zn_iinc 73 (t) rfl rfl rfl rfl ?_
          refine zj_goto 74 rfl rfl ?_
          have e := pMH_s (rSl (M.1 0)) s fr l0 t
          have hh := ih (m - 1) (by omega) (t + 1)
          first
            | (rw [if_neg (fun g => c55 ((zhas1_iff _ _).mpr g))] at e
               rw [e] at hh
               exact hh _ (by omega) n)
            | exact absurd c118 c81
            | exact absurd c81 c118
            | (rw [if_pos ((zhas1_iff _ _).mp c55)] at e
               rw [sI_sI]
               have c81' : zb28 (rSl (M.1 0) s ^^^ rSl (M.1 0) t) 28 < (pMH (rSl (M.1 0)) s fr l0 t).2 := Int32.not_le.mp c81
               rw [if_pos c81', if_pos c81'] at e
               rw [e] at hh
               exact hh _ (by omega) n)
            | (rw [if_pos ((zhas1_iff _ _).mp c55)] at e
               rw [sI_sI]
               have c81' : ¬ zb28 (rSl (M.1 0) s ^^^ rSl (M.1 0) t) 28 < (pMH (rSl (M.1 0)) s fr l0 t).2 := Int32.not_lt.mpr c81
               rw [if_neg c81', if_neg c81'] at e
               first
                 | (have c97' : zb28 (rSl (M.1 0) s ^^^ rSl (M.1 0) t) 28 = (pMH (rSl (M.1 0)) s fr l0 t).2 := c97
                    rw [if_pos c97'] at e
                    rw [e] at hh
                    exact hh _ (by omega) n)
                 | (have c97' : ¬ zb28 (rSl (M.1 0) s ^^^ rSl (M.1 0) t) 28 = (pMH (rSl (M.1 0)) s fr l0 t).2 := c97
                    rw [if_neg c97'] at e
                    rw [e] at hh
                    exact hh _ (by omega) n))
theorem k_mayHave (s : Nat) (hs : s < 80) (nh : Nat) (h : M.1 0 598 = nI nh) (hb : nh ≤ 60) : zM E YM_mayHave 2 [.ref a, .int (nI s)] (mw σ a M) (some (.int (mMH (M.1 0) nh s).1)) (mw σ a (M.sI 6 (mMH (M.1 0) nh s).2)) := by
  refine zM.of oM_mayHave (by decide +kernel) rfl rfl (fun n => ?_)
  refine zj_aload_n 0 rfl rfl rfl ?_
  refine zj_aload_n 1 rfl rfl rfl ?_
  refine zj_iload_n 2 rfl rfl rfl ?_
  refine zj_cvx 3 rfl rfl lk_8_216 ckM_observerOf (k_observerOf _ (by omega)) rfl mw_0 rfl rfl rfl ?_
  refine zj_aload_n 4 rfl rfl rfl ?_
  refine zj_iload_n 5 rfl rfl rfl ?_
  refine zj_cvx 6 rfl rfl lk_8_192 ckM_nightOf (k_nightOf _ (by omega)) rfl mw_0 rfl rfl rfl ?_
  refine zj_cvx 7 rfl rfl lk_8_204 ckM_sheetsBy (k_sheetsBy _ _ nh h hb) rfl mw_0 rfl rfl rfl ?_
  refine zj_istore_n 8 rfl rfl ?_
  refine zj_aload_n 9 rfl rfl rfl ?_
  refine zj_aload_n 10 rfl rfl rfl ?_
  refine zj_iload_n 11 rfl rfl rfl ?_
  refine zj_cvx 12 rfl rfl lk_8_207 ckM_linesOf (k_linesOf _ (by omega)) rfl mw_0 rfl rfl rfl ?_
  refine zj_csx 13 rfl rfl lk_8_184 ckM_bitsOf (k_bitsOf _) rfl rfl rfl rfl ?_
  refine zj_aload_n 14 rfl rfl rfl ?_
  refine zj_get 15 rfl rfl mw_0 rfl ?_
  refine zj_sipush 16 (779) rfl rfl (by decide) ?_
  refine zn_iald 17 (779) rfl rfl mw_1 rfl (by omega) (by decide) ?_
  refine zj_iadd 18 rfl rfl ?_
  refine zn_put 19 rfl rfl mw_0 rfl rfl rfl rfl mw_p_leastCost ?_
  refine zj_ldc 20 (65536) rfl rfl (by decide) ?_
  refine zj_istore_n 21 rfl rfl ?_
  refine zj_iconst 22 (0) rfl rfl (by decide) ?_
  refine zj_istore 23 rfl rfl ?_
  exact l_mayHave s hs _ _ s 0 _ (by omega) n
theorem k_weightOf (s : Nat) (hs : s < 80) (hz : zr (rSo (M.1 0) s) 8) : zM E YM_weightOf 2 [.ref a, .int (nI s)] (mw σ a M) (some (.int (mWt (M.1 0) s))) (mw σ a M) := by
  obtain ⟨o, ho, he⟩ := zr_nI (n := 8) hz
  have hc : (rSo (M.1 0) s).toNatClampNeg = o := by rw [he]; exact nI_clamp (by omega)
  refine zM.of oM_weightOf (by decide +kernel) rfl rfl (fun n => ?_)
  refine zj_aload_n 0 rfl rfl rfl ?_
  refine zj_get 1 rfl rfl mw_0 rfl ?_
  refine zj_sipush 2 (534) rfl rfl (by decide) ?_
  refine zj_iconst 3 (2) rfl rfl (by decide) ?_
  refine zj_aload_n 4 rfl rfl rfl ?_
  refine zj_iload_n 5 rfl rfl rfl ?_
  refine zj_cvx 6 rfl rfl lk_8_216 ckM_observerOf (k_observerOf _ (by omega)) rfl mw_0 rfl rfl rfl ?_
  refine zn_imul 7 (2) (o) rfl rfl rfl he ?_
  refine zn_iadd 8 (534) (2 * o) rfl rfl rfl rfl ?_
  refine zn_iald 9 ((534) + (2 * o)) rfl rfl mw_1 rfl (by omega) (by decide) ?_
  refine zj_ireturn 10 rfl rfl rfl ?_
  exact ⟨zrt (by unfold mWt; rw [hc]), rfl, rfl⟩
theorem l_weight (line : Int32) (ns : Nat) (h2 : M.1 0 549 = nI ns) (hb2 : ns ≤ 16) (hz : ∀ s, s < ns → zr (rSo (M.1 0) s) 8) : ∀ (m : Nat) (k : Nat), (k + m = ns) → ∀ n, zB E YM_weight 3 n (some (.int (pW (rSl (M.1 0)) (mWt (M.1 0))  line ns))) (mw σ a M) (mw σ a M) 4 [some (.ref a), some (.int line), some (.int (pW (rSl (M.1 0)) (mWt (M.1 0))  line k)), some (.int (nI k))] [] := by
  intro m
  induction m using Nat.strongRecOn with
  | ind m ih =>
  intro k hk n
  refine zj_iload_n 4 rfl rfl rfl ?_
  refine zj_aload_n 5 rfl rfl rfl ?_
  refine zj_get 6 rfl rfl mw_0 rfl ?_
  refine zj_sipush 7 (549) rfl rfl (by decide) ?_
  refine zn_iald 8 (549) rfl rfl mw_1 rfl (by omega) (by decide) ?_
  refine zn_icmp_ge 9 (k) (ns) rfl rfl rfl h2 (by omega) (by omega) (fun c13 => ?_) (fun c13 => ?_)
  · refine zj_iload_n 32 rfl rfl rfl ?_
    refine zj_ireturn 33 rfl rfl rfl ?_
    obtain rfl : k = ns := by omega
    exact ⟨rfl, rfl, rfl⟩
  · refine zj_iload_n 10 rfl rfl rfl ?_
    refine zj_aload_n 11 rfl rfl rfl ?_
    refine zj_iload_n 12 rfl rfl rfl ?_
    refine zj_cvx 13 rfl rfl lk_8_207 ckM_linesOf (k_linesOf _ (by omega)) rfl mw_0 rfl rfl rfl ?_
    refine zj_iload_n 14 rfl rfl rfl ?_
    refine zj_ishr 15 rfl rfl ?_
    refine zj_iconst 16 (1) rfl rfl (by decide) ?_
    refine zj_iand 17 rfl rfl ?_
    refine zj_iconst 18 (1) rfl rfl (by decide) ?_
    refine zj_icmp_ne 19 rfl rfl (fun c27 => ?_) (fun c27 => ?_)
    · refine zj_aload_n 24 rfl rfl rfl ?_
      refine zj_iload_n 25 rfl rfl rfl ?_
      refine zj_cvx 26 rfl rfl lk_8_269 ckM_weightOf (k_weightOf _ (by omega) (hz _ (by omega))) rfl mw_0 rfl rfl rfl ?_
      refine zj_ineg 27 rfl rfl ?_
      refine zj_iadd 28 rfl rfl ?_
      refine zj_istore_n 29 rfl rfl ?_
      refine zn_iinc 30 (k) rfl rfl rfl rfl ?_
      refine zj_goto 31 rfl rfl ?_
      have e : pW (rSl (M.1 0)) (mWt (M.1 0))  line (k + 1) = pW (rSl (M.1 0)) (mWt (M.1 0))  line k + (if zhas (rSl (M.1 0) k) line then mWt (M.1 0) k else -(mWt (M.1 0) k)) := rfl
      have hh := ih (m - 1) (by omega) (k + 1) (by omega) n
      first
        | (rw [e, if_pos ((zhas1_iff _ _).mp c27)] at hh; exact hh)
        | (rw [e, if_neg (fun g => c27 ((zhas1_iff _ _).mpr g))] at hh; exact hh)
    · refine zj_aload_n 20 rfl rfl rfl ?_
      refine zj_iload_n 21 rfl rfl rfl ?_
      refine zj_cvx 22 rfl rfl lk_8_269 ckM_weightOf (k_weightOf _ (by omega) (hz _ (by omega))) rfl mw_0 rfl rfl rfl ?_
      refine zj_goto 23 rfl rfl ?_
      refine zj_iadd 28 rfl rfl ?_
      refine zj_istore_n 29 rfl rfl ?_
      refine zn_iinc 30 (k) rfl rfl rfl rfl ?_
      refine zj_goto 31 rfl rfl ?_
      have e : pW (rSl (M.1 0)) (mWt (M.1 0))  line (k + 1) = pW (rSl (M.1 0)) (mWt (M.1 0))  line k + (if zhas (rSl (M.1 0) k) line then mWt (M.1 0) k else -(mWt (M.1 0) k)) := rfl
      have hh := ih (m - 1) (by omega) (k + 1) (by omega) n
      first
        | (rw [e, if_pos ((zhas1_iff _ _).mp c27)] at hh; exact hh)
        | (rw [e, if_neg (fun g => c27 ((zhas1_iff _ _).mpr g))] at hh; exact hh)
theorem k_weight (line : Int32) (ns : Nat) (h2 : M.1 0 549 = nI ns) (hb2 : ns ≤ 16) (hz : ∀ s, s < ns → zr (rSo (M.1 0) s) 8) : zM E YM_weight 3 [.ref a, .int line] (mw σ a M) (some (.int (pW (rSl (M.1 0)) (mWt (M.1 0))  line ns))) (mw σ a M) := by
  refine zM.of oM_weight (by decide +kernel) rfl rfl (fun n => ?_)
  refine zj_iconst 0 (0) rfl rfl (by decide) ?_
  refine zj_istore_n 1 rfl rfl ?_
  refine zj_iconst 2 (0) rfl rfl (by decide) ?_
  refine zj_istore_n 3 rfl rfl ?_
  exact l_weight line ns h2 hb2 hz ns 0 (by omega) n
theorem l_season (x y : Int32) (ns : Nat) (h2 : M.1 0 549 = nI ns) (hb2 : ns ≤ 16) : ∀ (m : Nat) (k : Nat), (k + m = ns) → ∀ n, zB E YM_season 3 n (some (.int (pLSe (rSl (M.1 0)) x y ns))) (mw σ a M) (mw σ a M) 40 [some (.ref a), some (.int x), some (.int y), some (.int (pLSe (rSl (M.1 0)) x y k)), some (.int (nI k))] [] := by
  intro m
  induction m using Nat.strongRecOn with
  | ind m ih =>
  intro k hk n
  refine zj_iload 22 rfl rfl rfl ?_
  refine zj_aload_n 23 rfl rfl rfl ?_
  refine zj_get 24 rfl rfl mw_0 rfl ?_
  refine zj_sipush 25 (549) rfl rfl (by decide) ?_
  refine zn_iald 26 (549) rfl rfl mw_1 rfl (by omega) (by decide) ?_
  refine zn_icmp_ge 27 (k) (ns) rfl rfl rfl h2 (by omega) (by omega) (fun c50 => ?_) (fun c50 => ?_)
  · refine zj_iload_n 62 rfl rfl rfl ?_
    refine zj_ireturn 63 rfl rfl rfl ?_
    obtain rfl : k = ns := by omega
    exact ⟨rfl, rfl, rfl⟩
  · refine zj_iload_n 28 rfl rfl rfl ?_
    refine zj_iload_n 29 rfl rfl rfl ?_
    refine zj_iload 30 rfl rfl rfl ?_
    refine zj_ishr 31 rfl rfl ?_
    refine zj_iconst 32 (1) rfl rfl (by decide) ?_
    refine zj_iand 33 rfl rfl ?_
    refine zj_iconst 34 (1) rfl rfl (by decide) ?_
    refine zj_icmp_ne 35 rfl rfl (fun c61 => ?_) (fun c61 => ?_)
    · refine zj_iconst 40 (-1) rfl rfl (by decide) ?_
      refine zj_iand 41 rfl rfl ?_
      refine zj_istore_n 42 rfl rfl ?_
      refine zj_iload_n 43 rfl rfl rfl ?_
      refine zj_iload_n 44 rfl rfl rfl ?_
      refine zj_iload 45 rfl rfl rfl ?_
      refine zj_ishr 46 rfl rfl ?_
      refine zj_iconst 47 (1) rfl rfl (by decide) ?_
      refine zj_iand 48 rfl rfl ?_
      refine zj_iconst 49 (1) rfl rfl (by decide) ?_
      refine zj_icmp_ne 50 rfl rfl (fun c84 => ?_) (fun c84 => ?_)
      · refine zj_iconst 57 (-1) rfl rfl (by decide) ?_
        refine zj_iand 58 rfl rfl ?_
        refine zj_istore_n 59 rfl rfl ?_
        refine zn_iinc 60 (k) rfl rfl rfl rfl ?_
        refine zj_goto 61 rfl rfl ?_
        have e : pLSe (rSl (M.1 0)) x y (k + 1) = (pLSe (rSl (M.1 0)) x y k &&& (if zhas x (nI k) then rSl (M.1 0) k else -1)) &&& (if zhas y (nI k) then rSl (M.1 0) k ^^^ (-1) else -1) := rfl
        have hh := ih (m - 1) (by omega) (k + 1) (by omega) n
        rw [e] at hh
        first | rw [if_pos ((zhas1_iff _ _).mp c61)] at hh | rw [if_neg (fun g => c61 ((zhas1_iff _ _).mpr g))] at hh
        first | rw [if_pos ((zhas1_iff _ _).mp c84)] at hh | rw [if_neg (fun g => c84 ((zhas1_iff _ _).mpr g))] at hh
        exact hh
      · refine zj_aload_n 51 rfl rfl rfl ?_
        refine zj_iload 52 rfl rfl rfl ?_
        refine zj_cvx 53 rfl rfl lk_8_207 ckM_linesOf (k_linesOf _ (by omega)) rfl mw_0 rfl rfl rfl ?_
        refine zj_iconst 54 (-1) rfl rfl (by decide) ?_
        refine zj_ixor 55 rfl rfl ?_
        refine zj_goto 56 rfl rfl ?_
        refine zj_iand 58 rfl rfl ?_
        refine zj_istore_n 59 rfl rfl ?_
        refine zn_iinc 60 (k) rfl rfl rfl rfl ?_
        refine zj_goto 61 rfl rfl ?_
        have e : pLSe (rSl (M.1 0)) x y (k + 1) = (pLSe (rSl (M.1 0)) x y k &&& (if zhas x (nI k) then rSl (M.1 0) k else -1)) &&& (if zhas y (nI k) then rSl (M.1 0) k ^^^ (-1) else -1) := rfl
        have hh := ih (m - 1) (by omega) (k + 1) (by omega) n
        rw [e] at hh
        first | rw [if_pos ((zhas1_iff _ _).mp c61)] at hh | rw [if_neg (fun g => c61 ((zhas1_iff _ _).mpr g))] at hh
        first | rw [if_pos ((zhas1_iff _ _).mp c84)] at hh | rw [if_neg (fun g => c84 ((zhas1_iff _ _).mpr g))] at hh
        exact hh
    · refine zj_aload_n 36 rfl rfl rfl ?_
      refine zj_iload 37 rfl rfl rfl ?_
      refine zj_cvx 38 rfl rfl lk_8_207 ckM_linesOf (k_linesOf _ (by omega)) rfl mw_0 rfl rfl rfl ?_
      refine zj_goto 39 rfl rfl ?_
      refine zj_iand 41 rfl rfl ?_
      refine zj_istore_n 42 rfl rfl ?_
      refine zj_iload_n 43 rfl rfl rfl ?_
      refine zj_iload_n 44 rfl rfl rfl ?_
      refine zj_iload 45 rfl rfl rfl ?_
      refine zj_ishr 46 rfl rfl ?_
      refine zj_iconst 47 (1) rfl rfl (by decide) ?_
      refine zj_iand 48 rfl rfl ?_
      refine zj_iconst 49 (1) rfl rfl (by decide) ?_
      refine zj_icmp_ne 50 rfl rfl (fun c84 => ?_) (fun c84 => ?_)
      · refine zj_iconst 57 (-1) rfl rfl (by decide) ?_
        refine zj_iand 58 rfl rfl ?_
        refine zj_istore_n 59 rfl rfl ?_
        refine zn_iinc 60 (k) rfl rfl rfl rfl ?_
        refine zj_goto 61 rfl rfl ?_
        have e : pLSe (rSl (M.1 0)) x y (k + 1) = (pLSe (rSl (M.1 0)) x y k &&& (if zhas x (nI k) then rSl (M.1 0) k else -1)) &&& (if zhas y (nI k) then rSl (M.1 0) k ^^^ (-1) else -1) := rfl
        have hh := ih (m - 1) (by omega) (k + 1) (by omega) n
        rw [e] at hh
        first | rw [if_pos ((zhas1_iff _ _).mp c61)] at hh | rw [if_neg (fun g => c61 ((zhas1_iff _ _).mpr g))] at hh
        first | rw [if_pos ((zhas1_iff _ _).mp c84)] at hh | rw [if_neg (fun g => c84 ((zhas1_iff _ _).mpr g))] at hh
        exact hh
      · refine zj_aload_n 51 rfl rfl rfl ?_
        refine zj_iload 52 rfl rfl rfl ?_
        refine zj_cvx 53 rfl rfl lk_8_207 ckM_linesOf (k_linesOf _ (by omega)) rfl mw_0 rfl rfl rfl ?_
        refine zj_iconst 54 (-1) rfl rfl (by decide) ?_
        refine zj_ixor 55 rfl rfl ?_
        refine zj_goto 56 rfl rfl ?_
        refine zj_iand 58 rfl rfl ?_
        refine zj_istore_n 59 rfl rfl ?_
        refine zn_iinc 60 (k) rfl rfl rfl rfl ?_
        refine zj_goto 61 rfl rfl ?_
        have e : pLSe (rSl (M.1 0)) x y (k + 1) = (pLSe (rSl (M.1 0)) x y k &&& (if zhas x (nI k) then rSl (M.1 0) k else -1)) &&& (if zhas y (nI k) then rSl (M.1 0) k ^^^ (-1) else -1) := rfl
        have hh := ih (m - 1) (by omega) (k + 1) (by omega) n
        rw [e] at hh
        first | rw [if_pos ((zhas1_iff _ _).mp c61)] at hh | rw [if_neg (fun g => c61 ((zhas1_iff _ _).mpr g))] at hh
        first | rw [if_pos ((zhas1_iff _ _).mp c84)] at hh | rw [if_neg (fun g => c84 ((zhas1_iff _ _).mpr g))] at hh
        exact hh
theorem k_Mseason (x y : Int32) (ns : Nat) (h2 : M.1 0 549 = nI ns) (hb2 : ns ≤ 16) (hv : zr x (2 ^ ns : Nat) ∧ zr y (2 ^ ns : Nat) ∧ x ≠ 0 ∧ y ≠ 0 ∧ x &&& y = 0) : zM E YM_season 3 [.ref a, .int x, .int y] (mw σ a M) (some (.int (pLSe (rSl (M.1 0)) x y ns))) (mw σ a M) := by
  refine zM.of oM_season (by decide +kernel) rfl rfl (fun n => ?_)
  refine zj_aload_n 0 rfl rfl rfl ?_
  refine zj_iload_n 1 rfl rfl rfl ?_
  refine zj_cvx 2 rfl rfl lk_8_256 ckM_isSheets (k_isSheets _ ns h2 hb2) rfl mw_0 rfl rfl rfl ?_
  refine zj_if_eq 3 rfl rfl (fun c5 => ?_) (fun c5 => ?_)
  · exact absurd hv.1 (zo_0.mp c5)
  · refine zj_aload_n 4 rfl rfl rfl ?_
    refine zj_iload_n 5 rfl rfl rfl ?_
    refine zj_cvx 6 rfl rfl lk_8_256 ckM_isSheets (k_isSheets _ ns h2 hb2) rfl mw_0 rfl rfl rfl ?_
    refine zj_if_eq 7 rfl rfl (fun c13 => ?_) (fun c13 => ?_)
    · exact absurd hv.2.1 (zo_0.mp c13)
    · refine zj_iload_n 8 rfl rfl rfl ?_
      refine zj_if_eq 9 rfl rfl (fun c17 => ?_) (fun c17 => ?_)
      · exact absurd c17 hv.2.2.1
      · refine zj_iload_n 10 rfl rfl rfl ?_
        refine zj_if_eq 11 rfl rfl (fun c21 => ?_) (fun c21 => ?_)
        · exact absurd c21 hv.2.2.2.1
        · refine zj_iload_n 12 rfl rfl rfl ?_
          refine zj_iload_n 13 rfl rfl rfl ?_
          refine zj_iand 14 rfl rfl ?_
          refine zj_if_eq 15 rfl rfl (fun c27 => ?_) (fun c27 => ?_)
          · refine zj_ldcw 18 (268435455) rfl rfl (by decide) ?_
            refine zj_istore_n 19 rfl rfl ?_
            refine zj_iconst 20 (0) rfl rfl (by decide) ?_
            refine zj_istore 21 rfl rfl ?_
            exact l_season x y ns h2 hb2 ns 0 (by omega) n
          · exact absurd hv.2.2.2.2 c27
theorem k_Mseason_bad (x y : Int32) (ns : Nat) (h2 : M.1 0 549 = nI ns) (hb2 : ns ≤ 16) (hv : ¬ (zr x (2 ^ ns : Nat) ∧ zr y (2 ^ ns : Nat) ∧ x ≠ 0 ∧ y ≠ 0 ∧ x &&& y = 0)) : zM E YM_season 3 [.ref a, .int x, .int y] (mw σ a M) (some (.int (-2))) (mw σ a M) := by
  refine zM.of oM_season (by decide +kernel) rfl rfl (fun n => ?_)
  refine zj_aload_n 0 rfl rfl rfl ?_
  refine zj_iload_n 1 rfl rfl rfl ?_
  refine zj_cvx 2 rfl rfl lk_8_256 ckM_isSheets (k_isSheets _ ns h2 hb2) rfl mw_0 rfl rfl rfl ?_
  refine zj_if_eq 3 rfl rfl (fun c5 => ?_) (fun c5 => ?_)
  · refine zj_bipush 16 (-2) rfl rfl (by decide) ?_
    refine zj_ireturn 17 rfl rfl rfl ?_
    exact ⟨rfl, rfl, rfl⟩
  · refine zj_aload_n 4 rfl rfl rfl ?_
    refine zj_iload_n 5 rfl rfl rfl ?_
    refine zj_cvx 6 rfl rfl lk_8_256 ckM_isSheets (k_isSheets _ ns h2 hb2) rfl mw_0 rfl rfl rfl ?_
    refine zj_if_eq 7 rfl rfl (fun c13 => ?_) (fun c13 => ?_)
    · refine zj_bipush 16 (-2) rfl rfl (by decide) ?_
      refine zj_ireturn 17 rfl rfl rfl ?_
      exact ⟨rfl, rfl, rfl⟩
    · refine zj_iload_n 8 rfl rfl rfl ?_
      refine zj_if_eq 9 rfl rfl (fun c17 => ?_) (fun c17 => ?_)
      · refine zj_bipush 16 (-2) rfl rfl (by decide) ?_
        refine zj_ireturn 17 rfl rfl rfl ?_
        exact ⟨rfl, rfl, rfl⟩
      · refine zj_iload_n 10 rfl rfl rfl ?_
        refine zj_if_eq 11 rfl rfl (fun c21 => ?_) (fun c21 => ?_)
        · refine zj_bipush 16 (-2) rfl rfl (by decide) ?_
          refine zj_ireturn 17 rfl rfl rfl ?_
          exact ⟨rfl, rfl, rfl⟩
        · refine zj_iload_n 12 rfl rfl rfl ?_
          refine zj_iload_n 13 rfl rfl rfl ?_
          refine zj_iand 14 rfl rfl ?_
          refine zj_if_eq 15 rfl rfl (fun c27 => ?_) (fun c27 => ?_)
          · exact absurd ⟨zo_n0.mp c5, zo_n0.mp c13, c17, c21, c27⟩ hv
          · refine zj_bipush 16 (-2) rfl rfl (by decide) ?_
            refine zj_ireturn 17 rfl rfl rfl ?_
            exact ⟨rfl, rfl, rfl⟩
end
