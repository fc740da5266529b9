/-! the reference: observers, sheets, what was shown -/
def pSB (hs ho hn : Nat → Int32) (o night : Int32) : Nat → Int32
  | 0 => 0
  | k + 1 => pSB hs ho hn o night k ||| (if ho k = o ∧ hn k ≤ night then 1 <<< (hs k &&& 31) else 0)
theorem zhas1_iff (x y : Int32) : (x >>> (y &&& 31)) &&& 1 = 1 ↔ zhas x y := by
  unfold zhas
  generalize x >>> (y &&& 31) = z
  have h : z &&& 1 = 0 ∨ z &&& 1 = 1 := by
    obtain ⟨j, hj, e⟩ := pk_andE z (m := 1) 1 (by decide)
    rw [e]
    match j, hj with
    | 0, _ => exact Or.inl rfl
    | 1, _ => exact Or.inr rfl
  rcases h with h | h <;> rw [h] <;> simp
def pLS (sl : Nat → Int32) (sheets : Int32) : Nat → Int32
  | 0 => 0
  | s + 1 => pLS sl sheets s ||| (if zhas sheets (nI s) then sl s else 0)
/-- the places of the reference's row -/
abbrev rOl (r : Nat → Int32) (k : Nat) : Int32 := r (533 + 2 * k)
abbrev rOw (r : Nat → Int32) (k : Nat) : Int32 := r (534 + 2 * k)
abbrev rSl (r : Nat → Int32) (k : Nat) : Int32 := r (550 + 3 * k)
abbrev rSo (r : Nat → Int32) (k : Nat) : Int32 := r (551 + 3 * k)
abbrev rSn (r : Nat → Int32) (k : Nat) : Int32 := r (552 + 3 * k)
abbrev rHs (r : Nat → Int32) (k : Nat) : Int32 := r (599 + 3 * k)
abbrev rHo (r : Nat → Int32) (k : Nat) : Int32 := r (599 + 3 * k + 1)
abbrev rHn (r : Nat → Int32) (k : Nat) : Int32 := r (599 + 3 * k + 2)
abbrev rGw (r : Nat → Int32) (k : Nat) : Int32 := r (781 + 3 * k)
abbrev rGl (r : Nat → Int32) (k : Nat) : Int32 := r (781 + 3 * k + 1)
abbrev rGg (r : Nat → Int32) (k : Nat) : Int32 := r (781 + 3 * k + 2)
abbrev pSBm (r : Nat → Int32) (nh : Nat) (o night : Int32) : Int32 := pSB (rHs r) (rHo r) (rHn r) o night nh
abbrev pSHm (r : Nat → Int32) (nh ns : Nat) (o night : Int32) : Int32 := pLS (rSl r) (pSBm r nh o night) ns
theorem zm1_toInt {k : Nat} (h : k < 2 ^ 20) : (nI k - 1).toInt64.toInt = (k : Int) - 1 := by
  rw [zl0]
  have := pk_sub_toInt (a := k) (b := 1) (by omega) (by decide)
  exact this
def pLast (sn : Nat → Int32) (ns : Nat) : Int := if ns = 0 then 0 else (sn (ns - 1)).toInt
section
variable {E : zE} {σ : zH} {a : Nat} {M : zMo}
theorem k_linesOf (s : Nat) (hs : s < 80) : zM E YM_linesOf 1 [.ref a, .int (nI s)] (mw σ a M) (some (.int ((M.1 0) (550 + 3 * s)))) (mw σ a M) := by
  refine zM.of oM_linesOf (by decide +kernel) rfl rfl (fun n => ?_)
  refine zj_aload_n 0 rfl rfl rfl ?_
  refine zj_get 1 rfl rfl mw_0 rfl ?_
  refine zj_sipush 2 (550) rfl rfl (by decide) ?_
  refine zj_iconst 3 (3) rfl rfl (by decide) ?_
  refine zj_iload_n 4 rfl rfl rfl ?_
  refine zn_imul 5 (3) (s) rfl rfl rfl rfl ?_
  refine zn_iadd 6 (550) (3 * s) rfl rfl rfl rfl ?_
  refine zn_iald 7 ((550) + (3 * s)) rfl rfl mw_1 rfl (by omega) (by decide) ?_
  refine zj_ireturn 8 rfl rfl rfl ?_
  exact ⟨rfl, rfl, rfl⟩
theorem k_observerOf (s : Nat) (hs : s < 80) : zM E YM_observerOf 1 [.ref a, .int (nI s)] (mw σ a M) (some (.int ((M.1 0) (551 + 3 * s)))) (mw σ a M) := by
  refine zM.of oM_observerOf (by decide +kernel) rfl rfl (fun n => ?_)
  refine zj_aload_n 0 rfl rfl rfl ?_
  refine zj_get 1 rfl rfl mw_0 rfl ?_
  refine zj_sipush 2 (551) rfl rfl (by decide) ?_
  refine zj_iconst 3 (3) rfl rfl (by decide) ?_
  refine zj_iload_n 4 rfl rfl rfl ?_
  refine zn_imul 5 (3) (s) rfl rfl rfl rfl ?_
  refine zn_iadd 6 (551) (3 * s) rfl rfl rfl rfl ?_
  refine zn_iald 7 ((551) + (3 * s)) rfl rfl mw_1 rfl (by omega) (by decide) ?_
  refine zj_ireturn 8 rfl rfl rfl ?_
  exact ⟨rfl, rfl, rfl⟩
theorem k_nightOf (s : Nat) (hs : s < 80) : zM E YM_nightOf 1 [.ref a, .int (nI s)] (mw σ a M) (some (.int ((M.1 0) (552 + 3 * s)))) (mw σ a M) := by
  refine zM.of oM_nightOf (by decide +kernel) rfl rfl (fun n => ?_)
  refine zj_aload_n 0 rfl rfl rfl ?_
  refine zj_get 1 rfl rfl mw_0 rfl ?_
  refine zj_sipush 2 (552) rfl rfl (by decide) ?_
  refine zj_iconst 3 (3) rfl rfl (by decide) ?_
  refine zj_iload_n 4 rfl rfl rfl ?_
  refine zn_imul 5 (3) (s) rfl rfl rfl rfl ?_
  refine zn_iadd 6 (552) (3 * s) rfl rfl rfl rfl ?_
  refine zn_iald 7 ((552) + (3 * s)) rfl rfl mw_1 rfl (by omega) (by decide) ?_
  refine zj_ireturn 8 rfl rfl rfl ?_
  exact ⟨rfl, rfl, rfl⟩
theorem k_isObserver (x : Int32) (no : Nat) (h : (M.1 0) 532 = nI no) (hb : no < 100) : zM E YM_isObserver 2 [.ref a, .int x] (mw σ a M) (some (.int (zo (zr x no)))) (mw σ a M) := by
  refine zM.of oM_isObserver (by decide +kernel) rfl rfl (fun n => ?_)
  refine zj_iload_n 0 rfl rfl rfl ?_
  refine zj_i2l 1 rfl rfl ?_
  refine zj_lconst 2 (0) rfl rfl (by decide) ?_
  refine zj_aload_n 3 rfl rfl rfl ?_
  refine zj_get 4 rfl rfl mw_0 rfl ?_
  refine zj_sipush 5 (532) rfl rfl (by decide) ?_
  refine zn_iald 6 (532) rfl rfl mw_1 rfl (by omega) (by decide) ?_
  rw [h]
  refine zj_iconst 7 (1) rfl rfl (by decide) ?_
  refine zj_isub 8 rfl rfl ?_
  refine zj_i2l 9 rfl rfl ?_
  refine zj_csx 10 rfl rfl lk_8_51 ckM_in (k_in _ _ _) rfl rfl rfl rfl ?_
  refine zj_zreturn 11 rfl rfl rfl (zo_nar _) ?_
  exact ⟨zrt (zo_c (by rw [zl0, zm1_toInt (by omega), Int64.toInt_zero]; unfold zr; omega)), rfl, rfl⟩
theorem k_isSheet (x : Int32) (ns : Nat) (h : (M.1 0) 549 = nI ns) (hb : ns < 100) : zM E YM_isSheet 2 [.ref a, .int x] (mw σ a M) (some (.int (zo (zr x ns)))) (mw σ a M) := by
  refine zM.of oM_isSheet (by decide +kernel) rfl rfl (fun n => ?_)
  refine zj_iload_n 0 rfl rfl rfl ?_
  refine zj_i2l 1 rfl rfl ?_
  refine zj_lconst 2 (0) rfl rfl (by decide) ?_
  refine zj_aload_n 3 rfl rfl rfl ?_
  refine zj_get 4 rfl rfl mw_0 rfl ?_
  refine zj_sipush 5 (549) rfl rfl (by decide) ?_
  refine zn_iald 6 (549) rfl rfl mw_1 rfl (by omega) (by decide) ?_
  rw [h]
  refine zj_iconst 7 (1) rfl rfl (by decide) ?_
  refine zj_isub 8 rfl rfl ?_
  refine zj_i2l 9 rfl rfl ?_
  refine zj_csx 10 rfl rfl lk_8_51 ckM_in (k_in _ _ _) rfl rfl rfl rfl ?_
  refine zj_zreturn 11 rfl rfl rfl (zo_nar _) ?_
  exact ⟨zrt (zo_c (by rw [zl0, zm1_toInt (by omega), Int64.toInt_zero]; unfold zr; omega)), rfl, rfl⟩
theorem l_sheetsBy (o night : Int32) (nh : Nat) (h : (M.1 0) 598 = nI nh) (hb : nh ≤ 60) : ∀ (m : Nat) (k : Nat) (o5 : Option Value), (k + m = nh) → ∀ n, zB E YM_sheetsBy 1 n (some (.int (pSBm (M.1 0) nh o night))) (mw σ a M) (mw σ a M) 5 [some (.ref a), some (.int o), some (.int night), some (.int (pSBm (M.1 0) k o night)), some (.int (nI k)), o5] [] := by
  intro m
  induction m using Nat.strongRecOn with
  | ind m ih =>
  intro k o5 hk n
  refine zj_iload 4 rfl rfl rfl ?_
  refine zj_aload_n 5 rfl rfl rfl ?_
  refine zj_get 6 rfl rfl mw_0 rfl ?_
  refine zj_sipush 7 (598) rfl rfl (by decide) ?_
  refine zn_iald 8 (598) rfl rfl mw_1 rfl (by omega) (by decide) ?_
  refine zn_icmp_ge 9 (k) (nh) rfl rfl rfl h (by omega) (by omega) (fun c15 => ?_) (fun c15 => ?_)
  · refine zj_iload_n 45 rfl rfl rfl ?_
    refine zj_ireturn 46 rfl rfl rfl ?_
    obtain rfl : k = nh := by omega
    exact ⟨rfl, rfl, rfl⟩
  · refine zj_sipush 10 (599) rfl rfl (by decide) ?_
    refine zj_iconst 11 (3) rfl rfl (by decide) ?_
    refine zj_iload 12 rfl rfl rfl ?_
    refine zn_imul 13 (3) (k) rfl rfl rfl rfl ?_
    refine zn_iadd 14 (599) (3 * k) rfl rfl rfl rfl ?_
    refine zj_istore 15 rfl rfl ?_
    refine zj_iload_n 16 rfl rfl rfl ?_
    refine zj_aload_n 17 rfl rfl rfl ?_
    refine zj_get 18 rfl rfl mw_0 rfl ?_
    refine zj_iload 19 rfl rfl rfl ?_
    refine zj_iconst 20 (1) rfl rfl (by decide) ?_
    refine zn_iadd 21 ((599) + (3 * k)) (1) rfl rfl rfl rfl ?_
    refine zn_iald 22 (((599) + (3 * k)) + (1)) rfl rfl mw_1 rfl (by omega) (by decide) ?_
    refine zj_iload_n 23 rfl rfl rfl ?_
    refine zj_icmp_ne 24 rfl rfl (fun c39 => ?_) (fun c39 => ?_)
    · refine zj_iconst 40 (0) rfl rfl (by decide) ?_
      refine zj_ior 41 rfl rfl ?_
      refine zj_istore_n 42 rfl rfl ?_
      refine zn_iinc 43 (k) rfl rfl rfl rfl ?_
      refine zj_goto 44 rfl rfl ?_
      have e : pSBm (M.1 0) (k + 1) o night = pSBm (M.1 0) k o night ||| (if rHo (M.1 0) k = o ∧ rHn (M.1 0) k ≤ night then 1 <<< (rHs (M.1 0) k &&& 31) else 0) := rfl
      have hh := ih (m - 1) (by omega) (k + 1) (some (.int (nI (599 + 3 * k)))) (by omega) n
      rw [e] at hh
      first
        | (rw [if_pos ⟨c39, Int32.not_lt.mp c52⟩] at hh; exact hh)
        | (rw [if_neg (fun g => c39 g.1)] at hh; exact hh)
        | (rw [if_neg (fun g => absurd g.2 (Int32.not_le.mpr c52))] at hh; exact hh)
        | (rw [if_neg (fun g => absurd g.2 (by simpa using c52))] at hh; exact hh)
    · refine zj_aload_n 25 rfl rfl rfl ?_
      refine zj_get 26 rfl rfl mw_0 rfl ?_
      refine zj_iload 27 rfl rfl rfl ?_
      refine zj_iconst 28 (2) rfl rfl (by decide) ?_
      refine zn_iadd 29 ((599) + (3 * k)) (2) rfl rfl rfl rfl ?_
      refine zn_iald 30 (((599) + (3 * k)) + (2)) rfl rfl mw_1 rfl (by omega) (by decide) ?_
      refine zj_iload_n 31 rfl rfl rfl ?_
      refine zj_icmp_gt 32 rfl rfl (fun c52 => ?_) (fun c52 => ?_)
      · refine zj_iconst 40 (0) rfl rfl (by decide) ?_
        refine zj_ior 41 rfl rfl ?_
        refine zj_istore_n 42 rfl rfl ?_
        refine zn_iinc 43 (k) rfl rfl rfl rfl ?_
        refine zj_goto 44 rfl rfl ?_
        have e : pSBm (M.1 0) (k + 1) o night = pSBm (M.1 0) k o night ||| (if rHo (M.1 0) k = o ∧ rHn (M.1 0) k ≤ night then 1 <<< (rHs (M.1 0) k &&& 31) else 0) := rfl
        have hh := ih (m - 1) (by omega) (k + 1) (some (.int (nI (599 + 3 * k)))) (by omega) n
        rw [e] at hh
        first
          | (rw [if_pos ⟨c39, Int32.not_lt.mp c52⟩] at hh; exact hh)
          | (rw [if_neg (fun g => c39 g.1)] at hh; exact hh)
          | (rw [if_neg (fun g => absurd g.2 (Int32.not_le.mpr c52))] at hh; exact hh)
          | (rw [if_neg (fun g => absurd g.2 (by simpa using c52))] at hh; exact hh)
      · refine zj_iconst 33 (1) rfl rfl (by decide) ?_
        refine zj_aload_n 34 rfl rfl rfl ?_
        refine zj_get 35 rfl rfl mw_0 rfl ?_
        refine zj_iload 36 rfl rfl rfl ?_
        refine zn_iald 37 ((599) + (3 * k)) rfl rfl mw_1 rfl (by omega) (by decide) ?_
        refine zj_ishl 38 rfl rfl ?_
        refine zj_goto 39 rfl rfl ?_
        refine zj_ior 41 rfl rfl ?_
        refine zj_istore_n 42 rfl rfl ?_
        refine zn_iinc 43 (k) rfl rfl rfl rfl ?_
        refine zj_goto 44 rfl rfl ?_
        have e : pSBm (M.1 0) (k + 1) o night = pSBm (M.1 0) k o night ||| (if rHo (M.1 0) k = o ∧ rHn (M.1 0) k ≤ night then 1 <<< (rHs (M.1 0) k &&& 31) else 0) := rfl
        have hh := ih (m - 1) (by omega) (k + 1) (some (.int (nI (599 + 3 * k)))) (by omega) n
        rw [e] at hh
        first
          | (rw [if_pos ⟨c39, Int32.not_lt.mp c52⟩] at hh; exact hh)
          | (rw [if_neg (fun g => c39 g.1)] at hh; exact hh)
          | (rw [if_neg (fun g => absurd g.2 (Int32.not_le.mpr c52))] at hh; exact hh)
          | (rw [if_neg (fun g => absurd g.2 (by simpa using c52))] at hh; exact hh)
theorem k_sheetsBy (o night : Int32) (nh : Nat) (h : (M.1 0) 598 = nI nh) (hb : nh ≤ 60) : zM E YM_sheetsBy 1 [.ref a, .int o, .int night] (mw σ a M) (some (.int (pSBm (M.1 0) nh o night))) (mw σ a M) := by
  refine zM.of oM_sheetsBy (by decide +kernel) rfl rfl (fun n => ?_)
  refine zj_iconst 0 (0) rfl rfl (by decide) ?_
  refine zj_istore_n 1 rfl rfl ?_
  refine zj_iconst 2 (0) rfl rfl (by decide) ?_
  refine zj_istore 3 rfl rfl ?_
  exact l_sheetsBy o night nh h hb nh 0 _ (by omega) n
theorem l_shownBy (o night : Int32) (x : Int32) (ns : Nat) (h : (M.1 0) 549 = nI ns) (hb : ns ≤ 16) : ∀ (m : Nat) (k : Nat), (k + m = ns) → ∀ n, zB E YM_shownBy 2 n (some (.int (pLS (rSl (M.1 0)) x ns))) (mw σ a M) (mw σ a M) 13 [some (.ref a), some (.int o), some (.int night), some (.int x), some (.int (pLS (rSl (M.1 0)) x k)), some (.int (nI k))] [] := by
  intro m
  induction m using Nat.strongRecOn with
  | ind m ih =>
  intro k hk n
  refine zj_iload 9 rfl rfl rfl ?_
  refine zj_aload_n 10 rfl rfl rfl ?_
  refine zj_get 11 rfl rfl mw_0 rfl ?_
  refine zj_sipush 12 (549) rfl rfl (by decide) ?_
  refine zn_iald 13 (549) rfl rfl mw_1 rfl (by omega) (by decide) ?_
  refine zn_icmp_ge 14 (k) (ns) rfl rfl rfl h (by omega) (by omega) (fun c23 => ?_) (fun c23 => ?_)
  · refine zj_iload 32 rfl rfl rfl ?_
    refine zj_ireturn 33 rfl rfl rfl ?_
    obtain rfl : k = ns := by omega
    exact ⟨rfl, rfl, rfl⟩
  · refine zj_iload 15 rfl rfl rfl ?_
    refine zj_iload_n 16 rfl rfl rfl ?_
    refine zj_iload 17 rfl rfl rfl ?_
    refine zj_ishr 18 rfl rfl ?_
    refine zj_iconst 19 (1) rfl rfl (by decide) ?_
    refine zj_iand 20 rfl rfl ?_
    refine zj_iconst 21 (1) rfl rfl (by decide) ?_
    refine zj_icmp_ne 22 rfl rfl (fun c35 => ?_) (fun c35 => ?_)
    · refine zj_iconst 27 (0) rfl rfl (by decide) ?_
      refine zj_ior 28 rfl rfl ?_
      refine zj_istore 29 rfl rfl ?_
      refine zn_iinc 30 (k) rfl rfl rfl rfl ?_
      refine zj_goto 31 rfl rfl ?_
      have e : pLS (rSl (M.1 0)) x (k + 1) = pLS (rSl (M.1 0)) x k ||| (if zhas x (nI k) then rSl (M.1 0) k else 0) := rfl
      have hh := ih (m - 1) (by omega) (k + 1) (by omega) n
      rw [e] at hh
      first
        | (rw [if_pos ((zhas1_iff _ _).mp c35)] at hh; exact hh)
        | (rw [if_neg (fun g => c35 ((zhas1_iff _ _).mpr g))] at hh; exact hh)
    · refine zj_aload_n 23 rfl rfl rfl ?_
      refine zj_iload 24 rfl rfl rfl ?_
      refine zj_cvx 25 rfl rfl lk_8_207 ckM_linesOf (k_linesOf _ (by omega)) rfl mw_0 rfl rfl rfl ?_
      refine zj_goto 26 rfl rfl ?_
      refine zj_ior 28 rfl rfl ?_
      refine zj_istore 29 rfl rfl ?_
      refine zn_iinc 30 (k) rfl rfl rfl rfl ?_
      refine zj_goto 31 rfl rfl ?_
      have e : pLS (rSl (M.1 0)) x (k + 1) = pLS (rSl (M.1 0)) x k ||| (if zhas x (nI k) then rSl (M.1 0) k else 0) := rfl
      have hh := ih (m - 1) (by omega) (k + 1) (by omega) n
      rw [e] at hh
      first
        | (rw [if_pos ((zhas1_iff _ _).mp c35)] at hh; exact hh)
        | (rw [if_neg (fun g => c35 ((zhas1_iff _ _).mpr g))] at hh; exact hh)
theorem k_shownBy (o night : Int32) (nh ns : Nat) (h : (M.1 0) 598 = nI nh) (hb : nh ≤ 60) (h2 : (M.1 0) 549 = nI ns) (hb2 : ns ≤ 16) : zM E YM_shownBy 2 [.ref a, .int o, .int night] (mw σ a M) (some (.int (pSHm (M.1 0) nh ns o night))) (mw σ a M) := by
  refine zM.of oM_shownBy (by decide +kernel) rfl rfl (fun n => ?_)
  refine zj_aload_n 0 rfl rfl rfl ?_
  refine zj_iload_n 1 rfl rfl rfl ?_
  refine zj_iload_n 2 rfl rfl rfl ?_
  refine zj_cvx 3 rfl rfl lk_8_204 ckM_sheetsBy (k_sheetsBy _ _ nh h hb) rfl mw_0 rfl rfl rfl ?_
  refine zj_istore_n 4 rfl rfl ?_
  refine zj_iconst 5 (0) rfl rfl (by decide) ?_
  refine zj_istore 6 rfl rfl ?_
  refine zj_iconst 7 (0) rfl rfl (by decide) ?_
  refine zj_istore 8 rfl rfl ?_
  exact l_shownBy o night _ ns h2 hb2 ns 0 (by omega) n
theorem k_shownFor (s : Nat) (hs : s < 80) (nh ns : Nat) (h : (M.1 0) 598 = nI nh) (hb : nh ≤ 60) (h2 : (M.1 0) 549 = nI ns) (hb2 : ns ≤ 16) : zM E YM_shownFor 3 [.ref a, .int (nI s)] (mw σ a M) (some (.int (pSHm (M.1 0) nh ns (rSo (M.1 0) s) (rSn (M.1 0) s)))) (mw σ a M) := by
  refine zM.of oM_shownFor (by decide +kernel) rfl rfl (fun n => ?_)
  refine zj_aload_n 0 rfl rfl rfl ?_
  refine zj_aload_n 1 rfl rfl rfl ?_
  refine zj_iload_n 2 rfl rfl rfl ?_
  refine zj_cvx 3 rfl rfl lk_8_216 ckM_observerOf (k_observerOf _ (by omega)) rfl mw_0 rfl rfl rfl ?_
  refine zj_aload_n 4 rfl rfl rfl ?_
  refine zj_iload_n 5 rfl rfl rfl ?_
  refine zj_cvx 6 rfl rfl lk_8_192 ckM_nightOf (k_nightOf _ (by omega)) rfl mw_0 rfl rfl rfl ?_
  refine zj_cvx 7 rfl rfl lk_8_210 ckM_shownBy (k_shownBy _ _ nh ns h hb h2 hb2) rfl mw_0 rfl rfl rfl ?_
  refine zj_ireturn 8 rfl rfl rfl ?_
  exact ⟨rfl, rfl, rfl⟩
theorem k_isNext (o night : Int32) (no ns : Nat) (h : (M.1 0) 532 = nI no) (hb : no ≤ 8) (h2 : (M.1 0) 549 = nI ns) (hb2 : ns ≤ 16) : zM E YM_isNext 3 [.ref a, .int o, .int night] (mw σ a M) (some (.int (zo (zr o no ∧ pLast (rSn (M.1 0)) ns ≤ night.toInt ∧ night.toInt ≤ 999)))) (mw σ a M) := by
  refine zM.of oM_isNext (by decide +kernel) rfl rfl (fun n => ?_)
  refine zj_aload_n 0 rfl rfl rfl ?_
  refine zj_get 1 rfl rfl mw_0 rfl ?_
  refine zj_sipush 2 (549) rfl rfl (by decide) ?_
  refine zn_iald 3 (549) rfl rfl mw_1 rfl (by omega) (by decide) ?_
  refine zj_istore_n 4 rfl rfl ?_
  refine zj_aload_n 5 rfl rfl rfl ?_
  refine zj_iload_n 6 rfl rfl rfl ?_
  refine zj_cvx 7 rfl rfl lk_8_189 ckM_isObserver (k_isObserver _ no h (by omega)) rfl mw_0 rfl rfl rfl ?_
  refine zj_if_eq 8 rfl rfl (fun c14 => ?_) (fun c14 => ?_)
  · refine zj_iconst 26 (0) rfl rfl (by decide) ?_
    refine zj_zreturn 27 rfl rfl rfl rfl ?_
    first
      | exact ⟨zrt (zo_f (fun g => zo_0.mp c14 g.1)), rfl, rfl⟩
      | (refine ⟨zrt ?_, rfl, rfl⟩
         first
           | (refine zo_t ⟨zo_n0.mp c14, ?_⟩
              have g := zo_n0.mp c41
              rw [zl0] at g
              simp only [pLast]
              first
                | (rw [if_neg (by omega)]; rw [zl0] at g; exact g)
                | (rw [if_pos hz]; exact g))
           | (refine zo_f (fun g0 => zo_0.mp c41 ?_)
              have g := g0.2
              rw [zl0]
              simp only [pLast] at g
              first
                | (rw [if_neg (by omega)] at g; rw [zl0]; exact g)
                | (rw [if_pos hz] at g; exact g)))
  · refine zj_iload_n 9 rfl rfl rfl ?_
    refine zj_i2l 10 rfl rfl ?_
    refine zj_iload_n 11 rfl rfl rfl ?_
    rw [h2]
    refine zj_if_le 12 rfl rfl (fun c20 => ?_) (fun c20 => ?_)
    · have hz : ns = 0 := by
        rcases Nat.eq_zero_or_pos ns with e | e
        · exact e
        · exact absurd c20 (nI_nle e (by omega))
      refine zj_lconst 20 (0) rfl rfl (by decide) ?_
      refine zj_ldc2 21 (999) rfl rfl (by decide) ?_
      refine zj_csx 22 rfl rfl lk_8_51 ckM_in (k_in _ _ _) rfl rfl rfl rfl ?_
      refine zj_if_eq 23 rfl rfl (fun c41 => ?_) (fun c41 => ?_)
      · refine zj_iconst 26 (0) rfl rfl (by decide) ?_
        refine zj_zreturn 27 rfl rfl rfl rfl ?_
        first
          | exact ⟨zrt (zo_f (fun g => zo_0.mp c14 g.1)), rfl, rfl⟩
          | (refine ⟨zrt ?_, rfl, rfl⟩
             first
               | (refine zo_t ⟨zo_n0.mp c14, ?_⟩
                  have g := zo_n0.mp c41
                  rw [zl0] at g
                  simp only [pLast]
                  first
                    | (rw [if_neg (by omega)]; rw [zl0] at g; exact g)
                    | (rw [if_pos hz]; exact g))
               | (refine zo_f (fun g0 => zo_0.mp c41 ?_)
                  have g := g0.2
                  rw [zl0]
                  simp only [pLast] at g
                  first
                    | (rw [if_neg (by omega)] at g; rw [zl0]; exact g)
                    | (rw [if_pos hz] at g; exact g)))
      · refine zj_iconst 24 (1) rfl rfl (by decide) ?_
        refine zj_goto 25 rfl rfl ?_
        refine zj_zreturn 27 rfl rfl rfl rfl ?_
        first
          | exact ⟨zrt (zo_f (fun g => zo_0.mp c14 g.1)), rfl, rfl⟩
          | (refine ⟨zrt ?_, rfl, rfl⟩
             first
               | (refine zo_t ⟨zo_n0.mp c14, ?_⟩
                  have g := zo_n0.mp c41
                  rw [zl0] at g
                  simp only [pLast]
                  first
                    | (rw [if_neg (by omega)]; rw [zl0] at g; exact g)
                    | (rw [if_pos hz]; exact g))
               | (refine zo_f (fun g0 => zo_0.mp c41 ?_)
                  have g := g0.2
                  rw [zl0]
                  simp only [pLast] at g
                  first
                    | (rw [if_neg (by omega)] at g; rw [zl0]; exact g)
                    | (rw [if_pos hz] at g; exact g)))
    · refine zj_aload_n 13 rfl rfl rfl ?_
      have hpos : 0 < ns := by
        rcases Nat.eq_zero_or_pos ns with e | e
        · subst e; exact absurd (show (nI 0 : Int32) ≤ 0 by decide) c20
        · exact e
      refine zj_iload_n 14 rfl rfl rfl ?_
      refine zj_iconst 15 (1) rfl rfl (by decide) ?_
      refine zn_isub 16 (ns) (1) rfl rfl rfl rfl (by omega) ?_
      refine zj_cvx 17 rfl rfl lk_8_192 ckM_nightOf (k_nightOf (ns - 1) (by omega)) rfl mw_0 rfl rfl rfl ?_
      refine zj_i2l 18 rfl rfl ?_
      refine zj_goto 19 rfl rfl ?_
      refine zj_ldc2 21 (999) rfl rfl (by decide) ?_
      refine zj_csx 22 rfl rfl lk_8_51 ckM_in (k_in _ _ _) rfl rfl rfl rfl ?_
      refine zj_if_eq 23 rfl rfl (fun c41 => ?_) (fun c41 => ?_)
      · refine zj_iconst 26 (0) rfl rfl (by decide) ?_
        refine zj_zreturn 27 rfl rfl rfl rfl ?_
        first
          | exact ⟨zrt (zo_f (fun g => zo_0.mp c14 g.1)), rfl, rfl⟩
          | (refine ⟨zrt ?_, rfl, rfl⟩
             first
               | (refine zo_t ⟨zo_n0.mp c14, ?_⟩
                  have g := zo_n0.mp c41
                  rw [zl0] at g
                  simp only [pLast]
                  first
                    | (rw [if_neg (by omega)]; rw [zl0] at g; exact g)
                    | (rw [if_pos hz]; exact g))
               | (refine zo_f (fun g0 => zo_0.mp c41 ?_)
                  have g := g0.2
                  rw [zl0]
                  simp only [pLast] at g
                  first
                    | (rw [if_neg (by omega)] at g; rw [zl0]; exact g)
                    | (rw [if_pos hz] at g; exact g)))
      · refine zj_iconst 24 (1) rfl rfl (by decide) ?_
        refine zj_goto 25 rfl rfl ?_
        refine zj_zreturn 27 rfl rfl rfl rfl ?_
        first
          | exact ⟨zrt (zo_f (fun g => zo_0.mp c14 g.1)), rfl, rfl⟩
          | (refine ⟨zrt ?_, rfl, rfl⟩
             first
               | (refine zo_t ⟨zo_n0.mp c14, ?_⟩
                  have g := zo_n0.mp c41
                  rw [zl0] at g
                  simp only [pLast]
                  first
                    | (rw [if_neg (by omega)]; rw [zl0] at g; exact g)
                    | (rw [if_pos hz]; exact g))
               | (refine zo_f (fun g0 => zo_0.mp c41 ?_)
                  have g := g0.2
                  rw [zl0]
                  simp only [pLast] at g
                  first
                    | (rw [if_neg (by omega)] at g; rw [zl0]; exact g)
                    | (rw [if_pos hz] at g; exact g)))
end
