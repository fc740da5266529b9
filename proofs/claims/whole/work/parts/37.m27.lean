/-! the reference: unlike ways, parts -/
theorem pUn_in {L : List Int32} {d : Int32} {f : Nat → Int32} {j : Nat} (hL : ∀ i x, L[i]? = some x → f i = x) (hj : j < L.length) (e : f j = d) : d ∈ L ∧ (∀ i x, L[i]? = some x → va_up f j d i = x) := by
  refine ⟨List.mem_of_getElem? (i := j) ?_, fun i x hx => ?_⟩
  · rw [List.getElem?_eq_getElem hj, ← e]
    congr 1
    exact (hL j _ (List.getElem?_eq_getElem hj)).symm
  · unfold va_up
    split
    · next h => subst h; rw [← e]; exact hL _ _ hx
    · exact hL _ _ hx
theorem pUn_out {L : List Int32} {d : Int32} {f : Nat → Int32} (hL : ∀ i x, L[i]? = some x → f i = x) (hn : ∀ i, i < L.length → ¬ f i = d) : d ∉ L ∧ (∀ i x, (L ++ [d])[i]? = some x → va_up f L.length d i = x) := by
  refine ⟨fun hm => ?_, fun i x hx => ?_⟩
  · obtain ⟨i, hi⟩ := List.mem_iff_getElem?.mp hm
    exact hn i (List.getElem?_eq_some_iff.mp hi).1 (hL i d hi)
  · unfold va_up
    by_cases h : i = L.length
    · subst h
      rw [if_pos rfl]
      rw [List.getElem?_append_right (Nat.le_refl _), Nat.sub_self] at hx
      simpa using hx
    · rw [if_neg h]
      have hlt : i < (L ++ [d]).length := (List.getElem?_eq_some_iff.mp hx).1
      rw [List.length_append, List.length_singleton] at hlt
      rw [List.getElem?_append_left (by omega)] at hx
      exact hL _ _ hx
/-- the best pair so far -/
def pPl (u : Nat → Int32) (g : Nat) (s : Int32 × Int32) : Nat → Int32 × Int32
  | 0 => s
  | l + 1 => if (pPl u g s l).2 < u l then (nI (10 * g + l), u l) else pPl u g s l
theorem pPl_s (u : Nat → Int32) (g : Nat) (s : Int32 × Int32) (l : Nat) : pPl u g s (l + 1) = if (pPl u g s l).2 < u l then (nI (10 * g + l), u l) else pPl u g s l := rfl
def pPt (u : Nat → Nat → Int32) : Nat → Int32 × Int32
  | 0 => (-1, 0)
  | g + 1 => pPl (u g) g (pPt u g) 4
abbrev mUn (r : Nat → Int32) (ml mk : Nat → Nat) (W : Int32) (g l : Nat) : Int32 := nI (pUn W (fun w => mD r ml mk l w g 0) 4).length
abbrev mPt (r : Nat → Int32) (ml mk : Nat → Nat) (W what : Int32) : Int32 := if W = 0 then -1 else if what = 0 then (pPt (mUn r ml mk W) 4).1 else (pPt (mUn r ml mk W) 4).2
section
variable {E : zE} {σ : zH} {a : Nat} {M : zMo}
theorem l_un_in (ml mk : Nat → Nat) (W : Int32) (g l k : Nat) (Mk : zMo) (L : List Int32) (dd : Int32) (hl4 : L.length ≤ k) (hk4 : k < 4) (hL : ∀ i x, L[i]? = some x → Mk.1 7 i = x) (kk : ∀ n j, j ≤ L.length → (∀ i, i < j → ¬ Mk.1 7 i = dd) → (j < L.length → Mk.1 7 j = dd) → zXB E YM_unlikeWays 9 n (some (.int (mUn (M.1 0) ml mk W g l))) (mQw σ a M) (mw σ a Mk) 63 [some (.ref a), some (.int W), some (.int (nI g)), some (.int (nI l)), some (.int (nI L.length)), some (.int (nI k)), some (.int dd), some (.int (nI j))] []) : ∀ (m : Nat) (j : Nat), (j + m = L.length) → (∀ i, i < j → ¬ Mk.1 7 i = dd) → ∀ n, zXB E YM_unlikeWays 9 n (some (.int (mUn (M.1 0) ml mk W g l))) (mQw σ a M) (mw σ a Mk) 38 [some (.ref a), some (.int W), some (.int (nI g)), some (.int (nI l)), some (.int (nI L.length)), some (.int (nI k)), some (.int dd), some (.int (nI j))] [] := by
  intro m
  induction m using Nat.strongRecOn with
  | ind m ih =>
  intro j hj hn n
  refine zj_iload 25 rfl rfl rfl ?_
  refine zj_iload 26 rfl rfl rfl ?_
  refine zn_icmp_ge 27 (j) (L.length) rfl rfl rfl rfl (by omega) (by omega) (fun c42 => ?_) (fun c42 => ?_)
  · exact kk n j (by omega) hn (fun h => absurd h (by omega))
  · refine zj_aload_n 28 rfl rfl rfl ?_
    refine zj_get 29 rfl rfl mw_0 rfl ?_
    refine zj_iload 30 rfl rfl rfl ?_
    refine zn_iald 31 (j) rfl rfl mw_11 rfl (by omega) (by decide) ?_
    refine zj_iload 32 rfl rfl rfl ?_
    refine zj_icmp_eq 33 rfl rfl (fun c54 => ?_) (fun c54 => ?_)
    · exact kk n j (by omega) hn (fun _ => c54)
    · refine zn_iinc 34 (j) rfl rfl rfl rfl ?_
      refine zj_goto 35 rfl rfl ?_
      refine ih (m - 1) (by omega) (j + 1) (by omega) (fun i hi => ?_) n
      by_cases e : i = j
      · subst e; exact c54
      · exact hn i (by omega)
theorem pUn_s (worlds : Int32) (d : Nat → Int32) (w : Nat) : pUn worlds d (w + 1) = if zhas worlds (nI w) then (if d w ∈ pUn worlds d w then pUn worlds d w else pUn worlds d w ++ [d w]) else pUn worlds d w := rfl
theorem l_un (no ns nh ng : Nat) (ml mk : Nat → Nat) (ok : mOk (M.1 0) no ns nh ng ml mk) (W : Int32) (g l : Nat) (hg : g < 4) (hl : l < 4) : ∀ (m : Nat) (k : Nat) (Mk : zMo) (o6 o7 : Option Value), (k + m = 4) → (mCw M Mk) → (∀ i x, (pUn W (fun w => mD (M.1 0) ml mk l w g 0) k)[i]? = some x → Mk.1 7 i = x) → ∀ n, zXB E YM_unlikeWays 9 n (some (.int (mUn (M.1 0) ml mk W g l))) (mQw σ a M) (mw σ a Mk) 6 [some (.ref a), some (.int W), some (.int (nI g)), some (.int (nI l)), some (.int (nI (pUn W (fun w => mD (M.1 0) ml mk l w g 0) k).length)), some (.int (nI k)), o6, o7] [] := by
  intro m
  induction m using Nat.strongRecOn with
  | ind m ih =>
  intro k Mk o6 o7 hk hc hL n
  have hlen := pUn_len W (fun w => mD (M.1 0) ml mk l w g 0) k
  refine zj_iload 4 rfl rfl rfl ?_
  refine zj_iconst 5 (4) rfl rfl (by decide) ?_
  refine zn_icmp_ge 6 (k) (4) rfl rfl rfl rfl (by omega) (by omega) (fun c9 => ?_) (fun c9 => ?_)
  · refine zj_iload 52 rfl rfl rfl ?_
    refine zj_ireturn 53 rfl rfl rfl ?_
    obtain rfl : k = 4 := by omega
    exact ⟨rfl, rfl, Mk, rfl, hc⟩
  · refine zj_iload_n 7 rfl rfl rfl ?_
    refine zj_iload 8 rfl rfl rfl ?_
    refine zj_ishr 9 rfl rfl ?_
    refine zj_iconst 10 (1) rfl rfl (by decide) ?_
    refine zj_iand 11 rfl rfl ?_
    refine zj_iconst 12 (1) rfl rfl (by decide) ?_
    refine zj_icmp_ne 13 rfl rfl (fun c19 => ?_) (fun c19 => ?_)
    · refine zn_iinc 50 (k) rfl rfl rfl rfl ?_
      refine zj_goto 51 rfl rfl ?_
      have e : (pUn W (fun w => mD (M.1 0) ml mk l w g 0) (k + 1)) = if _ then _ else _ := pUn_s W (fun w => mD (M.1 0) ml mk l w g 0) k
      rw [if_neg (fun z => c19 ((zhas1_iff _ _).mpr z))] at e
      have hh := fun o p => ih (m - 1) (by omega) (k + 1) Mk o p (by omega) hc (by rw [e]; exact hL) n
      rw [e] at hh
      exact hh _ _
    · refine zj_aload_n 14 rfl rfl rfl ?_
      refine zj_iload_n 15 rfl rfl rfl ?_
      refine zj_iload 16 rfl rfl rfl ?_
      refine zj_iconst 17 (0) rfl rfl (by decide) ?_
      refine zj_iload_n 18 rfl rfl rfl ?_
      refine zj_iconst 19 (0) rfl rfl (by decide) ?_
      refine zj_iconst 20 (0) rfl rfl (by decide) ?_
      refine zj_cvxX 21 rfl rfl lk_8_177 ckM_drawnOn (k_drawnOn_r (M.1 0) hc.1 no ns nh ng ml mk ok l k g _ _ _ hl (by omega) hg rfl rfl rfl _) rfl mw_0 rfl rfl rfl (fun s1 hP1 => ?_)
      obtain ⟨M1, rfl, hc0⟩ := hP1
      have hc1 := hc.trans hc0.w
      rw [← hc0.2.2.2.2.2] at hL
      refine zj_istore 22 rfl rfl ?_
      refine zj_iconst 23 (0) rfl rfl (by decide) ?_
      refine zj_istore 24 rfl rfl ?_
      refine l_un_in ml mk W g l k M1 (pUn W (fun w => mD (M.1 0) ml mk l w g 0) k) _ hlen (by omega) hL (fun n j hj hj1 hj2 => ?_) (pUn W (fun w => mD (M.1 0) ml mk l w g 0) k).length 0 (by omega) (fun i hi => by omega) n
      refine zj_aload_n 36 rfl rfl rfl ?_
      refine zj_get 37 rfl rfl mw_0 rfl ?_
      refine zj_iload 38 rfl rfl rfl ?_
      refine zj_iload 39 rfl rfl rfl ?_
      refine zn_iast 40 (j) rfl rfl mw_11 rfl (by omega) (by decide) mw_u11 ?_
      refine zj_iload 41 rfl rfl rfl ?_
      refine zj_iload 42 rfl rfl rfl ?_
      refine zn_icmp_ne 43 (j) ((pUn W (fun w => mD (M.1 0) ml mk l w g 0) k).length) rfl rfl rfl rfl (by omega) (by omega) (fun c76 => ?_) (fun c76 => ?_)
      · refine zj_iload 48 rfl rfl rfl ?_
        refine zj_istore 49 rfl rfl ?_
        refine zn_iinc 50 (k) rfl rfl rfl rfl ?_
        refine zj_goto 51 rfl rfl ?_
        have e : (pUn W (fun w => mD (M.1 0) ml mk l w g 0) (k + 1)) = if _ then _ else _ := pUn_s W (fun w => mD (M.1 0) ml mk l w g 0) k
        rw [if_pos ((zhas1_iff _ _).mp c19)] at e
        obtain ⟨q1, q2⟩ := pUn_in hL (show j < (pUn W (fun w => mD (M.1 0) ml mk l w g 0) k).length by omega) (hj2 (by omega))
        rw [if_pos q1] at e
        have hh := fun o p => ih (m - 1) (by omega) (k + 1) (M1.sA 7 (va_up (M1.1 7) _ _)) o p (by omega) (hc1.trans (mCw_7 _ _)) (by rw [e]; exact q2) n
        rw [e] at hh
        exact hh _ _
      · refine zj_iload 44 rfl rfl rfl ?_
        refine zj_iconst 45 (1) rfl rfl (by decide) ?_
        refine zn_iadd 46 ((pUn W (fun w => mD (M.1 0) ml mk l w g 0) k).length) (1) rfl rfl rfl rfl ?_
        refine zj_goto 47 rfl rfl ?_
        refine zj_istore 49 rfl rfl ?_
        refine zn_iinc 50 (k) rfl rfl rfl rfl ?_
        refine zj_goto 51 rfl rfl ?_
        have e : (pUn W (fun w => mD (M.1 0) ml mk l w g 0) (k + 1)) = if _ then _ else _ := pUn_s W (fun w => mD (M.1 0) ml mk l w g 0) k
        rw [if_pos ((zhas1_iff _ _).mp c19)] at e
        obtain rfl : j = (pUn W (fun w => mD (M.1 0) ml mk l w g 0) k).length := c76
        obtain ⟨q1, q2⟩ := pUn_out hL hj1
        rw [if_neg q1] at e
        have hh := fun o p => ih (m - 1) (by omega) (k + 1) (M1.sA 7 (va_up (M1.1 7) _ _)) o p (by omega) (hc1.trans (mCw_7 _ _)) (by rw [e]; exact q2) n
        rw [e] at hh
        rw [List.length_append, List.length_singleton] at hh
        exact hh _ _
theorem k_unlikeWays (Mk : zMo) (hc : mCw M Mk) (no ns nh ng : Nat) (ml mk : Nat → Nat) (ok : mOk (M.1 0) no ns nh ng ml mk) (W : Int32) (g l : Nat) (hg : g < 4) (hl : l < 4) : zX E YM_unlikeWays 9 [.ref a, .int W, .int (nI g), .int (nI l)] (mw σ a Mk) (some (.int (mUn (M.1 0) ml mk W g l))) (mQw σ a M) := by
  refine zX.of oM_unlikeWays (by decide +kernel) rfl rfl (fun n => ?_)
  refine zj_iconst 0 (0) rfl rfl (by decide) ?_
  refine zj_istore 1 rfl rfl ?_
  refine zj_iconst 2 (0) rfl rfl (by decide) ?_
  refine zj_istore 3 rfl rfl ?_
  exact l_un no ns nh ng ml mk ok W g l hg hl 4 0 Mk _ _ (by omega) hc (fun i x hx => by simp [pUn] at hx) n
theorem l_parts_in (no ns nh ng : Nat) (ml mk : Nat → Nat) (ok : mOk (M.1 0) no ns nh ng ml mk) (sheets what W : Int32) (g : Nat) (hg : g < 4) (kk : ∀ n Mk o8, mCw M Mk → zXB E YM_parts 12 n (some (.int (mPt (M.1 0) ml mk W what))) (mQw σ a M) (mw σ a Mk) 110 [some (.ref a), some (.int sheets), some (.int what), some (.int W), some (.int (pPl ((mUn (M.1 0) ml mk W) g) g (pPt (mUn (M.1 0) ml mk W) g) 4).1), some (.int (pPl ((mUn (M.1 0) ml mk W) g) g (pPt (mUn (M.1 0) ml mk W) g) 4).2), some (.int (nI g)), some (.int (nI 4)), o8] []) : ∀ (m : Nat) (l : Nat) (Mk : zMo) (o8 : Option Value), (l + m = 4) → (mCw M Mk) → ∀ n, zXB E YM_parts 12 n (some (.int (mPt (M.1 0) ml mk W what))) (mQw σ a M) (mw σ a Mk) 49 [some (.ref a), some (.int sheets), some (.int what), some (.int W), some (.int (pPl ((mUn (M.1 0) ml mk W) g) g (pPt (mUn (M.1 0) ml mk W) g) l).1), some (.int (pPl ((mUn (M.1 0) ml mk W) g) g (pPt (mUn (M.1 0) ml mk W) g) l).2), some (.int (nI g)), some (.int (nI l)), o8] [] := by
  intro m
  induction m using Nat.strongRecOn with
  | ind m ih =>
  intro l Mk o8 hk hc n
  refine zj_iload 29 rfl rfl rfl ?_
  refine zj_iconst 30 (4) rfl rfl (by decide) ?_
  refine zn_icmp_ge 31 (l) (4) rfl rfl rfl rfl (by omega) (by omega) (fun c52 => ?_) (fun c52 => ?_)
  · obtain rfl : l = 4 := by omega
    exact kk n Mk _ hc
  · refine zj_aload_n 32 rfl rfl rfl ?_
    refine zj_iload_n 33 rfl rfl rfl ?_
    refine zj_iload 34 rfl rfl rfl ?_
    refine zj_iload 35 rfl rfl rfl ?_
    refine zj_cvxX 36 rfl rfl lk_8_266 ckM_unlikeWays (k_unlikeWays Mk hc no ns nh ng ml mk ok W g l hg (by omega)) rfl mw_0 rfl rfl rfl (fun s1 hP1 => ?_)
    obtain ⟨M1, rfl, hc1⟩ := hP1
    refine zj_istore 37 rfl rfl ?_
    refine zj_iload 38 rfl rfl rfl ?_
    refine zj_iload 39 rfl rfl rfl ?_
    refine zj_icmp_le 40 rfl rfl (fun c70 => ?_) (fun c70 => ?_)
    · refine zj_iload 47 rfl rfl rfl ?_
      refine zj_istore 48 rfl rfl ?_
      refine zj_iload 49 rfl rfl rfl ?_
      refine zj_iload 50 rfl rfl rfl ?_
      refine zj_icmp_le 51 rfl rfl (fun c92 => ?_) (fun c92 => ?_)
      · refine zj_iload 54 rfl rfl rfl ?_
        refine zj_istore 55 rfl rfl ?_
        refine zn_iinc 56 (l) rfl rfl rfl rfl ?_
        refine zj_goto 57 rfl rfl ?_
        have e := pPl_s ((mUn (M.1 0) ml mk W) g) g (pPt (mUn (M.1 0) ml mk W) g) l
        have hh := fun o => ih (m - 1) (by omega) (l + 1) M1 o (by omega) hc1 n
        first
          | exact absurd c92 (Int32.not_le.mpr c70)
          | exact absurd c70 (Int32.not_le.mpr c92)
          | exact absurd c70 c92
          | exact absurd c92 c70
          | (rw [if_pos (Int32.not_le.mp c70)] at e; rw [e] at hh; exact hh _)
          | (rw [if_neg (Int32.not_lt.mpr c70)] at e; rw [e] at hh; exact hh _)
      · refine zj_iload 52 rfl rfl rfl ?_
        refine zj_goto 53 rfl rfl ?_
        refine zj_istore 55 rfl rfl ?_
        refine zn_iinc 56 (l) rfl rfl rfl rfl ?_
        refine zj_goto 57 rfl rfl ?_
        have e := pPl_s ((mUn (M.1 0) ml mk W) g) g (pPt (mUn (M.1 0) ml mk W) g) l
        have hh := fun o => ih (m - 1) (by omega) (l + 1) M1 o (by omega) hc1 n
        first
          | exact absurd c92 (Int32.not_le.mpr c70)
          | exact absurd c70 (Int32.not_le.mpr c92)
          | exact absurd c70 c92
          | exact absurd c92 c70
          | (rw [if_pos (Int32.not_le.mp c70)] at e; rw [e] at hh; exact hh _)
          | (rw [if_neg (Int32.not_lt.mpr c70)] at e; rw [e] at hh; exact hh _)
    · refine zj_bipush 41 (10) rfl rfl (by decide) ?_
      refine zj_iload 42 rfl rfl rfl ?_
      refine zn_imul 43 (10) (g) rfl rfl rfl rfl ?_
      refine zj_iload 44 rfl rfl rfl ?_
      refine zn_iadd 45 (10 * g) (l) rfl rfl rfl rfl ?_
      refine zj_goto 46 rfl rfl ?_
      refine zj_istore 48 rfl rfl ?_
      refine zj_iload 49 rfl rfl rfl ?_
      refine zj_iload 50 rfl rfl rfl ?_
      refine zj_icmp_le 51 rfl rfl (fun c92 => ?_) (fun c92 => ?_)
      · refine zj_iload 54 rfl rfl rfl ?_
        refine zj_istore 55 rfl rfl ?_
        refine zn_iinc 56 (l) rfl rfl rfl rfl ?_
        refine zj_goto 57 rfl rfl ?_
        have e := pPl_s ((mUn (M.1 0) ml mk W) g) g (pPt (mUn (M.1 0) ml mk W) g) l
        have hh := fun o => ih (m - 1) (by omega) (l + 1) M1 o (by omega) hc1 n
        first
          | exact absurd c92 (Int32.not_le.mpr c70)
          | exact absurd c70 (Int32.not_le.mpr c92)
          | exact absurd c70 c92
          | exact absurd c92 c70
          | (rw [if_pos (Int32.not_le.mp c70)] at e; rw [e] at hh; exact hh _)
          | (rw [if_neg (Int32.not_lt.mpr c70)] at e; rw [e] at hh; exact hh _)
      · refine zj_iload 52 rfl rfl rfl ?_
        refine zj_goto 53 rfl rfl ?_
        refine zj_istore 55 rfl rfl ?_
        refine zn_iinc 56 (l) rfl rfl rfl rfl ?_
        refine zj_goto 57 rfl rfl ?_
        have e := pPl_s ((mUn (M.1 0) ml mk W) g) g (pPt (mUn (M.1 0) ml mk W) g) l
        have hh := fun o => ih (m - 1) (by omega) (l + 1) M1 o (by omega) hc1 n
        first
          | exact absurd c92 (Int32.not_le.mpr c70)
          | exact absurd c70 (Int32.not_le.mpr c92)
          | exact absurd c70 c92
          | exact absurd c92 c70
          | (rw [if_pos (Int32.not_le.mp c70)] at e; rw [e] at hh; exact hh _)
          | (rw [if_neg (Int32.not_lt.mpr c70)] at e; rw [e] at hh; exact hh _)
theorem l_parts (no ns nh ng : Nat) (ml mk : Nat → Nat) (ok : mOk (M.1 0) no ns nh ng ml mk) (sheets what W : Int32) : ∀ (m : Nat) (g : Nat) (Mk : zMo) (o7 o8 : Option Value), (g + m = 4) → (mCw M Mk) → ∀ n, zXB E YM_parts 12 n (some (.int (mPt (M.1 0) ml mk W what))) (mQw σ a M) (mw σ a Mk) 36 [some (.ref a), some (.int sheets), some (.int what), some (.int W), some (.int (pPt (mUn (M.1 0) ml mk W) g).1), some (.int (pPt (mUn (M.1 0) ml mk W) g).2), some (.int (nI g)), o7, o8] [] := by
  intro m
  induction m using Nat.strongRecOn with
  | ind m ih =>
  intro g Mk o7 o8 hk hc n
  refine zj_iload 22 rfl rfl rfl ?_
  refine zj_iconst 23 (4) rfl rfl (by decide) ?_
  refine zn_icmp_ge 24 (g) (4) rfl rfl rfl rfl (by omega) (by omega) (fun c39 => ?_) (fun c39 => ?_)
  · refine zj_iload_n 60 rfl rfl rfl ?_
    refine zj_if_ne 61 rfl rfl (fun c117 => ?_) (fun c117 => ?_)
    · refine zj_iload_n 64 rfl rfl rfl ?_
      refine zj_if_ne 65 rfl rfl (fun c125 => ?_) (fun c125 => ?_)
      · refine zj_iload 68 rfl rfl rfl ?_
        refine zj_ireturn 69 rfl rfl rfl ?_
        first
          | exact absurd c43 c117
          | exact absurd c117 c43
          | exact ⟨zrt (by unfold mPt; rw [if_pos c117]), rfl, Mk, rfl, hc⟩
          | (obtain rfl : g = 4 := by omega
             refine ⟨zrt ?_, rfl, Mk, rfl, hc⟩
             unfold mPt
             rw [if_neg c117]
             first | rw [if_pos c125] | rw [if_neg c125])
      · refine zj_iload 66 rfl rfl rfl ?_
        refine zj_goto 67 rfl rfl ?_
        refine zj_ireturn 69 rfl rfl rfl ?_
        first
          | exact absurd c43 c117
          | exact absurd c117 c43
          | exact ⟨zrt (by unfold mPt; rw [if_pos c117]), rfl, Mk, rfl, hc⟩
          | (obtain rfl : g = 4 := by omega
             refine ⟨zrt ?_, rfl, Mk, rfl, hc⟩
             unfold mPt
             rw [if_neg c117]
             first | rw [if_pos c125] | rw [if_neg c125])
    · refine zj_iconst 62 (-1) rfl rfl (by decide) ?_
      refine zj_goto 63 rfl rfl ?_
      refine zj_ireturn 69 rfl rfl rfl ?_
      first
        | exact absurd c43 c117
        | exact absurd c117 c43
        | exact ⟨zrt (by unfold mPt; rw [if_pos c117]), rfl, Mk, rfl, hc⟩
        | (obtain rfl : g = 4 := by omega
           refine ⟨zrt ?_, rfl, Mk, rfl, hc⟩
           unfold mPt
           rw [if_neg c117]
           first | rw [if_pos c125] | rw [if_neg c125])
  · refine zj_iload_n 25 rfl rfl rfl ?_
    refine zj_if_eq 26 rfl rfl (fun c43 => ?_) (fun c43 => ?_)
    · refine zj_iload_n 60 rfl rfl rfl ?_
      refine zj_if_ne 61 rfl rfl (fun c117 => ?_) (fun c117 => ?_)
      · refine zj_iload_n 64 rfl rfl rfl ?_
        refine zj_if_ne 65 rfl rfl (fun c125 => ?_) (fun c125 => ?_)
        · refine zj_iload 68 rfl rfl rfl ?_
          refine zj_ireturn 69 rfl rfl rfl ?_
          first
            | exact absurd c43 c117
            | exact absurd c117 c43
            | exact ⟨zrt (by unfold mPt; rw [if_pos c117]), rfl, Mk, rfl, hc⟩
            | (obtain rfl : g = 4 := by omega
               refine ⟨zrt ?_, rfl, Mk, rfl, hc⟩
               unfold mPt
               rw [if_neg c117]
               first | rw [if_pos c125] | rw [if_neg c125])
        · refine zj_iload 66 rfl rfl rfl ?_
          refine zj_goto 67 rfl rfl ?_
          refine zj_ireturn 69 rfl rfl rfl ?_
          first
            | exact absurd c43 c117
            | exact absurd c117 c43
            | exact ⟨zrt (by unfold mPt; rw [if_pos c117]), rfl, Mk, rfl, hc⟩
            | (obtain rfl : g = 4 := by omega
               refine ⟨zrt ?_, rfl, Mk, rfl, hc⟩
               unfold mPt
               rw [if_neg c117]
               first | rw [if_pos c125] | rw [if_neg c125])
      · refine zj_iconst 62 (-1) rfl rfl (by decide) ?_
        refine zj_goto 63 rfl rfl ?_
        refine zj_ireturn 69 rfl rfl rfl ?_
        first
          | exact absurd c43 c117
          | exact absurd c117 c43
          | exact ⟨zrt (by unfold mPt; rw [if_pos c117]), rfl, Mk, rfl, hc⟩
          | (obtain rfl : g = 4 := by omega
             refine ⟨zrt ?_, rfl, Mk, rfl, hc⟩
             unfold mPt
             rw [if_neg c117]
             first | rw [if_pos c125] | rw [if_neg c125])
    · refine zj_iconst 27 (0) rfl rfl (by decide) ?_
      refine zj_istore 28 rfl rfl ?_
      refine l_parts_in no ns nh ng ml mk ok sheets what W g (by omega) (fun n Mk o8 hc => ?_) 4 0 Mk _ (by omega) hc n
      refine zn_iinc 58 (g) rfl rfl rfl rfl ?_
      refine zj_goto 59 rfl rfl ?_
      exact ih (m - 1) (by omega) (g + 1) Mk _ _ (by omega) hc n
theorem k_Mparts (no ns nh ng : Nat) (ml mk : Nat → Nat) (ok : mOk (M.1 0) no ns nh ng ml mk) (sheets what : Int32) (hv : zr sheets (2 ^ ns : Nat)) (hw : zr what 2) : zX E YM_parts 12 [.ref a, .int sheets, .int what] (mw σ a M) (some (.int (mPt (M.1 0) ml mk (mWd (M.1 0) ns nh ng ml mk sheets) what))) (mQw σ a M) := by
  refine zX.of oM_parts (by decide +kernel) rfl rfl (fun n => ?_)
  refine zj_aload_n 0 rfl rfl rfl ?_
  refine zj_iload_n 1 rfl rfl rfl ?_
  refine zj_cvx 2 rfl rfl lk_8_256 ckM_isSheets (k_isSheets _ ns ok.2.1.1 ok.2.1.2) rfl mw_0 rfl rfl rfl ?_
  refine zj_if_eq 3 rfl rfl (fun c5 => ?_) (fun c5 => ?_)
  · exact absurd hv (zo_0.mp c5)
  · refine zj_iload_n 4 rfl rfl rfl ?_
    refine zj_i2l 5 rfl rfl ?_
    refine zj_lconst 6 (0) rfl rfl (by decide) ?_
    refine zj_lconst 7 (1) rfl rfl (by decide) ?_
    refine zj_csx 8 rfl rfl lk_8_51 ckM_in (k_in0 _ _ 2 (by decide)) rfl rfl rfl rfl ?_
    refine zj_if_ne 9 rfl rfl (fun c15 => ?_) (fun c15 => ?_)
    · refine zj_aload_n 12 rfl rfl rfl ?_
      refine zj_iload_n 13 rfl rfl rfl ?_
      refine zj_cvxX 14 rfl rfl lk_8_262 ckM_worldsBy (k_worldsBy no ns nh ng ml mk ok _) rfl mw_0 rfl rfl rfl (fun s1 hP1 => ?_)
      obtain ⟨M1, rfl, hc1⟩ := hP1
      refine zj_istore_n 15 rfl rfl ?_
      refine zj_iconst 16 (-1) rfl rfl (by decide) ?_
      refine zj_istore 17 rfl rfl ?_
      refine zj_iconst 18 (0) rfl rfl (by decide) ?_
      refine zj_istore 19 rfl rfl ?_
      refine zj_iconst 20 (0) rfl rfl (by decide) ?_
      refine zj_istore 21 rfl rfl ?_
      exact l_parts no ns nh ng ml mk ok sheets what _ 4 0 M1 _ _ (by omega) hc1.w n
    · exact absurd hw (zo_0.mp c15)
end
