/-! the reference: tells -/
section
variable {lt : Nat → Int64} {j : Nat} {v : Int64} {cs : List (Int32 × Int64)} {st : List Int64}
theorem evC_u1 (h : j < 6) : evC lt ((nI j, v) :: cs) st = evC lt cs (lt j :: st) := by
  simp only [evC]
  rw [if_pos (show nI j < 7 from nI_lt (b := 7) (by omega) (by decide)), if_pos (show nI j < 6 from nI_lt (b := 6) h (by decide)), nI_clamp (by omega)]
theorem evC_u2 (h : j = 6) : evC lt ((nI j, v) :: cs) st = evC lt cs (v :: st) := by
  subst h
  rfl
theorem evC_n (h : 20 ≤ j) (h2 : j ≤ 21) : evC lt ((nI j, v) :: cs) st = (match st with
      | x :: st' => evC lt cs ((if nI j = 21 then -x else if x = 0 then 1 else 0) :: st')
      | [] => none) := by
  simp only [evC]
  rw [if_neg (show ¬ nI j < 7 from nI_nlt (b := 7) (by omega) (by omega)), if_pos (show (20 : Int32) ≤ nI j from nI_le (a := 20) h (by omega))]
  cases st <;> rfl
theorem evC_b (h : 7 ≤ j) (h2 : j < 20) : evC lt ((nI j, v) :: cs) st = (match st with
      | y :: x :: st' => evC lt cs (pWk j x y :: st')
      | _ => none) := by
  simp only [evC]
  rw [if_neg (show ¬ nI j < 7 from nI_nlt (b := 7) (by omega) (by omega)), if_neg (show ¬ (20 : Int32) ≤ nI j from nI_ge (a := j) (b := 20) (by omega) (by decide)), nI_clamp (by omega)]
  match st with
  | [] => rfl
  | [_] => rfl
  | _ :: _ :: _ => rfl
theorem mStkB {M : zMo} {f : Nat → Int64} {st : List Int64} (h : mStk (M.sB 2 f) st) (v : Int64) : mStk (M.sB 2 (va_up ((M.sB 2 f).2.1 2) st.length v)) (v :: st) := by
  have := mStk_push h v
  rw [sB_sB] at this
  exact this
theorem zdrop {α : Type} {l : List α} {k : Nat} {x : α} (h : l[k]? = some x) : l.drop k = x :: l.drop (k + 1) := by
  have hk := (List.getElem?_eq_some_iff.mp h)
  obtain ⟨h1, h2⟩ := hk
  rw [List.drop_eq_getElem_cons h1, h2]
end
section
variable {E : zE} {σ : zH} {a : Nat} {M : zMo}
theorem l_tells (cs : List (Int32 × Int64)) (hlen : cs.length ≤ 40) (hcm : M.2.2.1 0 = nI cs.length) (hcs : ∀ i x, cs[i]? = some x → M.1 4 i = x.1 ∧ M.2.1 0 i = x.2) (hq : ∀ x ∈ cs, qCode x.1) (v : Int64) : ∀ (m : Nat) (k : Nat) (st : List Int64) (f : Nat → Int64) (o3 : Option Value), (k + m = cs.length) → (st.length ≤ k) → (mStk (M.sB 2 f) st) → (evC (M.2.1 1) (cs.drop k) st = some [v]) → ∀ n, zXB E YM_tells 2 n (some (.int (zo (v ≠ 0)))) (fun s => ∃ f, s = mw σ a (M.sB 2 f)) (mw σ a (M.sB 2 f)) 4 [some (.ref a), some (.int (nI st.length)), some (.int (nI k)), o3] [] := by
  intro m
  induction m using Nat.strongRecOn with
  | ind m ih =>
  intro k st f o3 hk hsl hs hev n
  refine zj_iload_n 4 rfl rfl rfl ?_
  refine zj_aload_n 5 rfl rfl rfl ?_
  refine zj_get 6 rfl rfl mw_0 rfl ?_
  refine zn_icmp_ge 7 (k) (cs.length) rfl rfl rfl hcm (by omega) (by omega) (fun c9 => ?_) (fun c9 => ?_)
  · refine zj_aload_n 88 rfl rfl rfl ?_
    refine zj_get 89 rfl rfl mw_0 rfl ?_
    refine zj_iconst 90 (0) rfl rfl (by decide) ?_
    refine zn_lald 91 (0) rfl rfl mw_10 rfl (by omega) (by decide) ?_
    refine zj_lconst 92 (0) rfl rfl (by decide) ?_
    refine zj_lcmp 93 rfl rfl ?_
    refine zj_if_eq 94 rfl rfl (fun c154 => ?_) (fun c154 => ?_)
    · refine zj_iconst 97 (0) rfl rfl (by decide) ?_
      refine zj_zreturn 98 rfl rfl rfl rfl ?_
      obtain rfl : k = cs.length := by omega
      rw [List.drop_length] at hev
      obtain rfl : st = [v] := Option.some.inj hev
      have hv : (M.sB 2 f).2.1 2 0 = v := mStk_top hs
      rw [hv] at c154
      exact ⟨zrt (zo_f (fun g => g ((lg_cmp_eq _ _).mp c154))), rfl, f, rfl⟩
    · refine zj_iconst 95 (1) rfl rfl (by decide) ?_
      refine zj_goto 96 rfl rfl ?_
      refine zj_zreturn 98 rfl rfl rfl rfl ?_
      obtain rfl : k = cs.length := by omega
      rw [List.drop_length] at hev
      obtain rfl : st = [v] := Option.some.inj hev
      have hv : (M.sB 2 f).2.1 2 0 = v := mStk_top hs
      rw [hv] at c154
      exact ⟨zrt (zo_t (fun e => c154 ((lg_cmp_eq _ _).mpr e))), rfl, f, rfl⟩
  · obtain ⟨x0, hx0⟩ : ∃ x, cs[k]? = some x := ⟨cs[k]'(by omega), List.getElem?_eq_getElem (by omega)⟩
    obtain ⟨j, hj0, hjr⟩ := hq x0 (List.mem_of_getElem? hx0)
    obtain ⟨c0, y⟩ := x0
    simp only at hj0
    subst hj0
    have hj : M.1 4 k = nI j := (hcs k _ hx0).1
    have hy : M.2.1 0 k = y := (hcs k _ hx0).2
    have hdr := zdrop hx0
    refine zj_aload_n 8 rfl rfl rfl ?_
    refine zj_get 9 rfl rfl mw_0 rfl ?_
    refine zj_iload_n 10 rfl rfl rfl ?_
    refine zn_iald 11 (k) rfl rfl mw_5 rfl (by omega) (by decide) ?_
    refine zj_istore_n 12 rfl rfl ?_
    refine zj_iload_n 13 rfl rfl rfl ?_
    refine zj_bipush 14 (7) rfl rfl (by decide) ?_
    refine zn_icmp_ge 15 (j) (7) rfl rfl hj rfl (by omega) (by omega) (fun c22 => ?_) (fun c22 => ?_)
    · refine zj_iload_n 34 rfl rfl rfl ?_
      refine zj_bipush 35 (20) rfl rfl (by decide) ?_
      refine zn_icmp_lt 36 (j) (20) rfl rfl hj rfl (by omega) (by omega) (fun c61 => ?_) (fun c61 => ?_)
      · obtain ⟨y1, x, st', rfl⟩ : ∃ y1 x st', st = y1 :: x :: st' := by
          rw [hdr, evC_b c22 c61] at hev
          match st, hev with
          | [], hev => cases hev
          | [_], hev => cases hev
          | y1 :: x :: st', _ => exact ⟨y1, x, st', rfl⟩
        have htop : (M.sB 2 f).2.1 2 (st'.length + 1) = y1 := mStk_top hs
        have htop2 : (M.sB 2 f).2.1 2 st'.length = x := mStk_top (mStk_tail hs)
        have hsl' : st'.length + 1 + 1 ≤ k := hsl
        rw [List.length_cons, List.length_cons]
        refine zj_iinc 67 (-1) rfl rfl rfl (by decide) ?_
        rw [pk_m1]
        refine zj_aload_n 68 rfl rfl rfl ?_
        refine zj_get 69 rfl rfl mw_0 rfl ?_
        refine zj_iload_n 70 rfl rfl rfl ?_
        refine zj_iconst 71 (1) rfl rfl (by decide) ?_
        refine zn_isub 72 (st'.length + 1) (1) rfl rfl rfl rfl (by omega) ?_
        refine zj_iload_n 73 rfl rfl rfl ?_
        refine zj_aload_n 74 rfl rfl rfl ?_
        refine zj_get 75 rfl rfl mw_0 rfl ?_
        refine zj_iload_n 76 rfl rfl rfl ?_
        refine zj_iconst 77 (1) rfl rfl (by decide) ?_
        refine zn_isub 78 (st'.length + 1) (1) rfl rfl rfl rfl (by omega) ?_
        refine zn_lald 79 ((st'.length + 1) - (1)) rfl rfl mw_10 rfl (by omega) (by decide) ?_
        refine zj_aload_n 80 rfl rfl rfl ?_
        refine zj_get 81 rfl rfl mw_0 rfl ?_
        refine zj_iload_n 82 rfl rfl rfl ?_
        refine zn_lald 83 (st'.length + 1) rfl rfl mw_10 rfl (by omega) (by decide) ?_
        rw [htop, show st'.length + 1 - 1 = st'.length from rfl, htop2, show (M.sB 2 f).1 4 k = nI j from hj]
        refine zj_csx 84 rfl rfl lk_8_157 ckM_worked (k_worked j (by omega) (by omega) _ _) rfl rfl rfl rfl ?_
        refine zn_last 85 ((st'.length + 1) - (1)) rfl rfl mw_10 rfl (by omega) (by decide) mw_u10 ?_
        refine zn_iinc 86 (k) rfl rfl rfl rfl ?_
        refine zj_goto 87 rfl rfl ?_
        rw [sB_sB]
        have he := hev
        rw [hdr, evC_b c22 c61] at he
        simp only at he
        exact ih (m - 1) (by omega) (k + 1) _ _ _ (by omega) (by simp at hsl ⊢; omega) (mStkB (mStk_tail (mStk_tail hs)) _) he n
      · obtain ⟨x, st', rfl⟩ : ∃ x st', st = x :: st' := by
          cases st with
          | nil => rw [hdr, evC_n c61 (by omega)] at hev; cases hev
          | cons x st' => exact ⟨x, st', rfl⟩
        have htop : (M.sB 2 f).2.1 2 st'.length = x := mStk_top hs
        have hsl' : st'.length + 1 ≤ k := hsl
        rw [List.length_cons]
        refine zj_aload_n 37 rfl rfl rfl ?_
        refine zj_get 38 rfl rfl mw_0 rfl ?_
        refine zj_iload_n 39 rfl rfl rfl ?_
        refine zj_iconst 40 (1) rfl rfl (by decide) ?_
        refine zn_isub 41 (st'.length + 1) (1) rfl rfl rfl rfl (by omega) ?_
        refine zj_iload_n 42 rfl rfl rfl ?_
        refine zj_bipush 43 (21) rfl rfl (by decide) ?_
        refine zn_icmp_ne 44 (j) (21) rfl rfl hj rfl (by omega) (by omega) (fun c74 => ?_) (fun c74 => ?_)
        · refine zj_aload_n 53 rfl rfl rfl ?_
          refine zj_get 54 rfl rfl mw_0 rfl ?_
          refine zj_iload_n 55 rfl rfl rfl ?_
          refine zj_iconst 56 (1) rfl rfl (by decide) ?_
          refine zn_isub 57 (st'.length + 1) (1) rfl rfl rfl rfl (by omega) ?_
          refine zn_lald 58 ((st'.length + 1) - (1)) rfl rfl mw_10 rfl (by omega) (by decide) ?_
          rw [show st'.length + 1 - 1 = st'.length from rfl, htop]
          refine zj_lconst 59 (0) rfl rfl (by decide) ?_
          refine zj_lcmp 60 rfl rfl ?_
          refine zj_if_ne 61 rfl rfl (fun c99 => ?_) (fun c99 => ?_)
          · refine zj_lconst 64 (0) rfl rfl (by decide) ?_
            refine zn_last 65 ((st'.length + 1) - (1)) rfl rfl mw_10 rfl (by omega) (by decide) mw_u10 ?_
            refine zj_goto 66 rfl rfl ?_
            refine zn_iinc 86 (k) rfl rfl rfl rfl ?_
            refine zj_goto 87 rfl rfl ?_
            rw [sB_sB]
            have he := hev
            rw [hdr, evC_n c61 (by omega)] at he
            simp only at he
            rw [if_neg (show ¬ nI j = 21 from fun e => c74 ((nI_eq (by omega) (by decide)).mp (show nI j = nI 21 from e))), if_neg (fun e => c99 ((lg_cmp_eq _ _).mpr e))] at he
            exact ih (m - 1) (by omega) (k + 1) _ _ _ (by omega) (by simp at hsl ⊢; omega) (mStkB (mStk_tail hs) _) he n
          · refine zj_lconst 62 (1) rfl rfl (by decide) ?_
            refine zj_goto 63 rfl rfl ?_
            refine zn_last 65 ((st'.length + 1) - (1)) rfl rfl mw_10 rfl (by omega) (by decide) mw_u10 ?_
            refine zj_goto 66 rfl rfl ?_
            refine zn_iinc 86 (k) rfl rfl rfl rfl ?_
            refine zj_goto 87 rfl rfl ?_
            rw [sB_sB]
            have he := hev
            rw [hdr, evC_n c61 (by omega)] at he
            simp only at he
            rw [if_neg (show ¬ nI j = 21 from fun e => c74 ((nI_eq (by omega) (by decide)).mp (show nI j = nI 21 from e))), if_pos ((lg_cmp_eq _ _).mp (Decidable.of_not_not (by simpa using c99)))] at he
            exact ih (m - 1) (by omega) (k + 1) _ _ _ (by omega) (by simp at hsl ⊢; omega) (mStkB (mStk_tail hs) _) he n
        · refine zj_aload_n 45 rfl rfl rfl ?_
          refine zj_get 46 rfl rfl mw_0 rfl ?_
          refine zj_iload_n 47 rfl rfl rfl ?_
          refine zj_iconst 48 (1) rfl rfl (by decide) ?_
          refine zn_isub 49 (st'.length + 1) (1) rfl rfl rfl rfl (by omega) ?_
          refine zn_lald 50 ((st'.length + 1) - (1)) rfl rfl mw_10 rfl (by omega) (by decide) ?_
          rw [show st'.length + 1 - 1 = st'.length from rfl, htop]
          refine zj_lneg 51 rfl rfl ?_
          refine zj_goto 52 rfl rfl ?_
          refine zn_last 65 ((st'.length + 1) - (1)) rfl rfl mw_10 rfl (by omega) (by decide) mw_u10 ?_
          refine zj_goto 66 rfl rfl ?_
          refine zn_iinc 86 (k) rfl rfl rfl rfl ?_
          refine zj_goto 87 rfl rfl ?_
          rw [sB_sB]
          have he := hev
          rw [hdr, evC_n c61 (by omega)] at he
          simp only at he
          rw [if_pos (show nI j = 21 by rw [c74]; rfl)] at he
          exact ih (m - 1) (by omega) (k + 1) _ _ _ (by omega) (by simp at hsl ⊢; omega) (mStkB (mStk_tail hs) _) he n
    · refine zj_aload_n 16 rfl rfl rfl ?_
      refine zj_get 17 rfl rfl mw_0 rfl ?_
      refine zj_iload_n 18 rfl rfl rfl ?_
      refine zj_iload_n 19 rfl rfl rfl ?_
      refine zj_bipush 20 (6) rfl rfl (by decide) ?_
      refine zn_icmp_ge 21 (j) (6) rfl rfl hj rfl (by omega) (by omega) (fun c33 => ?_) (fun c33 => ?_)
      · refine zj_aload_n 27 rfl rfl rfl ?_
        refine zj_get 28 rfl rfl mw_0 rfl ?_
        refine zj_iload_n 29 rfl rfl rfl ?_
        refine zn_lald 30 (k) rfl rfl mw_6 rfl (by omega) (by decide) ?_
        rw [show (M.sB 2 f).2.1 0 k = y from hy]
        refine zn_last 31 (st.length) rfl rfl mw_10 rfl (by omega) (by decide) mw_u10 ?_
        refine zn_iinc 32 (st.length) rfl rfl rfl rfl ?_
        refine zj_goto 33 rfl rfl ?_
        refine zn_iinc 86 (k) rfl rfl rfl rfl ?_
        refine zj_goto 87 rfl rfl ?_
        rw [sB_sB]
        have he := hev
        rw [hdr, evC_u2 (by omega)] at he
        exact ih (m - 1) (by omega) (k + 1) _ _ _ (by omega) (by simp; omega) (mStkB hs _) he n
      · refine zj_aload_n 22 rfl rfl rfl ?_
        refine zj_get 23 rfl rfl mw_0 rfl ?_
        refine zj_iload_n 24 rfl rfl rfl ?_
        refine zn_lald 25 (j) rfl rfl mw_9 hj (by omega) (by decide) ?_
        refine zj_goto 26 rfl rfl ?_
        refine zn_last 31 (st.length) rfl rfl mw_10 rfl (by omega) (by decide) mw_u10 ?_
        refine zn_iinc 32 (st.length) rfl rfl rfl rfl ?_
        refine zj_goto 33 rfl rfl ?_
        refine zn_iinc 86 (k) rfl rfl rfl rfl ?_
        refine zj_goto 87 rfl rfl ?_
        rw [sB_sB]
        have he := hev
        rw [hdr, evC_u1 c33] at he
        exact ih (m - 1) (by omega) (k + 1) _ _ _ (by omega) (by simp; omega) (mStkB hs _) he n
theorem k_tells (cs : List (Int32 × Int64)) (hlen : cs.length ≤ 40) (hcm : M.2.2.1 0 = nI cs.length) (hcs : ∀ i x, cs[i]? = some x → M.1 4 i = x.1 ∧ M.2.1 0 i = x.2) (hq : ∀ x ∈ cs, qCode x.1) (v : Int64) (hev : evC (M.2.1 1) cs [] = some [v]) : zX E YM_tells 2 [.ref a] (mw σ a M) (some (.int (zo (v ≠ 0)))) (fun s => ∃ f, s = mw σ a (M.sB 2 f)) := by
  refine zX.of oM_tells (by decide +kernel) rfl rfl (fun n => ?_)
  refine zj_iconst 0 (0) rfl rfl (by decide) ?_
  refine zj_istore_n 1 rfl rfl ?_
  refine zj_iconst 2 (0) rfl rfl (by decide) ?_
  refine zj_istore_n 3 rfl rfl ?_
  rw [show mw σ a M = mw σ a (M.sB 2 (M.2.1 2)) by rw [sB_id]]
  exact l_tells cs hlen hcm hcs hq v cs.length 0 [] _ _ (by omega) (by simp) (fun i x h => by simp at h) (by simpa using hev) n
end
