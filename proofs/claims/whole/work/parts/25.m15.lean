/-! the reference's reader: signs and texts -/
def qNum (c : Int32) (cs : List (Int32 × Int64)) : List (Int32 × Int64) := match cs.getLast? with
  | some x => cs.dropLast ++ [(x.1, 10 * x.2 + c.toInt64 - 48)]
  | none => cs
theorem qNum_c (c : Int32) (cs : List (Int32 × Int64)) (x : Int32 × Int64) : qNum c (cs ++ [x]) = cs ++ [(x.1, 10 * x.2 + c.toInt64 - 48)] := by
  simp [qNum]
def qSign (c : Int32) (k : Nat) (S : zS) : Int32 × zS :=
  if 0 < S.2.2.2.2.2.1 ∧ qDig c then
    (if S.2.2.2.2.2.1 = 6 then (nI (10 * S.2.2.2.2.2.2 + 2), S) else (0, (qNum c S.1, S.2.1, S.2.2.1, S.2.2.2.1, S.2.2.2.2.1, S.2.2.2.2.2.1 + 1, S.2.2.2.2.2.2)))
  else if c = 32 then (0, (S.1, S.2.1, S.2.2.1, S.2.2.2.1, S.2.2.2.2.1, 0, S.2.2.2.2.2.2))
  else if S.2.2.2.2.1 = true then qBehind c k (S.1, S.2.1, S.2.2.1, S.2.2.2.1, S.2.2.2.2.1, 0, S.2.2.2.2.2.2)
  else qUnit c k (S.1, S.2.1, S.2.2.1, S.2.2.2.1, S.2.2.2.2.1, 0, S.2.2.2.2.2.2)
theorem mRep_digit {M : zMo} {S : zS} (h : mRep M S) (c : Int32) {cs : List (Int32 × Int64)} {x : Int32 × Int64} (e : S.1 = cs ++ [x]) (hz : 0 < S.2.2.2.2.2.1) : mRep ((M.sB 0 (va_up (M.2.1 0) cs.length (10 * x.2 + c.toInt64 - 48))).sI 4 (nI (S.2.2.2.2.2.1 + 1))) (qNum c S.1, S.2.1, S.2.2.1, S.2.2.2.1, S.2.2.2.2.1, S.2.2.2.2.2.1 + 1, S.2.2.2.2.2.2) := by
  obtain ⟨⟨h1, h2⟩, ⟨h3, h4⟩, ⟨h5, h6⟩, h7, h8, h9⟩ := h
  refine ⟨⟨?_, fun i y hy => ?_⟩, ⟨by simpa [va_up] using h3, h4⟩, ⟨by simpa [va_up] using h5, h6⟩, by simpa [va_up] using h7, by simp [va_up], fun hd => ?_⟩
  · show M.2.2.1 0 = nI (qNum c S.1).length
    rw [h1, e, qNum_c]; simp
  · simp only [e, qNum_c] at hy
    rw [e] at h2
    by_cases hi : i < cs.length
    · rw [List.getElem?_append_left hi] at hy
      have := h2 i y (by rw [List.getElem?_append_left hi]; exact hy)
      simpa [va_up, Nat.ne_of_lt hi] using this
    · rw [List.getElem?_append_right (by omega)] at hy
      have hl := (List.getElem?_eq_some_iff.mp hy).1
      simp only [List.length_cons, List.length_nil] at hl
      have ei : i = cs.length := by omega
      subst ei
      have := h2 cs.length x (by simp)
      simp at hy
      subst hy
      simpa [va_up] using this.1
  · simpa [va_up] using h9 hz
def qInv (S : zS) (k : Nat) : Prop := S.1.length + S.2.1.length ≤ k ∧ S.2.1.countP (fun w => w == 30) = S.2.2.1 ∧ S.2.2.1 ≤ 8 ∧ (∀ w ∈ S.2.1, w = 30 ∨ 1 ≤ pFirm w) ∧ (0 < S.2.2.2.2.2.1 → S.1 ≠ [] ∧ S.2.2.2.2.2.2 < 40) ∧ S.2.2.2.2.2.1 ≤ 6
section
variable {E : zE} {σ : zH} {a : Nat} {M : zMo}
theorem qLD_30 {l : Int32} (hl : 1 ≤ l) : ∀ {ws : List Int32} {cs : List (Int32 × Int64)}, 30 ∈ ws → (qLD l ws cs).1 ≠ []
  | [], _, h => by simp at h
  | w :: ws, cs, h => by
    simp only [qLD]
    split
    · rename_i h1
      have hw : w ≠ 30 := by
        intro e; subst e
        have : l ≤ 0 := h1
        simp only [Int32.le_iff_toInt_le] at this hl
        have h0 : (0 : Int32).toInt = 0 := rfl
        have h2 : (1 : Int32).toInt = 1 := rfl
        omega
      exact qLD_30 hl ((List.mem_cons.mp h).elim (fun e => absurd e.symm hw) id)
    · simp
theorem qInv_ne {S : zS} {k : Nat} (h : qInv S k) (h0 : 0 < S.2.2.1) : (qLDS 1 S).2.1 ≠ [] := by
  refine qLD_30 (by decide) ?_
  have := h.2.1
  have hp : 0 < S.2.1.countP (fun w => w == 30) := by omega
  obtain ⟨w, hw, e⟩ := List.countP_pos_iff.mp hp
  simp at e
  subst e; exact hw
theorem qInv_dg {S : zS} {k : Nat} (h : qInv S k) : qInv (S.1, S.2.1, S.2.2.1, S.2.2.2.1, S.2.2.2.2.1, 0, S.2.2.2.2.2.2) k := ⟨h.1, h.2.1, h.2.2.1, h.2.2.2.1, fun g => absurd g (Nat.lt_irrefl 0), Nat.zero_le _⟩
abbrev qS0 (S : zS) : zS := (S.1, S.2.1, S.2.2.1, S.2.2.2.1, S.2.2.2.2.1, 0, S.2.2.2.2.2.2)
theorem qSign_s {c : Int32} {k : Nat} {S : zS} (h : ¬ (0 < S.2.2.2.2.2.1 ∧ qDig c)) (h1 : c = 32) : qSign c k S = (0, qS0 S) := by
  unfold qSign; rw [if_neg h, if_pos h1]
theorem qSign_b {c : Int32} {k : Nat} {S : zS} (h : ¬ (0 < S.2.2.2.2.2.1 ∧ qDig c)) (h1 : ¬ c = 32) (h2 : S.2.2.2.2.1 = true) : qSign c k S = qBehind c k (qS0 S) := by
  unfold qSign; rw [if_neg h, if_neg h1, if_pos h2]
theorem qSign_u {c : Int32} {k : Nat} {S : zS} (h : ¬ (0 < S.2.2.2.2.2.1 ∧ qDig c)) (h1 : ¬ c = 32) (h2 : S.2.2.2.2.1 = false) : qSign c k S = qUnit c k (qS0 S) := by
  unfold qSign; rw [if_neg h, if_neg h1, if_neg (by rw [h2]; decide)]
theorem k_goSign (c : Int32) (k : Nat) (S : zS) (hr : mRep M S) (hi : qInv S k) (hk : k < 40) : zX E YM_goSign 5 [.ref a, .int c, .int (nI k)] (mw σ a M) (some (.int (qSign c k S).1)) (mP σ a M (qSign c k S).2) := by
  have hdz : M.2.2.1 4 ≤ 0 → ¬ 0 < S.2.2.2.2.2.1 := fun g g0 => absurd g (by rw [hr.2.2.2.2.1]; exact nI_nle g0 (by have := hi.2.2.2.2.2; omega))
  refine zX.of oM_goSign (by decide +kernel) rfl rfl (fun n => ?_)
  refine zj_aload_n 0 rfl rfl rfl ?_
  refine zj_get 1 rfl rfl mw_0 rfl ?_
  refine zj_if_le 2 rfl rfl (fun c4 => ?_) (fun c4 => ?_)
  · refine zj_aload_n 49 rfl rfl rfl ?_
    refine zj_iconst 50 (0) rfl rfl (by decide) ?_
    refine zn_put 51 rfl rfl mw_0 rfl rfl rfl rfl mw_p_digits ?_
    refine zj_iload_n 52 rfl rfl rfl ?_
    refine zj_bipush 53 (32) rfl rfl (by decide) ?_
    refine zj_icmp_ne 54 rfl rfl (fun c93 => ?_) (fun c93 => ?_)
    · refine zj_aload_n 57 rfl rfl rfl ?_
      refine zj_get 58 rfl rfl mw_0 rfl ?_
      refine zj_if_eq 59 rfl rfl (fun c102 => ?_) (fun c102 => ?_)
      · refine zj_aload_n 65 rfl rfl rfl ?_
        refine zj_iload_n 66 rfl rfl rfl ?_
        refine zj_iload_n 67 rfl rfl rfl ?_
        refine zj_cvxX 68 rfl rfl lk_8_148 ckM_goUnit (k_goUnit _ _ _ (mRep_dg hr) (by have := hi.1; show S.1.length + S.2.1.length ≤ 39; omega) (by omega) hi.2.2.1) rfl mw_0 rfl rfl rfl (fun s1 hP1 => ?_)
        obtain ⟨M1, rfl, hc1, hr1⟩ := hP1
        refine zj_ireturn 69 rfl rfl rfl ?_
        have e0 : ¬ (0 < S.2.2.2.2.2.1 ∧ qDig c) := fun g => hdz c4 g.1
        rw [qSign_u e0 c93 (zob_0.mp (hr.2.2.2.1.symm.trans c102))]
        exact ⟨rfl, rfl, M1, rfl, (mCore_sI M 4 _).trans hc1, hr1⟩
      · refine zj_aload_n 60 rfl rfl rfl ?_
        refine zj_iload_n 61 rfl rfl rfl ?_
        refine zj_iload_n 62 rfl rfl rfl ?_
        refine zj_cvxX 63 rfl rfl lk_8_145 ckM_goBehind (k_goBehind _ _ _ (mRep_dg hr) (by have := hi.1; show S.1.length + S.2.1.length ≤ 39; omega) (by omega) hi.2.2.1 (fun g => qInv_ne (qInv_dg hi) g)) rfl mw_0 rfl rfl rfl (fun s1 hP1 => ?_)
        obtain ⟨M1, rfl, hc1, hr1⟩ := hP1
        refine zj_goto 64 rfl rfl ?_
        refine zj_ireturn 69 rfl rfl rfl ?_
        have e0 : ¬ (0 < S.2.2.2.2.2.1 ∧ qDig c) := fun g => hdz c4 g.1
        rw [qSign_b e0 c93 (zob_n.mp (fun g => c102 (hr.2.2.2.1.trans g)))]
        exact ⟨rfl, rfl, M1, rfl, (mCore_sI M 4 _).trans hc1, hr1⟩
    · refine zj_iconst 55 (0) rfl rfl (by decide) ?_
      refine zj_ireturn 56 rfl rfl rfl ?_
      have e0 : ¬ (0 < S.2.2.2.2.2.1 ∧ qDig c) := fun g => hdz c4 g.1
      rw [qSign_s e0 c93]
      exact ⟨rfl, rfl, _, rfl, mCore_sI M 4 _, mRep_dg hr⟩
  · refine zj_iload_n 3 rfl rfl rfl ?_
    refine zj_i2l 4 rfl rfl ?_
    refine zj_ldc2 5 (48) rfl rfl (by decide) ?_
    refine zj_ldc2 6 (57) rfl rfl (by decide) ?_
    refine zj_csx 7 rfl rfl lk_8_51 ckM_in (k_inD _) rfl rfl rfl rfl ?_
    refine zj_if_eq 8 rfl rfl (fun c18 => ?_) (fun c18 => ?_)
    · refine zj_aload_n 49 rfl rfl rfl ?_
      refine zj_iconst 50 (0) rfl rfl (by decide) ?_
      refine zn_put 51 rfl rfl mw_0 rfl rfl rfl rfl mw_p_digits ?_
      refine zj_iload_n 52 rfl rfl rfl ?_
      refine zj_bipush 53 (32) rfl rfl (by decide) ?_
      refine zj_icmp_ne 54 rfl rfl (fun c93 => ?_) (fun c93 => ?_)
      · refine zj_aload_n 57 rfl rfl rfl ?_
        refine zj_get 58 rfl rfl mw_0 rfl ?_
        refine zj_if_eq 59 rfl rfl (fun c102 => ?_) (fun c102 => ?_)
        · refine zj_aload_n 65 rfl rfl rfl ?_
          refine zj_iload_n 66 rfl rfl rfl ?_
          refine zj_iload_n 67 rfl rfl rfl ?_
          refine zj_cvxX 68 rfl rfl lk_8_148 ckM_goUnit (k_goUnit _ _ _ (mRep_dg hr) (by have := hi.1; show S.1.length + S.2.1.length ≤ 39; omega) (by omega) hi.2.2.1) rfl mw_0 rfl rfl rfl (fun s1 hP1 => ?_)
          obtain ⟨M1, rfl, hc1, hr1⟩ := hP1
          refine zj_ireturn 69 rfl rfl rfl ?_
          have e0 : ¬ (0 < S.2.2.2.2.2.1 ∧ qDig c) := fun g => zo_0.mp c18 g.2
          rw [qSign_u e0 c93 (zob_0.mp (hr.2.2.2.1.symm.trans c102))]
          exact ⟨rfl, rfl, M1, rfl, (mCore_sI M 4 _).trans hc1, hr1⟩
        · refine zj_aload_n 60 rfl rfl rfl ?_
          refine zj_iload_n 61 rfl rfl rfl ?_
          refine zj_iload_n 62 rfl rfl rfl ?_
          refine zj_cvxX 63 rfl rfl lk_8_145 ckM_goBehind (k_goBehind _ _ _ (mRep_dg hr) (by have := hi.1; show S.1.length + S.2.1.length ≤ 39; omega) (by omega) hi.2.2.1 (fun g => qInv_ne (qInv_dg hi) g)) rfl mw_0 rfl rfl rfl (fun s1 hP1 => ?_)
          obtain ⟨M1, rfl, hc1, hr1⟩ := hP1
          refine zj_goto 64 rfl rfl ?_
          refine zj_ireturn 69 rfl rfl rfl ?_
          have e0 : ¬ (0 < S.2.2.2.2.2.1 ∧ qDig c) := fun g => zo_0.mp c18 g.2
          rw [qSign_b e0 c93 (zob_n.mp (fun g => c102 (hr.2.2.2.1.trans g)))]
          exact ⟨rfl, rfl, M1, rfl, (mCore_sI M 4 _).trans hc1, hr1⟩
      · refine zj_iconst 55 (0) rfl rfl (by decide) ?_
        refine zj_ireturn 56 rfl rfl rfl ?_
        have e0 : ¬ (0 < S.2.2.2.2.2.1 ∧ qDig c) := fun g => zo_0.mp c18 g.2
        rw [qSign_s e0 c93]
        exact ⟨rfl, rfl, _, rfl, mCore_sI M 4 _, mRep_dg hr⟩
    · have hpos : 0 < S.2.2.2.2.2.1 := by
        rcases Nat.eq_zero_or_pos S.2.2.2.2.2.1 with e | e
        · exact absurd (show M.2.2.1 4 ≤ 0 by rw [hr.2.2.2.2.1, e]; decide) c4
        · exact e
      have hd6 := hi.2.2.2.2.2
      have hna := (hi.2.2.2.2.1 hpos).2
      obtain ⟨cs, x, hcs⟩ : ∃ cs x, S.1 = cs ++ [x] := by
        rcases List.eq_nil_or_concat S.1 with e | ⟨l, y, e⟩
        · exact absurd e (hi.2.2.2.2.1 hpos).1
        · exact ⟨l, y, by rw [e, List.concat_eq_append]⟩
      have hlen : S.1.length = cs.length + 1 := by rw [hcs]; simp
      have hcm : M.2.2.1 0 = nI (cs.length + 1) := by rw [hr.1.1, hlen]
      have hlt := hi.1
      have hx2 : M.2.1 0 cs.length = x.2 := (hr.1.2 cs.length x (by rw [hcs]; simp)).2
      refine zj_aload_n 9 rfl rfl rfl ?_
      refine zj_get 10 rfl rfl mw_0 rfl ?_
      refine zj_bipush 11 (6) rfl rfl (by decide) ?_
      refine zn_icmp_ne 12 (S.2.2.2.2.2.1) (6) rfl rfl hr.2.2.2.2.1 rfl (by omega) (by omega) (fun c27 => ?_) (fun c27 => ?_)
      · refine zj_aload_n 20 rfl rfl rfl ?_
        refine zj_get 21 rfl rfl mw_0 rfl ?_
        refine zj_aload_n 22 rfl rfl rfl ?_
        refine zj_get 23 rfl rfl mw_0 rfl ?_
        refine zj_iconst 24 (1) rfl rfl (by decide) ?_
        refine zn_isub 25 (cs.length + 1) (1) rfl rfl hcm rfl (by omega) ?_
        refine zj_ldc2 26 (10) rfl rfl (by decide) ?_
        refine zj_aload_n 27 rfl rfl rfl ?_
        refine zj_get 28 rfl rfl mw_0 rfl ?_
        refine zj_aload_n 29 rfl rfl rfl ?_
        refine zj_get 30 rfl rfl mw_0 rfl ?_
        refine zj_iconst 31 (1) rfl rfl (by decide) ?_
        refine zn_isub 32 (cs.length + 1) (1) rfl rfl hcm rfl (by omega) ?_
        refine zn_lald 33 ((cs.length + 1) - (1)) rfl rfl mw_6 rfl (by omega) (by decide) ?_
        rw [show cs.length + 1 - 1 = cs.length from rfl, hx2]
        refine zj_lmul 34 rfl rfl ?_
        refine zj_iload_n 35 rfl rfl rfl ?_
        refine zj_i2l 36 rfl rfl ?_
        refine zj_ladd 37 rfl rfl ?_
        refine zj_ldc2 38 (48) rfl rfl (by decide) ?_
        refine zj_lsub 39 rfl rfl ?_
        refine zn_last 40 ((cs.length + 1) - (1)) rfl rfl mw_6 rfl (by omega) (by decide) mw_u6 ?_
        refine zj_aload_n 41 rfl rfl rfl ?_
        refine zj_dup 42 rfl rfl rfl ?_
        refine zj_get 43 rfl rfl mw_0 rfl ?_
        refine zj_iconst 44 (1) rfl rfl (by decide) ?_
        refine zn_iadd 45 (S.2.2.2.2.2.1) (1) rfl rfl hr.2.2.2.2.1 rfl ?_
        refine zn_put 46 rfl rfl mw_0 rfl rfl rfl rfl mw_p_digits ?_
        refine zj_iconst 47 (0) rfl rfl (by decide) ?_
        refine zj_ireturn 48 rfl rfl rfl ?_
        have e : qSign c k S = (0, (qNum c S.1, S.2.1, S.2.2.1, S.2.2.2.1, S.2.2.2.2.1, S.2.2.2.2.2.1 + 1, S.2.2.2.2.2.2)) := by unfold qSign; rw [if_pos ⟨hpos, zo_n0.mp c18⟩, if_neg c27]
        rw [e]
        exact ⟨rfl, rfl, _, rfl, (mCore_sB M 0 _).trans (mCore_sI _ 4 _), mRep_digit hr c hcs hpos⟩
      · refine zj_bipush 13 (10) rfl rfl (by decide) ?_
        refine zj_aload_n 14 rfl rfl rfl ?_
        refine zj_get 15 rfl rfl mw_0 rfl ?_
        refine zn_imul 16 (10) (S.2.2.2.2.2.2) rfl rfl rfl (hr.2.2.2.2.2 hpos) ?_
        refine zj_iconst 17 (2) rfl rfl (by decide) ?_
        refine zn_iadd 18 ((10) * (S.2.2.2.2.2.2)) (2) rfl rfl rfl rfl ?_
        refine zj_ireturn 19 rfl rfl rfl ?_
        have e : qSign c k S = (nI (10 * S.2.2.2.2.2.2 + 2), S) := by unfold qSign; rw [if_pos ⟨hpos, zo_n0.mp c18⟩, if_pos c27]
        rw [e]
        exact ⟨rfl, rfl, M, rfl, mCore.rfl, hr⟩
end
