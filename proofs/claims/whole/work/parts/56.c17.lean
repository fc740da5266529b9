/-! the component: a law's reader, digits -/
abbrev lDigit (c : Int32) : Prop := 48 ≤ c ∧ c ≤ 57
/-- over digits: the place behind them, and the number of the first six -/
def pDg (t : Nat → Int32) (many first : Nat) : Nat → Nat → Int32 → Nat × Int32
  | 0, pl, num => (pl, num)
  | f + 1, pl, num => if pl < many ∧ lDigit (t pl) then pDg t many first f (pl + 1) (if pl - first < 6 then 10 * num + t pl - 48 else num) else (pl, num)
abbrev lDg (t : Nat → Int32) (many first pl : Nat) (num : Int32) : Nat × Int32 := pDg t many first (many - pl) pl num
theorem lDg_s {t : Nat → Int32} {many first pl : Nat} {num : Int32} (h : pl < many) (e : lDigit (t pl)) : lDg t many first pl num = lDg t many first (pl + 1) (if pl - first < 6 then 10 * num + t pl - 48 else num) := by
  unfold lDg
  obtain ⟨f, hf⟩ : ∃ f, many - pl = f + 1 := ⟨many - pl - 1, by omega⟩
  rw [hf, show many - (pl + 1) = f by omega]
  exact if_pos ⟨h, e⟩
theorem lDg_n {t : Nat → Int32} {many first pl : Nat} {num : Int32} (h : ¬ (pl < many ∧ lDigit (t pl))) : lDg t many first pl num = (pl, num) := by
  unfold lDg
  match hm : many - pl with
  | 0 => rfl
  | f + 1 => exact if_neg h
theorem lDg_le (t : Nat → Int32) (many first : Nat) : ∀ f pl num, pl + f = many → pl ≤ (pDg t many first f pl num).1 ∧ (pDg t many first f pl num).1 ≤ many := by
  intro f
  induction f with
  | zero => intro pl num h; simp only [pDg]; omega
  | succ f ih =>
    intro pl num h
    simp only [pDg]
    split
    · have := ih (pl + 1) (if pl - first < 6 then 10 * num + t pl - 48 else num) (by omega); omega
    · simp only; omega
def lDigs (t : Nat → Int32) (many : Nat) (S : lS) (first : Nat) (r : Nat × Int32) : lS := lAdd (if 6 < r.1 - first then lFault (S.1, r.1, S.2.2) (nI first) 2 else (S.1, r.1, S.2.2)) r.2
section
variable {E : zE} {σ : zH} {a : Nat} {M : zMo}
theorem k_nextSign (t : Nat → Int32) (many : Nat) (hmany : many ≤ 40) (S : lS) (hr : lRep t many M S) (hp : S.2.1 ≤ many) : zX E YLa_nextSign 1 [.ref a] (zkt σ a M) (some (.int (lSg t many (lSk t many S.2.1)))) (lP σ a t many (S.1, lSk t many S.2.1, S.2.2)) := by
  refine zX.of oLa_nextSign (by decide +kernel) rfl rfl (fun n => ?_)
  exact l_nextSign t many hmany (many - S.2.1) M S hr (by omega) n
theorem l_readDigits (t : Nat → Int32) (many : Nat) (hmany : many ≤ 40) (first : Nat) : ∀ (m : Nat) (M : zMo) (S : lS) (num : Int32), (lRep t many M S) → (S.2.1 + m = many) → (first ≤ S.2.1) → ∀ n, zXB E YLa_readDigits 2 n (none) (lP σ a t many (lDigs t many S first (lDg t many first S.2.1 num))) (zkt σ a M) 7 [some (.ref a), some (.int (nI first)), some (.int num)] [] := by
  intro m
  induction m using Nat.strongRecOn with
  | ind m ih =>
  intro M S num hr hk hf n
  refine zj_aload_n 5 rfl rfl rfl ?_
  refine zj_get 6 rfl rfl zkt_0 rfl ?_
  refine zj_aload_n 7 rfl rfl rfl ?_
  refine zj_get 8 rfl rfl zkt_0 rfl ?_
  refine zn_icmp_ge 9 (S.2.1) (many) rfl rfl hr.2.2.2.1 hr.2.1 (by omega) (by omega) (fun c15 => ?_) (fun c15 => ?_)
  · refine zj_aload_n 42 rfl rfl rfl ?_
    refine zj_get 43 rfl rfl zkt_0 rfl ?_
    refine zj_iload_n 44 rfl rfl rfl ?_
    refine zn_isub 45 (S.2.1) (first) rfl rfl hr.2.2.2.1 rfl (by omega) ?_
    refine zj_bipush 46 (6) rfl rfl (by decide) ?_
    refine zn_icmp_le 47 ((S.2.1) - (first)) (6) rfl rfl rfl rfl (by omega) (by omega) (fun c83 => ?_) (fun c83 => ?_)
    · refine zj_aload_n 52 rfl rfl rfl ?_
      refine zj_iload_n 53 rfl rfl rfl ?_
      refine zj_cvvX 54 rfl rfl lk_3_74 ckLa_addStep (k_addStep t many hmany S hr num) rfl zkt_0 rfl rfl rfl (fun s1 hP1 => ?_)
      obtain ⟨M2, rfl, hr2⟩ := hP1
      refine zj_return 55 rfl rfl rfl ?_
      have e : ¬ (S.2.1 < many ∧ lDigit (t S.2.1)) := fun g => absurd g.1 (by omega)
      rw [lDg_n e]
      have e2 : lDigs t many S first (S.2.1, num) = lAdd S num := by unfold lDigs; rw [if_neg (by omega)]
      rw [e2]
      exact ⟨rfl, rfl, M2, rfl, hr2⟩
    · refine zj_aload_n 48 rfl rfl rfl ?_
      refine zj_iload_n 49 rfl rfl rfl ?_
      refine zj_iconst 50 (2) rfl rfl (by decide) ?_
      refine zj_cvvX 51 rfl rfl lk_3_58 ckLa_noteFault (k_noteFault t many hmany S hr (nI first) 2) rfl zkt_0 rfl rfl rfl (fun s1 hP1 => ?_)
      obtain ⟨M1, rfl, hr1⟩ := hP1
      refine zj_aload_n 52 rfl rfl rfl ?_
      refine zj_iload_n 53 rfl rfl rfl ?_
      refine zj_cvvX 54 rfl rfl lk_3_74 ckLa_addStep (k_addStep t many hmany (lFault S (nI first) 2) hr1 num) rfl zkt_0 rfl rfl rfl (fun s1 hP1 => ?_)
      obtain ⟨M2, rfl, hr2⟩ := hP1
      refine zj_return 55 rfl rfl rfl ?_
      have e : ¬ (S.2.1 < many ∧ lDigit (t S.2.1)) := fun g => absurd g.1 (by omega)
      rw [lDg_n e]
      have e2 : lDigs t many S first (S.2.1, num) = lAdd (lFault S (nI first) 2) num := by unfold lDigs; rw [if_pos c83]
      rw [e2]
      exact ⟨rfl, rfl, M2, rfl, hr2⟩
  · refine zj_aload_n 10 rfl rfl rfl ?_
    refine zj_get 11 rfl rfl zkt_0 rfl ?_
    refine zj_aload_n 12 rfl rfl rfl ?_
    refine zj_get 13 rfl rfl zkt_0 rfl ?_
    refine zn_iald 14 (S.2.1) rfl rfl zkt_1 hr.2.2.2.1 (by omega) (by decide) ?_
    refine zj_csx 15 rfl rfl lk_3_87 ckLa_isDigit (k_isDigit _) rfl rfl rfl rfl ?_
    refine zj_if_eq 16 rfl rfl (fun c30 => ?_) (fun c30 => ?_)
    · refine zj_aload_n 42 rfl rfl rfl ?_
      refine zj_get 43 rfl rfl zkt_0 rfl ?_
      refine zj_iload_n 44 rfl rfl rfl ?_
      refine zn_isub 45 (S.2.1) (first) rfl rfl hr.2.2.2.1 rfl (by omega) ?_
      refine zj_bipush 46 (6) rfl rfl (by decide) ?_
      refine zn_icmp_le 47 ((S.2.1) - (first)) (6) rfl rfl rfl rfl (by omega) (by omega) (fun c83 => ?_) (fun c83 => ?_)
      · refine zj_aload_n 52 rfl rfl rfl ?_
        refine zj_iload_n 53 rfl rfl rfl ?_
        refine zj_cvvX 54 rfl rfl lk_3_74 ckLa_addStep (k_addStep t many hmany S hr num) rfl zkt_0 rfl rfl rfl (fun s1 hP1 => ?_)
        obtain ⟨M2, rfl, hr2⟩ := hP1
        refine zj_return 55 rfl rfl rfl ?_
        have e : ¬ (S.2.1 < many ∧ lDigit (t S.2.1)) := fun g => zo_0.mp c30 (by rw [hr.1]; exact g.2)
        rw [lDg_n e]
        have e2 : lDigs t many S first (S.2.1, num) = lAdd S num := by unfold lDigs; rw [if_neg (by omega)]
        rw [e2]
        exact ⟨rfl, rfl, M2, rfl, hr2⟩
      · refine zj_aload_n 48 rfl rfl rfl ?_
        refine zj_iload_n 49 rfl rfl rfl ?_
        refine zj_iconst 50 (2) rfl rfl (by decide) ?_
        refine zj_cvvX 51 rfl rfl lk_3_58 ckLa_noteFault (k_noteFault t many hmany S hr (nI first) 2) rfl zkt_0 rfl rfl rfl (fun s1 hP1 => ?_)
        obtain ⟨M1, rfl, hr1⟩ := hP1
        refine zj_aload_n 52 rfl rfl rfl ?_
        refine zj_iload_n 53 rfl rfl rfl ?_
        refine zj_cvvX 54 rfl rfl lk_3_74 ckLa_addStep (k_addStep t many hmany (lFault S (nI first) 2) hr1 num) rfl zkt_0 rfl rfl rfl (fun s1 hP1 => ?_)
        obtain ⟨M2, rfl, hr2⟩ := hP1
        refine zj_return 55 rfl rfl rfl ?_
        have e : ¬ (S.2.1 < many ∧ lDigit (t S.2.1)) := fun g => zo_0.mp c30 (by rw [hr.1]; exact g.2)
        rw [lDg_n e]
        have e2 : lDigs t many S first (S.2.1, num) = lAdd (lFault S (nI first) 2) num := by unfold lDigs; rw [if_pos c83]
        rw [e2]
        exact ⟨rfl, rfl, M2, rfl, hr2⟩
    · refine zj_aload_n 17 rfl rfl rfl ?_
      refine zj_get 18 rfl rfl zkt_0 rfl ?_
      refine zj_iload_n 19 rfl rfl rfl ?_
      refine zn_isub 20 (S.2.1) (first) rfl rfl hr.2.2.2.1 rfl (by omega) ?_
      refine zj_bipush 21 (6) rfl rfl (by decide) ?_
      refine zn_icmp_ge 22 ((S.2.1) - (first)) (6) rfl rfl rfl rfl (by omega) (by omega) (fun c41 => ?_) (fun c41 => ?_)
      · refine zj_aload_n 35 rfl rfl rfl ?_
        refine zj_dup 36 rfl rfl rfl ?_
        refine zj_get 37 rfl rfl zkt_0 rfl ?_
        refine zj_iconst 38 (1) rfl rfl (by decide) ?_
        refine zn_iadd 39 (S.2.1) (1) rfl rfl hr.2.2.2.1 rfl ?_
        refine zn_put 40 rfl rfl zkt_0 rfl rfl rfl rfl zkt_p_place ?_
        refine zj_goto 41 rfl rfl ?_
        have e : lDigit (t S.2.1) := by rw [← hr.1]; exact zo_n0.mp c30
        rw [lDg_s c15 e, if_neg (by omega)]
        exact ih (m - 1) (by omega) _ (S.1, S.2.1 + 1, S.2.2) _ (lRep_pl hr (S.2.1 + 1)) (by show S.2.1 + 1 + (m - 1) = many; omega) (by show first ≤ S.2.1 + 1; omega) n
      · refine zj_bipush 23 (10) rfl rfl (by decide) ?_
        refine zj_iload_n 24 rfl rfl rfl ?_
        refine zj_imul 25 rfl rfl ?_
        refine zj_aload_n 26 rfl rfl rfl ?_
        refine zj_get 27 rfl rfl zkt_0 rfl ?_
        refine zj_aload_n 28 rfl rfl rfl ?_
        refine zj_get 29 rfl rfl zkt_0 rfl ?_
        refine zn_iald 30 (S.2.1) rfl rfl zkt_1 hr.2.2.2.1 (by omega) (by decide) ?_
        refine zj_iadd 31 rfl rfl ?_
        refine zj_bipush 32 (48) rfl rfl (by decide) ?_
        refine zj_isub 33 rfl rfl ?_
        refine zj_istore_n 34 rfl rfl ?_
        refine zj_aload_n 35 rfl rfl rfl ?_
        refine zj_dup 36 rfl rfl rfl ?_
        refine zj_get 37 rfl rfl zkt_0 rfl ?_
        refine zj_iconst 38 (1) rfl rfl (by decide) ?_
        refine zn_iadd 39 (S.2.1) (1) rfl rfl hr.2.2.2.1 rfl ?_
        refine zn_put 40 rfl rfl zkt_0 rfl rfl rfl rfl zkt_p_place ?_
        refine zj_goto 41 rfl rfl ?_
        have e : lDigit (t S.2.1) := by rw [← hr.1]; exact zo_n0.mp c30
        rw [lDg_s c15 e, if_pos c41]
        have e3 : M.1 0 = t := hr.1
        rw [← e3]
        rw [← e3] at ih hr
        exact ih (m - 1) (by omega) _ (S.1, S.2.1 + 1, S.2.2) _ (lRep_pl hr (S.2.1 + 1)) (by show S.2.1 + 1 + (m - 1) = many; omega) (by show first ≤ S.2.1 + 1; omega) n
theorem k_readDigits (t : Nat → Int32) (many : Nat) (hmany : many ≤ 40) (S : lS) (hr : lRep t many M S) (hp : S.2.1 ≤ many) : zX E YLa_readDigits 2 [.ref a] (zkt σ a M) (none) (lP σ a t many (lDigs t many S S.2.1 (lDg t many S.2.1 S.2.1 0))) := by
  refine zX.of oLa_readDigits (by decide +kernel) rfl rfl (fun n => ?_)
  refine zj_aload_n 0 rfl rfl rfl ?_
  refine zj_get 1 rfl rfl zkt_0 rfl ?_
  rw [hr.2.2.2.1]
  refine zj_istore_n 2 rfl rfl ?_
  refine zj_iconst 3 (0) rfl rfl (by decide) ?_
  refine zj_istore_n 4 rfl rfl ?_
  exact l_readDigits t many hmany S.2.1 (many - S.2.1) M S 0 hr (by omega) (Nat.le_refl _) n
end
