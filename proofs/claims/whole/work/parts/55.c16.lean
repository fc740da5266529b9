/-! the component: a law's reader, its small methods -/
/-- steps, place, fault, whether it asks what was shown -/
abbrev lS : Type := List Int32 × Nat × Int32 × Bool
def lRep (t : Nat → Int32) (many : Nat) (M : zMo) (S : lS) : Prop := M.1 0 = t ∧ M.2.2.1 0 = nI many ∧ (M.2.2.1 2 = nI S.1.length ∧ (S.1.length ≤ 40 ∧ ∀ i x, S.1[i]? = some x → M.1 1 i = x)) ∧ M.2.2.1 4 = nI S.2.1 ∧ M.2.2.1 1 = S.2.2.1 ∧ M.2.2.1 3 = zob S.2.2.2
def lP (σ : zH) (a : Nat) (t : Nat → Int32) (many : Nat) (S : lS) : zH → Prop := fun s => ∃ M', s = zkt σ a M' ∧ lRep t many M' S
/-- over blanks -/
def pSk (t : Nat → Int32) (many : Nat) : Nat → Nat → Nat
  | 0, pl => pl
  | f + 1, pl => if pl < many ∧ t pl = 32 then pSk t many f (pl + 1) else pl
abbrev lSk (t : Nat → Int32) (many pl : Nat) : Nat := pSk t many (many - pl) pl
abbrev lSg (t : Nat → Int32) (many pl : Nat) : Int32 := if pl < many then t pl else -1
theorem lSk_s {t : Nat → Int32} {many pl : Nat} (h : pl < many) (e : t pl = 32) : lSk t many pl = lSk t many (pl + 1) := by
  unfold lSk
  obtain ⟨f, hf⟩ : ∃ f, many - pl = f + 1 := ⟨many - pl - 1, by omega⟩
  rw [hf, show many - (pl + 1) = f by omega]
  exact if_pos ⟨h, e⟩
theorem lSk_n {t : Nat → Int32} {many pl : Nat} (h : ¬ (pl < many ∧ t pl = 32)) : lSk t many pl = pl := by
  unfold lSk
  match hm : many - pl with
  | 0 => rfl
  | f + 1 => exact if_neg h
theorem lSk_le (t : Nat → Int32) (many pl : Nat) (h : pl ≤ many) : pl ≤ lSk t many pl ∧ lSk t many pl ≤ many := by
  have : ∀ f pl, pl + f = many → pl ≤ pSk t many f pl ∧ pSk t many f pl ≤ many := by
    intro f
    induction f with
    | zero => intro pl h; simp only [pSk]; omega
    | succ f ih =>
      intro pl h
      simp only [pSk]
      split
      · have := ih (pl + 1) (by omega); omega
      · omega
  exact this _ _ (by omega)
def lFault (S : lS) (x k : Int32) : lS := (S.1, S.2.1, if S.2.2.1 = -1 then 10 * x + k else S.2.2.1, S.2.2.2)
def lAdd (S : lS) (x : Int32) : lS := (if S.1.length < 40 then S.1 ++ [x] else S.1, S.2)
theorem lRep_pl {t : Nat → Int32} {many : Nat} {M : zMo} {S : lS} (h : lRep t many M S) (pl : Nat) : lRep t many (M.sI 4 (nI pl)) (S.1, pl, S.2.2) := by
  obtain ⟨h1, h2, h3, h4, h5, h6⟩ := h
  exact ⟨h1, h2, h3, rfl, h5, h6⟩
theorem lRep_ft {t : Nat → Int32} {many : Nat} {M : zMo} {S : lS} (h : lRep t many M S) (f : Int32) : lRep t many (M.sI 1 f) (S.1, S.2.1, f, S.2.2.2) := by
  obtain ⟨h1, h2, h3, h4, h5, h6⟩ := h
  exact ⟨h1, h2, h3, h4, rfl, h6⟩
theorem lRep_as {t : Nat → Int32} {many : Nat} {M : zMo} {S : lS} (h : lRep t many M S) (b : Bool) : lRep t many (M.sI 3 (zob b)) (S.1, S.2.1, S.2.2.1, b) := by
  obtain ⟨h1, h2, h3, h4, h5, h6⟩ := h
  exact ⟨h1, h2, h3, h4, h5, rfl⟩
theorem lRep_add {t : Nat → Int32} {many : Nat} {M : zMo} {S : lS} (h : lRep t many M S) (hl : S.1.length < 40) (x : Int32) : lRep t many ((M.sA 1 (va_up (M.1 1) S.1.length x)).sI 2 (nI (S.1.length + 1))) (S.1 ++ [x], S.2) := by
  obtain ⟨h1, h2, ⟨h3, h3a, h3b⟩, h4, h5, h6⟩ := h
  refine ⟨h1, h2, ⟨?_, by simp; omega, fun i y hy => ?_⟩, h4, h5, h6⟩
  · show nI (S.1.length + 1) = nI (S.1 ++ [x]).length
    simp
  · show va_up (M.1 1) S.1.length x i = y
    unfold va_up
    by_cases e : i = S.1.length
    · subst e
      rw [if_pos rfl]
      rw [List.getElem?_append_right (Nat.le_refl _), Nat.sub_self] at hy
      simpa using hy
    · rw [if_neg e]
      have hlt : i < (S.1 ++ [x]).length := (List.getElem?_eq_some_iff.mp hy).1
      rw [List.length_append, List.length_singleton] at hlt
      rw [List.getElem?_append_left (by omega)] at hy
      exact h3b i y hy
section
variable {E : zE} {σ : zH} {a : Nat} {M : zMo}
theorem l_nextSign (t : Nat → Int32) (many : Nat) (hmany : many ≤ 40)  : ∀ (m : Nat) (M : zMo) (S : lS), (lRep t many M S) → (S.2.1 + m = many) → ∀ n, zXB E YLa_nextSign 1 n (some (.int (lSg t many (lSk t many S.2.1)))) (lP σ a t many (S.1, lSk t many S.2.1, S.2.2)) (zkt σ a M) 0 [some (.ref a)] [] := by
  intro m
  induction m using Nat.strongRecOn with
  | ind m ih =>
  intro M S hr hk n
  refine zj_aload_n 0 rfl rfl rfl ?_
  refine zj_get 1 rfl rfl zkt_0 rfl ?_
  refine zj_aload_n 2 rfl rfl rfl ?_
  refine zj_get 3 rfl rfl zkt_0 rfl ?_
  refine zn_icmp_ge 4 (S.2.1) (many) rfl rfl hr.2.2.2.1 hr.2.1 (by omega) (by omega) (fun c8 => ?_) (fun c8 => ?_)
  · refine zj_aload_n 19 rfl rfl rfl ?_
    refine zj_get 20 rfl rfl zkt_0 rfl ?_
    refine zj_aload_n 21 rfl rfl rfl ?_
    refine zj_get 22 rfl rfl zkt_0 rfl ?_
    refine zn_icmp_ge 23 (S.2.1) (many) rfl rfl hr.2.2.2.1 hr.2.1 (by omega) (by omega) (fun c46 => ?_) (fun c46 => ?_)
    · refine zj_iconst 30 (-1) rfl rfl (by decide) ?_
      refine zj_ireturn 31 rfl rfl rfl ?_
      have e : ¬ (S.2.1 < many ∧ t S.2.1 = 32) := fun g => absurd g.1 (by omega)
      rw [lSk_n e]
      exact ⟨zrt ((if_neg (by omega)).symm), rfl, M, rfl, hr⟩
    · refine zj_aload_n 24 rfl rfl rfl ?_
      refine zj_get 25 rfl rfl zkt_0 rfl ?_
      refine zj_aload_n 26 rfl rfl rfl ?_
      refine zj_get 27 rfl rfl zkt_0 rfl ?_
      refine zn_iald 28 (S.2.1) rfl rfl zkt_1 hr.2.2.2.1 (by omega) (by decide) ?_
      refine zj_goto 29 rfl rfl ?_
      refine zj_ireturn 31 rfl rfl rfl ?_
      have e : ¬ (S.2.1 < many ∧ t S.2.1 = 32) := fun g => absurd g.1 (by omega)
      rw [lSk_n e]
      exact ⟨zrt (by rw [hr.1]; exact (if_pos c46).symm), rfl, M, rfl, hr⟩
  · refine zj_aload_n 5 rfl rfl rfl ?_
    refine zj_get 6 rfl rfl zkt_0 rfl ?_
    refine zj_aload_n 7 rfl rfl rfl ?_
    refine zj_get 8 rfl rfl zkt_0 rfl ?_
    refine zn_iald 9 (S.2.1) rfl rfl zkt_1 hr.2.2.2.1 (by omega) (by decide) ?_
    refine zj_bipush 10 (32) rfl rfl (by decide) ?_
    refine zj_icmp_ne 11 rfl rfl (fun c22 => ?_) (fun c22 => ?_)
    · refine zj_aload_n 19 rfl rfl rfl ?_
      refine zj_get 20 rfl rfl zkt_0 rfl ?_
      refine zj_aload_n 21 rfl rfl rfl ?_
      refine zj_get 22 rfl rfl zkt_0 rfl ?_
      refine zn_icmp_ge 23 (S.2.1) (many) rfl rfl hr.2.2.2.1 hr.2.1 (by omega) (by omega) (fun c46 => ?_) (fun c46 => ?_)
      · refine zj_iconst 30 (-1) rfl rfl (by decide) ?_
        refine zj_ireturn 31 rfl rfl rfl ?_
        have e : ¬ (S.2.1 < many ∧ t S.2.1 = 32) := fun g => absurd g.2 (by rw [← hr.1]; simpa using c22)
        rw [lSk_n e]
        exact ⟨zrt ((if_neg (by omega)).symm), rfl, M, rfl, hr⟩
      · refine zj_aload_n 24 rfl rfl rfl ?_
        refine zj_get 25 rfl rfl zkt_0 rfl ?_
        refine zj_aload_n 26 rfl rfl rfl ?_
        refine zj_get 27 rfl rfl zkt_0 rfl ?_
        refine zn_iald 28 (S.2.1) rfl rfl zkt_1 hr.2.2.2.1 (by omega) (by decide) ?_
        refine zj_goto 29 rfl rfl ?_
        refine zj_ireturn 31 rfl rfl rfl ?_
        have e : ¬ (S.2.1 < many ∧ t S.2.1 = 32) := fun g => absurd g.2 (by rw [← hr.1]; simpa using c22)
        rw [lSk_n e]
        exact ⟨zrt (by rw [hr.1]; exact (if_pos c46).symm), rfl, M, rfl, hr⟩
    · refine zj_aload_n 12 rfl rfl rfl ?_
      refine zj_dup 13 rfl rfl rfl ?_
      refine zj_get 14 rfl rfl zkt_0 rfl ?_
      refine zj_iconst 15 (1) rfl rfl (by decide) ?_
      refine zn_iadd 16 (S.2.1) (1) rfl rfl hr.2.2.2.1 rfl ?_
      refine zn_put 17 rfl rfl zkt_0 rfl rfl rfl rfl zkt_p_place ?_
      refine zj_goto 18 rfl rfl ?_
      have e : t S.2.1 = 32 := by rw [← hr.1]; exact Decidable.of_not_not (by simpa using c22)
      have hh := ih (m - 1) (by omega) _ (S.1, S.2.1 + 1, S.2.2) (lRep_pl hr (S.2.1 + 1)) (by show S.2.1 + 1 + (m - 1) = many; omega) n
      rw [lSk_s c8 e]
      exact hh
theorem k_noteFault (t : Nat → Int32) (many : Nat) (hmany : many ≤ 40) (S : lS) (hr : lRep t many M S) (x k : Int32) : zX E YLa_noteFault 1 [.ref a, .int x, .int k] (zkt σ a M) (none) (lP σ a t many (lFault S x k)) := by
  refine zX.of oLa_noteFault (by decide +kernel) rfl rfl (fun n => ?_)
  refine zj_aload_n 0 rfl rfl rfl ?_
  refine zj_get 1 rfl rfl zkt_0 rfl ?_
  refine zj_iconst 2 (-1) rfl rfl (by decide) ?_
  refine zj_icmp_ne 3 rfl rfl (fun c5 => ?_) (fun c5 => ?_)
  · refine zj_return 11 rfl rfl rfl ?_
    have e : lFault S x k = S := by unfold lFault; rw [if_neg (by rw [← hr.2.2.2.2.1]; simpa using c5)]
    rw [e]
    exact ⟨rfl, rfl, M, rfl, hr⟩
  · refine zj_aload_n 4 rfl rfl rfl ?_
    refine zj_bipush 5 (10) rfl rfl (by decide) ?_
    refine zj_iload_n 6 rfl rfl rfl ?_
    refine zj_imul 7 rfl rfl ?_
    refine zj_iload_n 8 rfl rfl rfl ?_
    refine zj_iadd 9 rfl rfl ?_
    refine zn_put 10 rfl rfl zkt_0 rfl rfl rfl rfl zkt_p_fault ?_
    refine zj_return 11 rfl rfl rfl ?_
    have e : lFault S x k = (S.1, S.2.1, 10 * x + k, S.2.2.2) := by unfold lFault; rw [if_pos (by rw [← hr.2.2.2.2.1]; exact Decidable.of_not_not (by simpa using c5))]
    rw [e]
    exact ⟨rfl, rfl, _, rfl, lRep_ft hr _⟩
theorem k_addStep (t : Nat → Int32) (many : Nat) (hmany : many ≤ 40) (S : lS) (hr : lRep t many M S) (x : Int32) : zX E YLa_addStep 1 [.ref a, .int x] (zkt σ a M) (none) (lP σ a t many (lAdd S x)) := by
  have hl := hr.2.2.1.2.1
  refine zX.of oLa_addStep (by decide +kernel) rfl rfl (fun n => ?_)
  refine zj_aload_n 0 rfl rfl rfl ?_
  refine zj_get 1 rfl rfl zkt_0 rfl ?_
  refine zj_bipush 2 (40) rfl rfl (by decide) ?_
  refine zn_icmp_ge 3 (S.1.length) (40) rfl rfl hr.2.2.1.1 rfl (by omega) (by omega) (fun c6 => ?_) (fun c6 => ?_)
  · refine zj_return 16 rfl rfl rfl ?_
    have e : lAdd S x = S := by unfold lAdd; rw [if_neg (by omega)]
    rw [e]
    exact ⟨rfl, rfl, M, rfl, hr⟩
  · refine zj_aload_n 4 rfl rfl rfl ?_
    refine zj_get 5 rfl rfl zkt_0 rfl ?_
    refine zj_aload_n 6 rfl rfl rfl ?_
    refine zj_get 7 rfl rfl zkt_0 rfl ?_
    refine zj_iload_n 8 rfl rfl rfl ?_
    refine zn_iast 9 (S.1.length) rfl rfl zkt_2 hr.2.2.1.1 (by omega) (by decide) zkt_u2 ?_
    refine zj_aload_n 10 rfl rfl rfl ?_
    refine zj_dup 11 rfl rfl rfl ?_
    refine zj_get 12 rfl rfl zkt_0 rfl ?_
    refine zj_iconst 13 (1) rfl rfl (by decide) ?_
    refine zn_iadd 14 (S.1.length) (1) rfl rfl hr.2.2.1.1 rfl ?_
    refine zn_put 15 rfl rfl zkt_0 rfl rfl rfl rfl zkt_p_stepCount ?_
    refine zj_return 16 rfl rfl rfl ?_
    have e : lAdd S x = (S.1 ++ [x], S.2) := by unfold lAdd; rw [if_pos c6]
    rw [e]
    exact ⟨rfl, rfl, _, rfl, lRep_add hr c6 x⟩
end
