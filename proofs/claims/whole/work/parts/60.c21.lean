/-! the component: a law read -/
abbrev lS0 : lS := ([], 0, -1, false)
def lFin (t : Nat → Int32) (many : Nat) (S : lS) : lS := if lSgn t many S = -1 then lAt S (lSk t many S.2.1) else lFault (lAt S (lSk t many S.2.1)) (nI (lSk t many S.2.1)) 1
def lRd (t : Nat → Int32) (many : Nat) : lS := lFin t many (rd t many 81 0 0 lS0)
section
variable {E : zE} {σ : zH} {a : Nat} {M : zMo}
theorem k_rd (t : Nat → Int32) (many : Nat) (hmany : many ≤ 40) : ∀ f,
    (∀ l o M S, l ≤ 5 → o ≤ 8 → f = 9 * (8 - o) + (9 - l) → lRep t many M S → S.2.1 ≤ many → zX E YLa_readLevel (f + 3) [.ref a, .int (nI l), .int (nI o)] (zkt σ a M) none (rP σ a t many (rd t many f l o S))) ∧
    (∀ o M S, o ≤ 8 → f = 9 * (8 - o) + 3 → lRep t many M S → S.2.1 ≤ many → zX E YLa_readUnit (f + 3) [.ref a, .int (nI o)] (zkt σ a M) none (rP σ a t many (rd t many f 6 o S))) ∧
    (∀ o M S, o ≤ 8 → f = 9 * (8 - o) + 2 → lRep t many M S → S.2.1 ≤ many → zX E YLa_readPlainUnit (f + 3) [.ref a, .int (nI o)] (zkt σ a M) none (rP σ a t many (rd t many f 7 o S))) ∧
    (∀ o M S, o ≤ 8 → f = 9 * (8 - o) + 1 → lRep t many M S → S.2.1 < many → zX E YLa_readInside (f + 3) [.ref a, .int (nI o)] (zkt σ a M) none (rP σ a t many (rd t many f 8 o S))) := by
  intro f
  induction f with
  | zero =>
    refine ⟨fun l o M S hl ho hf => ?_, fun o M S ho hf => ?_, fun o M S ho hf => ?_, fun o M S ho hf => ?_⟩ <;> omega
  | succ f ih =>
    obtain ⟨A, B, C, D⟩ := ih
    refine ⟨fun l o M S hl ho hf hr hp => ?_, fun o M S ho hf hr hp => ?_, fun o M S ho hf hr hp => ?_, fun o M S ho hf hr hp => ?_⟩
    · by_cases h5 : l = 5
      · subst h5
        exact k_readLevel5 t many hmany o (f + 3) (by omega) (rd t many f 6 o) S (B o M S ho (by omega) hr hp)
      · have e : rd t many (f + 1) l o S = rdL t many (rd t many f (l + 1) o) l (if l = 2 then 1 else 40) (rd t many f (l + 1) o S) := if_pos (by omega)
        rw [e]
        exact k_readLevel t many hmany l o (f + 3) (by omega) ho (by omega) (rd t many f (l + 1) o) (fun M1 S1 h1 h2 => A (l + 1) o M1 S1 (by omega) ho (by omega) h1 h2) S hr hp
    · exact k_readUnit t many hmany o (f + 3) (by omega) (rd t many f 7 o) (fun M1 S1 h1 h2 => C o M1 S1 ho (by omega) h1 h2) S hr hp
    · exact k_readPlain t many hmany o (f + 3) ho S hr hp (by omega) (rd t many f 8 o) (fun M1 h1 h2 => D o M1 _ ho (by omega) h1 h2)
    · exact k_readInside t many hmany o (f + 3) ho S hr hp (by omega) (rd t many f 0 (o + 1)) (fun h8 => A 0 (o + 1) _ _ (by omega) (by omega) (by omega) (lRep_pl hr _) (by show S.2.1 + 1 ≤ many; omega))
theorem k_Lread (t : Nat → Int32) (many : Nat) (hmany : many ≤ 40) (ht : M.1 0 = t) (hm : M.2.2.1 0 = nI many) : zX E YLa_read 85 [.ref a] (zkt σ a M) (none) (lP σ a t many (lRd t many)) := by
  refine zX.of oLa_read (by decide +kernel) rfl rfl (fun n => ?_)
  refine zj_aload_n 0 rfl rfl rfl ?_
  refine zj_iconst 1 (-1) rfl rfl (by decide) ?_
  refine zn_put 2 rfl rfl zkt_0 rfl rfl rfl rfl zkt_p_fault ?_
  refine zj_aload_n 3 rfl rfl rfl ?_
  refine zj_iconst 4 (0) rfl rfl (by decide) ?_
  refine zn_put 5 rfl rfl zkt_0 rfl rfl rfl rfl zkt_p_stepCount ?_
  refine zj_aload_n 6 rfl rfl rfl ?_
  refine zj_iconst 7 (0) rfl rfl (by decide) ?_
  refine zn_put 8 rfl rfl zkt_0 rfl rfl rfl rfl zkt_p_asksShown ?_
  refine zj_aload_n 9 rfl rfl rfl ?_
  refine zj_iconst 10 (0) rfl rfl (by decide) ?_
  refine zn_put 11 rfl rfl zkt_0 rfl rfl rfl rfl zkt_p_place ?_
  refine zj_aload_n 12 rfl rfl rfl ?_
  refine zj_iconst 13 (0) rfl rfl (by decide) ?_
  refine zj_iconst 14 (0) rfl rfl (by decide) ?_
  refine zj_cvvX 15 rfl rfl lk_3_50 ckLa_readLevel ((k_rd t many hmany 81).1 0 0 ((((M.sI 1 (-1)).sI 2 0).sI 3 0).sI 4 0) lS0 (by decide) (by decide) rfl ⟨ht, hm, ⟨rfl, by simp, fun i x hx => by simp at hx⟩, rfl, rfl, rfl⟩ (Nat.zero_le _)) rfl zkt_0 rfl rfl (zRg_ok (by omega) (by decide)) (fun s1 hP1 => ?_)
  obtain ⟨hlm, M1, rfl, hr1⟩ := hP1
  rw [show lRd t many = lFin t many (rd t many 81 0 0 lS0) from rfl]
  generalize rd t many 81 0 0 lS0 = S1 at hlm hr1 ⊢
  refine zj_aload_n 16 rfl rfl rfl ?_
  refine zj_cvxX 17 rfl rfl lk_3_54 ckLa_nextSign (k_nextSign t many hmany S1 hr1 hlm) rfl zkt_0 rfl rfl (zRg_ok (by omega) (by decide)) (fun s1 hP1 => ?_)
  obtain ⟨M2, rfl, hr2⟩ := hP1
  refine zj_iconst 18 (-1) rfl rfl (by decide) ?_
  refine zj_icmp_eq 19 rfl rfl (fun c31 => ?_) (fun c31 => ?_)
  · refine zj_return 25 rfl rfl rfl ?_
    have e : lFin t many S1 = lAt S1 (lSk t many S1.2.1) := if_pos c31
    rw [e]
    exact ⟨rfl, rfl, M2, rfl, hr2⟩
  · refine zj_aload_n 20 rfl rfl rfl ?_
    refine zj_aload_n 21 rfl rfl rfl ?_
    refine zj_get 22 rfl rfl zkt_0 rfl ?_
    refine zj_iconst 23 (1) rfl rfl (by decide) ?_
    refine zj_cvvX 24 rfl rfl lk_3_58 ckLa_noteFault (k_noteFault t many hmany _ hr2 _ _) rfl zkt_0 rfl rfl (zRg_ok (by omega) (by decide)) (fun s1 hP1 => ?_)
    obtain ⟨M3, rfl, hr3⟩ := hP1
    refine zj_return 25 rfl rfl rfl ?_
    rw [hr2.2.2.2.1] at hr3
    have e : lFin t many S1 = lFault (lAt S1 (lSk t many S1.2.1)) (nI (lSk t many S1.2.1)) 1 := if_neg c31
    rw [e]
    exact ⟨rfl, rfl, M3, rfl, hr3⟩
theorem k_append (t : Nat → Int32) (many : Nat) (hmany : many < 40) (ht : M.1 0 = t) (hm : M.2.2.1 0 = nI many) (c : Int32) : zX E YLa_append 86 [.ref a, .int c] (zkt σ a M) (some (.int (nI (many + 1)))) (lP σ a (va_up t many c) (many + 1) (lRd (va_up t many c) (many + 1))) := by
  refine zX.of oLa_append (by decide +kernel) rfl rfl (fun n => ?_)
  refine zj_aload_n 0 rfl rfl rfl ?_
  refine zj_get 1 rfl rfl zkt_0 rfl ?_
  refine zj_bipush 2 (40) rfl rfl (by decide) ?_
  refine zn_icmp_lt 3 (many) (40) rfl rfl hm rfl (by omega) (by omega) (fun c6 => ?_) (fun c6 => ?_)
  · refine zj_aload_n 6 rfl rfl rfl ?_
    refine zj_get 7 rfl rfl zkt_0 rfl ?_
    refine zj_aload_n 8 rfl rfl rfl ?_
    refine zj_get 9 rfl rfl zkt_0 rfl ?_
    refine zj_iload_n 10 rfl rfl rfl ?_
    refine zn_iast 11 (many) rfl rfl zkt_1 hm (by omega) (by decide) zkt_u1 ?_
    refine zj_aload_n 12 rfl rfl rfl ?_
    refine zj_dup 13 rfl rfl rfl ?_
    refine zj_get 14 rfl rfl zkt_0 rfl ?_
    refine zj_iconst 15 (1) rfl rfl (by decide) ?_
    refine zn_iadd 16 (many) (1) rfl rfl hm rfl ?_
    refine zn_put 17 rfl rfl zkt_0 rfl rfl rfl rfl zkt_p_length ?_
    refine zj_aload_n 18 rfl rfl rfl ?_
    refine zj_cvvX 19 rfl rfl lk_3_25 ckLa_read (k_Lread (M := (M.sA 0 (va_up (M.1 0) many c)).sI 0 (nI (many + 1))) (va_up t many c) (many + 1) (by omega) (by subst ht; rfl) rfl) rfl zkt_0 rfl rfl (zRg_ok (by omega) (by decide)) (fun s1 hP1 => ?_)
    obtain ⟨M1, rfl, hr1⟩ := hP1
    refine zj_aload_n 20 rfl rfl rfl ?_
    refine zj_get 21 rfl rfl zkt_0 rfl ?_
    refine zj_ireturn 22 rfl rfl rfl ?_
    exact ⟨zrt hr1.2.1, rfl, M1, rfl, hr1⟩
  · exact absurd c6 (by omega)
theorem k_append_full (hm : M.2.2.1 0 = nI 40) (c : Int32) : zM E YLa_append 86 [.ref a, .int c] (zkt σ a M) (some (.int (-4))) (zkt σ a M) := by
  refine zM.of oLa_append (by decide +kernel) rfl rfl (fun n => ?_)
  refine zj_aload_n 0 rfl rfl rfl ?_
  refine zj_get 1 rfl rfl zkt_0 rfl ?_
  refine zj_bipush 2 (40) rfl rfl (by decide) ?_
  refine zn_icmp_lt 3 (40) (40) rfl rfl hm rfl (by omega) (by omega) (fun c6 => ?_) (fun c6 => ?_)
  · exact absurd c6 (by decide)
  · refine zj_bipush 4 (-4) rfl rfl (by decide) ?_
    refine zj_ireturn 5 rfl rfl rfl ?_
    exact ⟨rfl, rfl, rfl⟩
theorem k_Lempty (t : Nat → Int32) (many : Nat) (hmany : many ≤ 40) (ht : M.1 0 = t) (hm : M.2.2.1 0 = nI many) : zX E YLa_empty 86 [.ref a] (zkt σ a M) (some (.int (nI many))) (lP σ a t 0 (lRd t 0)) := by
  refine zX.of oLa_empty (by decide +kernel) rfl rfl (fun n => ?_)
  refine zj_aload_n 0 rfl rfl rfl ?_
  refine zj_get 1 rfl rfl zkt_0 rfl ?_
  refine zj_istore_n 2 rfl rfl ?_
  refine zj_aload_n 3 rfl rfl rfl ?_
  refine zj_iconst 4 (0) rfl rfl (by decide) ?_
  refine zn_put 5 rfl rfl zkt_0 rfl rfl rfl rfl zkt_p_length ?_
  refine zj_aload_n 6 rfl rfl rfl ?_
  refine zj_cvvX 7 rfl rfl lk_3_25 ckLa_read (k_Lread (M := M.sI 0 0) t 0 (by omega) ht rfl) rfl zkt_0 rfl rfl (zRg_ok (by omega) (by decide)) (fun s1 hP1 => ?_)
  obtain ⟨M1, rfl, hr1⟩ := hP1
  refine zj_iload_n 8 rfl rfl rfl ?_
  refine zj_ireturn 9 rfl rfl rfl ?_
  exact ⟨zrt hm, rfl, M1, rfl, hr1⟩
end
