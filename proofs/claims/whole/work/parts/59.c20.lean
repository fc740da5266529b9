/-! the component: a law's reader, levels -/
theorem lSg_lt {t : Nat → Int32} {many pl : Nat} (h : ¬ uJoin (lSg t many pl) = 0) : pl < many := by
  by_cases g : pl < many
  · exact g
  · exfalso; unfold lSg at h; rw [if_neg g] at h; exact h (by decide)
section
variable {E : zE} {σ : zH} {a : Nat} {M : zMo}
theorem l_lv (t : Nat → Int32) (many : Nat) (hmany : many ≤ 40) (l o d : Nat) (hl : l < 5) (ho : o ≤ 8) (hd : 3 ≤ d) (g : lS → lS) (hg : ∀ M1 S1, lRep t many M1 S1 → S1.2.1 ≤ many → zX E YLa_readLevel d [.ref a, .int (nI (l + 1)), .int (nI o)] (zkt σ a M1) none (rP σ a t many (g S1))) (most : Nat) (hmo : most ≤ 40) : ∀ (m : Nat) (M : zMo) (S : lS) (i : Nat) (o5 : Option Value), (lRep t many M S) → (S.2.1 ≤ many) → (i + m = most) → ∀ n, zXB E YLa_readLevel (d + 1) n (none) (rP σ a t many (rdL t many g l m S)) (zkt σ a M) 34 [some (.ref a), some (.int (nI l)), some (.int (nI o)), some (.int (nI most)), some (.int (nI i)), o5] [] := by
  intro m
  induction m using Nat.strongRecOn with
  | ind m ih =>
  intro M S i o5 hr hp hk n
  refine zj_iload 22 rfl rfl rfl ?_
  refine zj_iload_n 23 rfl rfl rfl ?_
  refine zn_icmp_ge 24 (i) (most) rfl rfl rfl rfl (by omega) (by omega) (fun c37 => ?_) (fun c37 => ?_)
  · refine zj_return 57 rfl rfl rfl ?_
    obtain rfl : m = 0 := by omega
    exact ⟨rfl, rfl, hp, M, rfl, hr⟩
  · refine zj_aload_n 25 rfl rfl rfl ?_
    refine zj_get 26 rfl rfl zkt_0 rfl ?_
    refine zj_iconst 27 (-1) rfl rfl (by decide) ?_
    refine zj_icmp_ne 28 rfl rfl (fun c45 => ?_) (fun c45 => ?_)
    · refine zj_return 57 rfl rfl rfl ?_
      obtain ⟨m, rfl⟩ : ∃ m', m = m' + 1 := ⟨m - 1, by omega⟩
      have e : rdL t many g l (m + 1) S = S := if_pos (by rw [← hr.2.2.2.2.1]; simpa using c45)
      rw [e]
      exact ⟨rfl, rfl, hp, M, rfl, hr⟩
    · refine zj_aload_n 29 rfl rfl rfl ?_
      refine zj_cvxX 30 rfl rfl lk_3_54 ckLa_nextSign (k_nextSign t many hmany S hr hp) rfl zkt_0 rfl rfl (zRg_ok (by omega) (by decide)) (fun s1 hP1 => ?_)
      obtain ⟨M1, rfl, hr1⟩ := hP1
      have hsk := lSk_le t many S.2.1 hp
      refine zj_csx 31 rfl rfl lk_3_65 ckSp_joiningOf (k_joiningOf _) rfl rfl rfl (zRg_ok (by omega) (by decide)) ?_
      refine zj_istore 32 rfl rfl ?_
      refine zj_iload 33 rfl rfl rfl ?_
      refine zj_if_eq 34 rfl rfl (fun c59 => ?_) (fun c59 => ?_)
      · refine zj_return 39 rfl rfl rfl ?_
        obtain ⟨m, rfl⟩ : ∃ m', m = m' + 1 := ⟨m - 1, by omega⟩
        have e : rdL t many g l (m + 1) S = lAt S (lSk t many S.2.1) := by
          show (if _ then _ else _) = _
          rw [if_neg (fun z => z (by rw [← hr.2.2.2.2.1]; exact Decidable.of_not_not (by simpa using c45))), if_pos (Or.inl c59)]
        rw [e]
        exact ⟨rfl, rfl, hsk.2, M1, rfl, hr1⟩
      · refine zj_iload 35 rfl rfl rfl ?_
        refine zj_csx 36 rfl rfl lk_3_71 ckLa_levelOf (k_levelOf _) rfl rfl rfl (zRg_ok (by omega) (by decide)) ?_
        refine zj_iload_n 37 rfl rfl rfl ?_
        refine zj_icmp_eq 38 rfl rfl (fun c68 => ?_) (fun c68 => ?_)
        · refine zj_aload_n 40 rfl rfl rfl ?_
          refine zj_dup 41 rfl rfl rfl ?_
          refine zj_get 42 rfl rfl zkt_0 rfl ?_
          refine zj_iconst 43 (1) rfl rfl (by decide) ?_
          refine zn_iadd 44 (lSk t many S.2.1) (1) rfl rfl hr1.2.2.2.1 rfl ?_
          refine zn_put 45 rfl rfl zkt_0 rfl rfl rfl rfl zkt_p_place ?_
          refine zj_aload_n 46 rfl rfl rfl ?_
          refine zj_iload_n 47 rfl rfl rfl ?_
          refine zj_iconst 48 (1) rfl rfl (by decide) ?_
          refine zn_iadd 49 (l) (1) rfl rfl rfl rfl ?_
          refine zj_iload_n 50 rfl rfl rfl ?_
          refine zj_cvvX 51 rfl rfl lk_3_50 ckLa_readLevel (hg _ (lAt S (lSk t many S.2.1 + 1)) (lRep_pl hr1 _) (by have := lSg_lt c59; exact this)) rfl zkt_0 rfl rfl (zRg_ok (by omega) (by decide)) (fun s1 hP1 => ?_)
          obtain ⟨hp2, M2, rfl, hr2⟩ := hP1
          refine zj_aload_n 52 rfl rfl rfl ?_
          refine zj_iload 53 rfl rfl rfl ?_
          refine zj_cvvX 54 rfl rfl lk_3_74 ckLa_addStep (k_addStep t many hmany _ hr2 _) rfl zkt_0 rfl rfl (zRg_ok (by omega) (by decide)) (fun s1 hP1 => ?_)
          obtain ⟨M3, rfl, hr3⟩ := hP1
          refine zn_iinc 55 (i) rfl rfl rfl rfl ?_
          refine zj_goto 56 rfl rfl ?_
          obtain ⟨m, rfl⟩ : ∃ m', m = m' + 1 := ⟨m - 1, by omega⟩
          have e : rdL t many g l (m + 1) S = rdL t many g l m (lAdd (g (lAt S (lSk t many S.2.1 + 1))) (uJoin (lSgn t many S))) := by
            show (if _ then _ else _) = _
            rw [if_neg (fun z => z (by rw [← hr.2.2.2.2.1]; exact Decidable.of_not_not (by simpa using c45))), if_neg (fun z => z.elim c59 (fun z => z c68))]
          rw [e]
          exact ih m (by omega) M3 _ (i + 1) _ hr3 hp2 (by omega) n
        · refine zj_return 39 rfl rfl rfl ?_
          obtain ⟨m, rfl⟩ : ∃ m', m = m' + 1 := ⟨m - 1, by omega⟩
          have e : rdL t many g l (m + 1) S = lAt S (lSk t many S.2.1) := by
            show (if _ then _ else _) = _
            rw [if_neg (fun z => z (by rw [← hr.2.2.2.2.1]; exact Decidable.of_not_not (by simpa using c45))), if_pos (Or.inr c68)]
          rw [e]
          exact ⟨rfl, rfl, hsk.2, M1, rfl, hr1⟩
theorem k_readLevel (t : Nat → Int32) (many : Nat) (hmany : many ≤ 40) (l o d : Nat) (hl : l < 5) (ho : o ≤ 8) (hd : 3 ≤ d) (g : lS → lS) (hg : ∀ M1 S1, lRep t many M1 S1 → S1.2.1 ≤ many → zX E YLa_readLevel d [.ref a, .int (nI (l + 1)), .int (nI o)] (zkt σ a M1) none (rP σ a t many (g S1))) (S : lS) (hr : lRep t many M S) (hp : S.2.1 ≤ many) : zX E YLa_readLevel (d + 1) [.ref a, .int (nI l), .int (nI o)] (zkt σ a M) (none) (rP σ a t many (rdL t many g l (if l = 2 then 1 else 40) (g S))) := by
  refine zX.of oLa_readLevel (by decide +kernel) rfl rfl (fun n => ?_)
  refine zj_iload_n 0 rfl rfl rfl ?_
  refine zj_iconst 1 (5) rfl rfl (by decide) ?_
  refine zn_icmp_lt 2 (l) (5) rfl rfl rfl rfl (by omega) (by omega) (fun c2 => ?_) (fun c2 => ?_)
  · refine zj_aload_n 7 rfl rfl rfl ?_
    refine zj_iload_n 8 rfl rfl rfl ?_
    refine zj_iconst 9 (1) rfl rfl (by decide) ?_
    refine zn_iadd 10 (l) (1) rfl rfl rfl rfl ?_
    refine zj_iload_n 11 rfl rfl rfl ?_
    refine zj_cvvX 12 rfl rfl lk_3_50 ckLa_readLevel (hg M S hr hp) rfl zkt_0 rfl rfl (zRg_ok (by omega) (by decide)) (fun s1 hP1 => ?_)
    obtain ⟨hp1, M1, rfl, hr1⟩ := hP1
    refine zj_iload_n 13 rfl rfl rfl ?_
    refine zj_iconst 14 (2) rfl rfl (by decide) ?_
    refine zn_icmp_ne 15 (l) (2) rfl rfl rfl rfl (by omega) (by omega) (fun c21 => ?_) (fun c21 => ?_)
    · refine zj_bipush 18 (40) rfl rfl (by decide) ?_
      refine zj_istore_n 19 rfl rfl ?_
      refine zj_iconst 20 (0) rfl rfl (by decide) ?_
      refine zj_istore 21 rfl rfl ?_
      rw [if_neg c21]
      exact l_lv t many hmany l o d hl ho hd g hg 40 (by decide) 40 M1 (g S) 0 _ hr1 hp1 (by omega) n
    · refine zj_iconst 16 (1) rfl rfl (by decide) ?_
      refine zj_goto 17 rfl rfl ?_
      refine zj_istore_n 19 rfl rfl ?_
      refine zj_iconst 20 (0) rfl rfl (by decide) ?_
      refine zj_istore 21 rfl rfl ?_
      rw [if_pos c21]
      exact l_lv t many hmany l o d hl ho hd g hg 1 (by decide) 1 M1 (g S) 0 _ hr1 hp1 (by omega) n
  · exact absurd c2 (by omega)
theorem k_readLevel5 (t : Nat → Int32) (many : Nat) (hmany : many ≤ 40) (o d : Nat) (hd : 3 ≤ d) (g : lS → lS) (S : lS) (hu : zX E YLa_readUnit d [.ref a, .int (nI o)] (zkt σ a M) none (rP σ a t many (g S))) : zX E YLa_readLevel (d + 1) [.ref a, .int (nI 5), .int (nI o)] (zkt σ a M) (none) (rP σ a t many (g S)) := by
  refine zX.of oLa_readLevel (by decide +kernel) rfl rfl (fun n => ?_)
  refine zj_iload_n 0 rfl rfl rfl ?_
  refine zj_iconst 1 (5) rfl rfl (by decide) ?_
  refine zn_icmp_lt 2 (5) (5) rfl rfl rfl rfl (by omega) (by omega) (fun c2 => ?_) (fun c2 => ?_)
  · exact absurd c2 (by decide)
  · refine zj_aload_n 3 rfl rfl rfl ?_
    refine zj_iload_n 4 rfl rfl rfl ?_
    refine zj_cvvX 5 rfl rfl lk_3_61 ckLa_readUnit hu rfl zkt_0 rfl rfl (zRg_ok (by omega) (by decide)) (fun s1 hP1 => ?_)
    have hP2 := hP1
    refine zj_return 6 rfl rfl rfl ?_
    exact ⟨rfl, rfl, hP2⟩
end
