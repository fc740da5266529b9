/-! the component: a law's reader as a relation -/
abbrev lPfx (c : Int32) : Prop := c = 33 ∨ c = 45 ∨ c = 32
def pPx (t : Nat → Int32) (many : Nat) : Nat → Nat → Nat
  | 0, pl => pl
  | f + 1, pl => if pl < many ∧ lPfx (t pl) then pPx t many f (pl + 1) else pl
abbrev lPx (t : Nat → Int32) (many pl : Nat) : Nat := pPx t many (many - pl) pl
theorem lPx_s {t : Nat → Int32} {many pl : Nat} (h : pl < many) (e : lPfx (t pl)) : lPx t many pl = lPx t many (pl + 1) := by
  unfold lPx
  obtain ⟨f, hf⟩ : ∃ f, many - pl = f + 1 := ⟨many - pl - 1, by omega⟩
  rw [hf, show many - (pl + 1) = f by omega]
  exact if_pos ⟨h, e⟩
theorem lPx_n {t : Nat → Int32} {many pl : Nat} (h : ¬ (pl < many ∧ lPfx (t pl))) : lPx t many pl = pl := by
  unfold lPx
  match hm : many - pl with
  | 0 => rfl
  | f + 1 => exact if_neg h
theorem lPx_le (t : Nat → Int32) (many : Nat) : ∀ f pl, pl + f = many → pl ≤ pPx t many f pl ∧ pPx t many f pl ≤ many := by
  intro f
  induction f with
  | zero => intro pl h; simp only [pPx]; omega
  | succ f ih =>
    intro pl h
    simp only [pPx]
    split
    · have := ih (pl + 1) (by omega); omega
    · omega
/-- the steps of the signs before a unit, from behind -/
def lPre (t : Nat → Int32) (first : Nat) : Nat → lS → lS
  | 0, S => S
  | j + 1, S => lPre t first j (if t (first + j) = 33 then lAdd S (-21) else if t (first + j) = 45 then lAdd S (-22) else S)
abbrev lSgn (t : Nat → Int32) (many : Nat) (S : lS) : Int32 := lSg t many (lSk t many S.2.1)
abbrev lAt (S : lS) (pl : Nat) : lS := (S.1, pl, S.2.2)
/-- the loop of one level; g reads the level above it -/
def rdL (t : Nat → Int32) (many : Nat) (g : lS → lS) (l : Nat) : Nat → lS → lS
  | 0, S => S
  | k + 1, S => if ¬ S.2.2.1 = -1 then S else if uJoin (lSgn t many S) = 0 ∨ ¬ uLev (uJoin (lSgn t many S)) = nI l then lAt S (lSk t many S.2.1) else rdL t many g l k (lAdd (g (lAt S (lSk t many S.2.1 + 1))) (uJoin (lSgn t many S)))
def rdPlain (t : Nat → Int32) (many : Nat) (g : lS → lS) (S : lS) : lS :=
  if ¬ uUnit (lSgn t many S) = 0 then lAdd (S.1, lSk t many S.2.1 + 1, S.2.2.1, S.2.2.2 || decide (uUnit (lSgn t many S) = -5)) (uUnit (lSgn t many S))
  else if lDigit (lSgn t many S) then lDigs t many (lAt S (lSk t many S.2.1)) (lSk t many S.2.1) (lDg t many (lSk t many S.2.1) (lSk t many S.2.1) 0)
  else if lSgn t many S = 40 then g (lAt S (lSk t many S.2.1))
  else lFault (lAt S (lSk t many S.2.1)) (nI (lSk t many S.2.1)) 1
def rdIn (t : Nat → Int32) (many : Nat) (g : lS → lS) (o : Nat) (S : lS) : lS :=
  if 8 ≤ o then lFault S (nI S.2.1) 3
  else if lSgn t many (g (lAt S (S.2.1 + 1))) = 41 then lAt (g (lAt S (S.2.1 + 1))) (lSk t many (g (lAt S (S.2.1 + 1))).2.1 + 1)
  else lFault (lAt (g (lAt S (S.2.1 + 1))) (lSk t many (g (lAt S (S.2.1 + 1))).2.1)) (nI (lSk t many (g (lAt S (S.2.1 + 1))).2.1)) 1
/-- the reader: kinds 0 to 5 are levels, 6 a unit, 7 a plain unit, 8 what stands in brackets; the fuel is 9 * (8 - o) + (9 - k) -/
def rd (t : Nat → Int32) (many : Nat) : Nat → Nat → Nat → lS → lS
  | 0, _, _, S => S
  | f + 1, k, o, S =>
    if k < 5 then rdL t many (rd t many f (k + 1) o) k (if k = 2 then 1 else 40) (rd t many f (k + 1) o S)
    else if k = 5 then rd t many f 6 o S
    else if k = 6 then lPre t S.2.1 (lPx t many S.2.1 - S.2.1) (rd t many f 7 o (lAt S (lPx t many S.2.1)))
    else if k = 7 then rdPlain t many (rd t many f 8 o) S
    else rdIn t many (rd t many f 0 (o + 1)) o S
theorem lDigs_pl (t : Nat → Int32) (many : Nat) (S : lS) (first : Nat) (r : Nat × Int32) : (lDigs t many S first r).2.1 = r.1 := by
  unfold lDigs lAdd lFault; split <;> rfl
/-- what a call of the reader leaves -/
def rP (σ : zH) (a : Nat) (t : Nat → Int32) (many : Nat) (S' : lS) : zH → Prop := fun s => S'.2.1 ≤ many ∧ lP σ a t many S' s
theorem zRg_ok {nL d d' : Nat} (h : d + 1 ≤ d') (hn : nL ≤ 45) : zRg (zrm d') nL d 0 0 = true := by
  unfold zRg zrm
  simp only [Bool.and_eq_true]
  refine ⟨⟨⟨Nat.ble_eq_true_of_le h, Nat.ble_eq_true_of_le (by omega)⟩, rfl⟩, rfl⟩
section
variable {E : zE} {σ : zH} {a : Nat} {M : zMo}
theorem k_readInside (t : Nat → Int32) (many : Nat) (hmany : many ≤ 40) (o d : Nat) (ho : o ≤ 8) (S : lS) (hr : lRep t many M S) (hp : S.2.1 < many) (hd : 3 ≤ d) (g : lS → lS) (hl : o < 8 → zX E YLa_readLevel d [.ref a, .int (nI 0), .int (nI (o + 1))] (zkt σ a (M.sI 4 (nI (S.2.1 + 1)))) none (rP σ a t many (g (lAt S (S.2.1 + 1))))) : zX E YLa_readInside (d + 1) [.ref a, .int (nI o)] (zkt σ a M) (none) (rP σ a t many (rdIn t many g o S)) := by
  refine zX.of oLa_readInside (by decide +kernel) rfl rfl (fun n => ?_)
  refine zj_iload_n 0 rfl rfl rfl ?_
  refine zj_bipush 1 (8) rfl rfl (by decide) ?_
  refine zn_icmp_lt 2 (o) (8) rfl rfl rfl rfl (by omega) (by omega) (fun c3 => ?_) (fun c3 => ?_)
  · refine zj_aload_n 9 rfl rfl rfl ?_
    refine zj_dup 10 rfl rfl rfl ?_
    refine zj_get 11 rfl rfl zkt_0 rfl ?_
    refine zj_iconst 12 (1) rfl rfl (by decide) ?_
    refine zn_iadd 13 (S.2.1) (1) rfl rfl hr.2.2.2.1 rfl ?_
    refine zn_put 14 rfl rfl zkt_0 rfl rfl rfl rfl zkt_p_place ?_
    refine zj_aload_n 15 rfl rfl rfl ?_
    refine zj_iconst 16 (0) rfl rfl (by decide) ?_
    refine zj_iload_n 17 rfl rfl rfl ?_
    refine zj_iconst 18 (1) rfl rfl (by decide) ?_
    refine zn_iadd 19 (o) (1) rfl rfl rfl rfl ?_
    refine zj_cvvX 20 rfl rfl lk_3_50 ckLa_readLevel (hl c3) rfl zkt_0 rfl rfl (zRg_ok (by omega) (by decide)) (fun s1 hP1 => ?_)
    obtain ⟨hlm, M1, rfl, hr1⟩ := hP1
    refine zj_aload_n 21 rfl rfl rfl ?_
    refine zj_cvxX 22 rfl rfl lk_3_54 ckLa_nextSign (k_nextSign t many hmany (g (lAt S (S.2.1 + 1))) hr1 hlm) rfl zkt_0 rfl rfl (zRg_ok (by omega) (by decide)) (fun s1 hP1 => ?_)
    obtain ⟨M2, rfl, hr2⟩ := hP1
    have hsk := lSk_le t many (g (lAt S (S.2.1 + 1))).2.1 hlm
    refine zj_bipush 23 (41) rfl rfl (by decide) ?_
    refine zj_icmp_ne 24 rfl rfl (fun c40 => ?_) (fun c40 => ?_)
    · refine zj_aload_n 32 rfl rfl rfl ?_
      refine zj_aload_n 33 rfl rfl rfl ?_
      refine zj_get 34 rfl rfl zkt_0 rfl ?_
      refine zj_iconst 35 (1) rfl rfl (by decide) ?_
      refine zj_cvvX 36 rfl rfl lk_3_58 ckLa_noteFault (k_noteFault t many hmany _ hr2 _ _) rfl zkt_0 rfl rfl (zRg_ok (by omega) (by decide)) (fun s1 hP1 => ?_)
      obtain ⟨M3, rfl, hr3⟩ := hP1
      refine zj_return 37 rfl rfl rfl ?_
      rw [hr2.2.2.2.1] at hr3
      have e : rdIn t many g o S = lFault (lAt (g (lAt S (S.2.1 + 1))) (lSk t many (g (lAt S (S.2.1 + 1))).2.1)) (nI (lSk t many (g (lAt S (S.2.1 + 1))).2.1)) 1 := by unfold rdIn; rw [if_neg (by omega), if_neg c40]
      rw [e]
      exact ⟨rfl, rfl, hsk.2, M3, rfl, hr3⟩
    · refine zj_aload_n 25 rfl rfl rfl ?_
      refine zj_dup 26 rfl rfl rfl ?_
      refine zj_get 27 rfl rfl zkt_0 rfl ?_
      refine zj_iconst 28 (1) rfl rfl (by decide) ?_
      refine zn_iadd 29 (lSk t many (g (lAt S (S.2.1 + 1))).2.1) (1) rfl rfl hr2.2.2.2.1 rfl ?_
      refine zn_put 30 rfl rfl zkt_0 rfl rfl rfl rfl zkt_p_place ?_
      refine zj_goto 31 rfl rfl ?_
      refine zj_return 37 rfl rfl rfl ?_
      have e : rdIn t many g o S = lAt (g (lAt S (S.2.1 + 1))) (lSk t many (g (lAt S (S.2.1 + 1))).2.1 + 1) := by unfold rdIn; rw [if_neg (by omega), if_pos c40]
      have hlt : lSk t many (g (lAt S (S.2.1 + 1))).2.1 < many := by
        by_cases h : lSk t many (g (lAt S (S.2.1 + 1))).2.1 < many
        · exact h
        · exfalso; unfold lSg at c40; rw [if_neg h] at c40; exact absurd c40 (by decide)
      rw [e]
      exact ⟨rfl, rfl, hlt, _, rfl, lRep_pl hr2 _⟩
  · refine zj_aload_n 3 rfl rfl rfl ?_
    refine zj_aload_n 4 rfl rfl rfl ?_
    refine zj_get 5 rfl rfl zkt_0 rfl ?_
    refine zj_iconst 6 (3) rfl rfl (by decide) ?_
    refine zj_cvvX 7 rfl rfl lk_3_58 ckLa_noteFault (k_noteFault t many hmany S hr _ _) rfl zkt_0 rfl rfl (zRg_ok (by omega) (by decide)) (fun s1 hP1 => ?_)
    obtain ⟨M1, rfl, hr1⟩ := hP1
    refine zj_return 8 rfl rfl rfl ?_
    have e : rdIn t many g o S = lFault S (nI S.2.1) 3 := if_pos (by omega)
    rw [e]
    rw [hr.2.2.2.1] at hr1
    exact ⟨rfl, rfl, by show S.2.1 ≤ many; omega, M1, rfl, hr1⟩
theorem k_readPlain (t : Nat → Int32) (many : Nat) (hmany : many ≤ 40) (o d : Nat) (ho : o ≤ 8) (S : lS) (hr : lRep t many M S) (hp : S.2.1 ≤ many) (hd : 3 ≤ d) (g : lS → lS) (hi : ∀ M1, lRep t many M1 (lAt S (lSk t many S.2.1)) → lSk t many S.2.1 < many → zX E YLa_readInside d [.ref a, .int (nI o)] (zkt σ a M1) none (rP σ a t many (g (lAt S (lSk t many S.2.1))))) : zX E YLa_readPlainUnit (d + 1) [.ref a, .int (nI o)] (zkt σ a M) (none) (rP σ a t many (rdPlain t many g S)) := by
  refine zX.of oLa_readPlainUnit (by decide +kernel) rfl rfl (fun n => ?_)
  refine zj_aload_n 0 rfl rfl rfl ?_
  refine zj_cvxX 1 rfl rfl lk_3_54 ckLa_nextSign (k_nextSign t many hmany S hr hp) rfl zkt_0 rfl rfl (zRg_ok (by omega) (by decide)) (fun s1 hP1 => ?_)
  obtain ⟨M1, rfl, hr1⟩ := hP1
  have hsk := lSk_le t many S.2.1 hp
  refine zj_istore_n 2 rfl rfl ?_
  refine zj_iload_n 3 rfl rfl rfl ?_
  refine zj_csx 4 rfl rfl lk_3_84 ckSp_unitOf (k_unitOf _) rfl rfl rfl (zRg_ok (by omega) (by decide)) ?_
  refine zj_istore_n 5 rfl rfl ?_
  refine zj_iload_n 6 rfl rfl rfl ?_
  refine zj_if_eq 7 rfl rfl (fun c11 => ?_) (fun c11 => ?_)
  · refine zj_iload_n 29 rfl rfl rfl ?_
    refine zj_csx 30 rfl rfl lk_3_87 ckLa_isDigit (k_isDigit _) rfl rfl rfl (zRg_ok (by omega) (by decide)) ?_
    refine zj_if_eq 31 rfl rfl (fun c58 => ?_) (fun c58 => ?_)
    · refine zj_iload_n 35 rfl rfl rfl ?_
      refine zj_bipush 36 (40) rfl rfl (by decide) ?_
      refine zj_icmp_ne 37 rfl rfl (fun c71 => ?_) (fun c71 => ?_)
      · refine zj_aload_n 42 rfl rfl rfl ?_
        refine zj_aload_n 43 rfl rfl rfl ?_
        refine zj_get 44 rfl rfl zkt_0 rfl ?_
        refine zj_iconst 45 (1) rfl rfl (by decide) ?_
        refine zj_cvvX 46 rfl rfl lk_3_58 ckLa_noteFault (k_noteFault t many hmany _ hr1 _ _) rfl zkt_0 rfl rfl (zRg_ok (by omega) (by decide)) (fun s1 hP1 => ?_)
        obtain ⟨M3, rfl, hr3⟩ := hP1
        refine zj_return 47 rfl rfl rfl ?_
        rw [hr1.2.2.2.1] at hr3
        have e : rdPlain t many g S = lFault (lAt S (lSk t many S.2.1)) (nI (lSk t many S.2.1)) 1 := by unfold rdPlain; rw [if_neg (fun z => z c11), if_neg (zo_0.mp c58), if_neg c71]
        rw [e]
        exact ⟨rfl, rfl, hsk.2, M3, rfl, hr3⟩
      · have hlt : lSk t many S.2.1 < many := by
          by_cases h : lSk t many S.2.1 < many
          · exact h
          · exfalso; unfold lSg at c71; rw [if_neg h] at c71; exact absurd c71 (by decide)
        refine zj_aload_n 38 rfl rfl rfl ?_
        refine zj_iload_n 39 rfl rfl rfl ?_
        refine zj_cvvX 40 rfl rfl lk_3_93 ckLa_readInside (hi M1 hr1 hlt) rfl zkt_0 rfl rfl (zRg_ok (by omega) (by decide)) (fun s1 hP1 => ?_)
        have hP2 := hP1
        refine zj_goto 41 rfl rfl ?_
        refine zj_return 47 rfl rfl rfl ?_
        have e : rdPlain t many g S = g (lAt S (lSk t many S.2.1)) := by unfold rdPlain; rw [if_neg (fun z => z c11), if_neg (zo_0.mp c58), if_pos c71]
        rw [e]
        exact ⟨rfl, rfl, hP2⟩
    · refine zj_aload_n 32 rfl rfl rfl ?_
      refine zj_cvvX 33 rfl rfl lk_3_90 ckLa_readDigits (k_readDigits t many hmany _ hr1 hsk.2) rfl zkt_0 rfl rfl (zRg_ok (by omega) (by decide)) (fun s1 hP1 => ?_)
      obtain ⟨M3, rfl, hr3⟩ := hP1
      refine zj_goto 34 rfl rfl ?_
      refine zj_return 47 rfl rfl rfl ?_
      have e : rdPlain t many g S = lDigs t many (lAt S (lSk t many S.2.1)) (lSk t many S.2.1) (lDg t many (lSk t many S.2.1) (lSk t many S.2.1) 0) := by unfold rdPlain; rw [if_neg (fun z => z c11), if_pos (zo_n0.mp c58)]
      rw [e]
      exact ⟨rfl, rfl, by rw [lDigs_pl]; exact (lDg_le t many _ _ _ _ (by omega)).2, M3, rfl, hr3⟩
  · have hlt : lSk t many S.2.1 < many := by
      by_cases h : lSk t many S.2.1 < many
      · exact h
      · exfalso; unfold lSg at c11; rw [if_neg h] at c11; exact c11 (by decide)
    refine zj_aload_n 8 rfl rfl rfl ?_
    refine zj_dup 9 rfl rfl rfl ?_
    refine zj_get 10 rfl rfl zkt_0 rfl ?_
    refine zj_iconst 11 (1) rfl rfl (by decide) ?_
    refine zn_iadd 12 (lSk t many S.2.1) (1) rfl rfl hr1.2.2.2.1 rfl ?_
    refine zn_put 13 rfl rfl zkt_0 rfl rfl rfl rfl zkt_p_place ?_
    refine zj_aload_n 14 rfl rfl rfl ?_
    refine zj_aload_n 15 rfl rfl rfl ?_
    refine zj_get 16 rfl rfl zkt_0 rfl ?_
    refine zj_if_ne 17 rfl rfl (fun c29 => ?_) (fun c29 => ?_)
    · refine zj_iconst 21 (1) rfl rfl (by decide) ?_
      refine zj_goto 22 rfl rfl ?_
      refine zn_put 24 rfl rfl zkt_0 rfl rfl rfl rfl zkt_p_asksShown ?_
      have hra : lRep t many _ (S.1, (lSk t many S.2.1) + 1, S.2.2.1, true) := lRep_as (lRep_pl hr1 ((lSk t many S.2.1) + 1)) true
      refine zj_aload_n 25 rfl rfl rfl ?_
      refine zj_iload_n 26 rfl rfl rfl ?_
      refine zj_cvvX 27 rfl rfl lk_3_74 ckLa_addStep (k_addStep t many hmany _ hra _) rfl zkt_0 rfl rfl (zRg_ok (by omega) (by decide)) (fun s1 hP1 => ?_)
      obtain ⟨M3, rfl, hr3⟩ := hP1
      refine zj_goto 28 rfl rfl ?_
      refine zj_return 47 rfl rfl rfl ?_
      have q29 : ¬ M1.2.2.1 3 = 0 := c29
      rw [hr1.2.2.2.2.2] at q29
      have eb : (S.2.2.2 || decide (uUnit (lSgn t many S) = -5)) = true := by rw [zob_n.mp q29, Bool.true_or]
      have e : rdPlain t many g S = lAdd (S.1, (lSk t many S.2.1) + 1, S.2.2.1, S.2.2.2 || decide (uUnit (lSgn t many S) = -5)) (uUnit (lSgn t many S)) := if_pos c11
      rw [e, eb]
      exact ⟨rfl, rfl, hlt, M3, rfl, hr3⟩
    · refine zj_iload_n 18 rfl rfl rfl ?_
      refine zj_bipush 19 (-5) rfl rfl (by decide) ?_
      refine zj_icmp_ne 20 rfl rfl (fun c35 => ?_) (fun c35 => ?_)
      · refine zj_iconst 23 (0) rfl rfl (by decide) ?_
        refine zn_put 24 rfl rfl zkt_0 rfl rfl rfl rfl zkt_p_asksShown ?_
        have hra : lRep t many _ (S.1, (lSk t many S.2.1) + 1, S.2.2.1, false) := lRep_as (lRep_pl hr1 ((lSk t many S.2.1) + 1)) false
        refine zj_aload_n 25 rfl rfl rfl ?_
        refine zj_iload_n 26 rfl rfl rfl ?_
        refine zj_cvvX 27 rfl rfl lk_3_74 ckLa_addStep (k_addStep t many hmany _ hra _) rfl zkt_0 rfl rfl (zRg_ok (by omega) (by decide)) (fun s1 hP1 => ?_)
        obtain ⟨M3, rfl, hr3⟩ := hP1
        refine zj_goto 28 rfl rfl ?_
        refine zj_return 47 rfl rfl rfl ?_
        have q29 : M1.2.2.1 3 = 0 := c29
        rw [hr1.2.2.2.2.2] at q29
        have eb : (S.2.2.2 || decide (uUnit (lSgn t many S) = -5)) = false := by rw [zob_0.mp q29, decide_eq_false (by simpa using c35), Bool.false_or]
        have e : rdPlain t many g S = lAdd (S.1, (lSk t many S.2.1) + 1, S.2.2.1, S.2.2.2 || decide (uUnit (lSgn t many S) = -5)) (uUnit (lSgn t many S)) := if_pos c11
        rw [e, eb]
        exact ⟨rfl, rfl, hlt, M3, rfl, hr3⟩
      · refine zj_iconst 21 (1) rfl rfl (by decide) ?_
        refine zj_goto 22 rfl rfl ?_
        refine zn_put 24 rfl rfl zkt_0 rfl rfl rfl rfl zkt_p_asksShown ?_
        have hra : lRep t many _ (S.1, (lSk t many S.2.1) + 1, S.2.2.1, true) := lRep_as (lRep_pl hr1 ((lSk t many S.2.1) + 1)) true
        refine zj_aload_n 25 rfl rfl rfl ?_
        refine zj_iload_n 26 rfl rfl rfl ?_
        refine zj_cvvX 27 rfl rfl lk_3_74 ckLa_addStep (k_addStep t many hmany _ hra _) rfl zkt_0 rfl rfl (zRg_ok (by omega) (by decide)) (fun s1 hP1 => ?_)
        obtain ⟨M3, rfl, hr3⟩ := hP1
        refine zj_goto 28 rfl rfl ?_
        refine zj_return 47 rfl rfl rfl ?_
        have eb : (S.2.2.2 || decide (uUnit (lSgn t many S) = -5)) = true := by rw [decide_eq_true (Decidable.of_not_not (by simpa using c35)), Bool.or_true]
        have e : rdPlain t many g S = lAdd (S.1, (lSk t many S.2.1) + 1, S.2.2.1, S.2.2.2 || decide (uUnit (lSgn t many S) = -5)) (uUnit (lSgn t many S)) := if_pos c11
        rw [e, eb]
        exact ⟨rfl, rfl, hlt, M3, rfl, hr3⟩
end
