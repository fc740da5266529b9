/-! the component: a law's reader, units -/
theorem zru_t {f : Nat} (h : f < 2 ^ 20) : (nI f - 1).toInt = (f : Int) - 1 := pk_sub_toInt (a := f) (b := 1) (by omega) (by omega)
theorem zru0 {first j : Nat} {x : Int32} (hb : first + j < 2 ^ 20) (h : x = nI (first + j) - 1) (c : x < nI first) : j = 0 := by
  rw [h, Int32.lt_iff_toInt_lt, zru_t hb, nI_toInt (by omega)] at c
  omega
theorem zru {first j : Nat} {x : Int32} (hb : first + j < 2 ^ 20) (h : x = nI (first + j) - 1) (c : ¬ x < nI first) : ∃ j2, j = j2 + 1 ∧ x = nI (first + j2) := by
  rw [h, Int32.lt_iff_toInt_lt, zru_t hb, nI_toInt (by omega)] at c
  refine ⟨j - 1, by omega, ?_⟩
  rw [h]
  exact (pk_sub (a := first + j) (b := 1) (by omega)).trans (congrArg nI (by omega))
theorem zru_s (x : Int32) {y : Int32} (h : x = y) : x + (-1) = y - 1 := by rw [h, Int32.sub_eq_add_neg]
theorem lPre_pl (t : Nat → Int32) (first : Nat) : ∀ j (S : lS), (lPre t first j S).2.1 = S.2.1
  | 0, S => rfl
  | j + 1, S => by
    simp only [lPre]
    rw [lPre_pl t first j]
    split
    · rfl
    · split <;> rfl
section
variable {E : zE} {σ : zH} {a : Nat} {M : zMo}
theorem l_ru2 (t : Nat → Int32) (many : Nat) (hmany : many ≤ 40) (o d : Nat) (hd : 3 ≤ d) (first : Nat) (x3 : Int32) : ∀ (m : Nat) (M : zMo) (S : lS) (x4 : Int32), (lRep t many M S) → (S.2.1 ≤ many) → (x4 = nI (first + m) - 1) → (first + m ≤ many) → ∀ n, zXB E YLa_readUnit (d + 1) n (none) (rP σ a t many (lPre t first m S)) (zkt σ a M) 59 [some (.ref a), some (.int (nI o)), some (.int (nI first)), some (.int x3), some (.int x4)] [] := by
  intro m
  induction m using Nat.strongRecOn with
  | ind m ih =>
  intro M S x4 hr hp h4 hb n
  refine zj_iload 32 rfl rfl rfl ?_
  refine zj_iload_n 33 rfl rfl rfl ?_
  refine zj_icmp_lt 34 rfl rfl (fun c62 => ?_) (fun c62 => ?_)
  · refine zj_return 56 rfl rfl rfl ?_
    obtain rfl := zru0 (by omega) h4 c62
    exact ⟨rfl, rfl, hp, M, rfl, hr⟩
  · obtain ⟨j, rfl, h4b⟩ := zru (by omega) h4 c62
    have et : M.1 0 = t := hr.1
    refine zj_aload_n 35 rfl rfl rfl ?_
    refine zj_get 36 rfl rfl zkt_0 rfl ?_
    refine zj_iload 37 rfl rfl rfl ?_
    refine zn_iald 38 (first + j) rfl rfl zkt_1 h4b (by omega) (by decide) ?_
    refine zj_bipush 39 (33) rfl rfl (by decide) ?_
    refine zj_icmp_ne 40 rfl rfl (fun c74 => ?_) (fun c74 => ?_)
    · refine zj_aload_n 45 rfl rfl rfl ?_
      refine zj_get 46 rfl rfl zkt_0 rfl ?_
      refine zj_iload 47 rfl rfl rfl ?_
      refine zn_iald 48 (first + j) rfl rfl zkt_1 h4b (by omega) (by decide) ?_
      refine zj_bipush 49 (45) rfl rfl (by decide) ?_
      refine zj_icmp_ne 50 rfl rfl (fun c95 => ?_) (fun c95 => ?_)
      · refine zj_iinc 54 (-1) rfl rfl rfl (by decide) ?_
        refine zj_goto 55 rfl rfl ?_
        have e : lPre t first (j + 1) S = lPre t first j (if t (first + j) = 33 then lAdd S (-21) else if t (first + j) = 45 then lAdd S (-22) else S) := rfl
        rw [e, if_neg (by rw [← et]; simpa using c74), if_neg (by rw [← et]; simpa using c95)]
        exact ih j (by omega) M (S) _ hr (by exact hp) (zru_s _ h4b) (by omega) n
      · refine zj_aload_n 51 rfl rfl rfl ?_
        refine zj_bipush 52 (-22) rfl rfl (by decide) ?_
        refine zj_cvvX 53 rfl rfl lk_3_74 ckLa_addStep (k_addStep t many hmany S hr (-22)) rfl zkt_0 rfl rfl (zRg_ok (by omega) (by decide)) (fun s1 hP1 => ?_)
        obtain ⟨M1, rfl, hr1⟩ := hP1
        refine zj_iinc 54 (-1) rfl rfl rfl (by decide) ?_
        refine zj_goto 55 rfl rfl ?_
        have e : lPre t first (j + 1) S = lPre t first j (if t (first + j) = 33 then lAdd S (-21) else if t (first + j) = 45 then lAdd S (-22) else S) := rfl
        rw [e, if_neg (by rw [← et]; simpa using c74), if_pos (by rw [← et]; exact Decidable.of_not_not (by simpa using c95))]
        exact ih j (by omega) M1 (lAdd S (-22)) _ hr1 (by exact hp) (zru_s _ h4b) (by omega) n
    · refine zj_aload_n 41 rfl rfl rfl ?_
      refine zj_bipush 42 (-21) rfl rfl (by decide) ?_
      refine zj_cvvX 43 rfl rfl lk_3_74 ckLa_addStep (k_addStep t many hmany S hr (-21)) rfl zkt_0 rfl rfl (zRg_ok (by omega) (by decide)) (fun s1 hP1 => ?_)
      obtain ⟨M1, rfl, hr1⟩ := hP1
      refine zj_goto 44 rfl rfl ?_
      refine zj_iinc 54 (-1) rfl rfl rfl (by decide) ?_
      refine zj_goto 55 rfl rfl ?_
      have e : lPre t first (j + 1) S = lPre t first j (if t (first + j) = 33 then lAdd S (-21) else if t (first + j) = 45 then lAdd S (-22) else S) := rfl
      rw [e, if_pos (by rw [← et]; exact Decidable.of_not_not (by simpa using c74))]
      exact ih j (by omega) M1 (lAdd S (-21)) _ hr1 (by exact hp) (zru_s _ h4b) (by omega) n
theorem l_ru1 (t : Nat → Int32) (many : Nat) (hmany : many ≤ 40) (o d : Nat) (hd : 3 ≤ d) (gp : lS → lS) (hpl : ∀ M1 S1, lRep t many M1 S1 → S1.2.1 ≤ many → zX E YLa_readPlainUnit d [.ref a, .int (nI o)] (zkt σ a M1) none (rP σ a t many (gp S1))) (first : Nat) : ∀ (m : Nat) (M : zMo) (S : lS) (o3 o4 : Option Value), (lRep t many M S) → (S.2.1 + m = many) → (first ≤ S.2.1) → ∀ n, zXB E YLa_readUnit (d + 1) n (none) (rP σ a t many (lPre t first (lPx t many S.2.1 - first) (gp (lAt S (lPx t many S.2.1))))) (zkt σ a M) 5 [some (.ref a), some (.int (nI o)), some (.int (nI first)), o3, o4] [] := by
  intro m
  induction m using Nat.strongRecOn with
  | ind m ih =>
  intro M S o3 o4 hr hk hf n
  refine zj_aload_n 3 rfl rfl rfl ?_
  refine zj_get 4 rfl rfl zkt_0 rfl ?_
  refine zj_aload_n 5 rfl rfl rfl ?_
  refine zj_get 6 rfl rfl zkt_0 rfl ?_
  refine zn_icmp_ge 7 (S.2.1) (many) rfl rfl hr.2.2.2.1 hr.2.1 (by omega) (by omega) (fun c13 => ?_) (fun c13 => ?_)
  · refine zj_aload_n 22 rfl rfl rfl ?_
    refine zj_get 23 rfl rfl zkt_0 rfl ?_
    refine zj_istore_n 24 rfl rfl ?_
    refine zj_aload_n 25 rfl rfl rfl ?_
    refine zj_iload_n 26 rfl rfl rfl ?_
    refine zj_cvvX 27 rfl rfl lk_3_81 ckLa_readPlainUnit (hpl M S hr (by omega)) rfl zkt_0 rfl rfl (zRg_ok (by omega) (by decide)) (fun s1 hP1 => ?_)
    obtain ⟨hp1, M1, rfl, hr1⟩ := hP1
    refine zj_iload_n 28 rfl rfl rfl ?_
    refine zj_iconst 29 (1) rfl rfl (by decide) ?_
    refine zj_isub 30 rfl rfl ?_
    refine zj_istore 31 rfl rfl ?_
    have e : ¬ (S.2.1 < many ∧ lPfx (t S.2.1)) := fun g => absurd g.1 (by omega)
    rw [lPx_n e]
    exact l_ru2 t many hmany o d hd first _ (S.2.1 - first) M1 (gp S) _ hr1 hp1 (by rw [hr.2.2.2.1, show first + (S.2.1 - first) = S.2.1 by omega]) (by omega) n
  · refine zj_aload_n 8 rfl rfl rfl ?_
    refine zj_get 9 rfl rfl zkt_0 rfl ?_
    refine zj_aload_n 10 rfl rfl rfl ?_
    refine zj_get 11 rfl rfl zkt_0 rfl ?_
    refine zn_iald 12 (S.2.1) rfl rfl zkt_1 hr.2.2.2.1 (by omega) (by decide) ?_
    refine zj_csx 13 rfl rfl lk_3_77 ckLa_isPrefix (k_isPrefix _) rfl rfl rfl (zRg_ok (by omega) (by decide)) ?_
    refine zj_if_eq 14 rfl rfl (fun c28 => ?_) (fun c28 => ?_)
    · refine zj_aload_n 22 rfl rfl rfl ?_
      refine zj_get 23 rfl rfl zkt_0 rfl ?_
      refine zj_istore_n 24 rfl rfl ?_
      refine zj_aload_n 25 rfl rfl rfl ?_
      refine zj_iload_n 26 rfl rfl rfl ?_
      refine zj_cvvX 27 rfl rfl lk_3_81 ckLa_readPlainUnit (hpl M S hr (by omega)) rfl zkt_0 rfl rfl (zRg_ok (by omega) (by decide)) (fun s1 hP1 => ?_)
      obtain ⟨hp1, M1, rfl, hr1⟩ := hP1
      refine zj_iload_n 28 rfl rfl rfl ?_
      refine zj_iconst 29 (1) rfl rfl (by decide) ?_
      refine zj_isub 30 rfl rfl ?_
      refine zj_istore 31 rfl rfl ?_
      have e : ¬ (S.2.1 < many ∧ lPfx (t S.2.1)) := fun g => zo_0.mp c28 (by rw [hr.1]; exact g.2)
      rw [lPx_n e]
      exact l_ru2 t many hmany o d hd first _ (S.2.1 - first) M1 (gp S) _ hr1 hp1 (by rw [hr.2.2.2.1, show first + (S.2.1 - first) = S.2.1 by omega]) (by omega) n
    · refine zj_aload_n 15 rfl rfl rfl ?_
      refine zj_dup 16 rfl rfl rfl ?_
      refine zj_get 17 rfl rfl zkt_0 rfl ?_
      refine zj_iconst 18 (1) rfl rfl (by decide) ?_
      refine zn_iadd 19 (S.2.1) (1) rfl rfl hr.2.2.2.1 rfl ?_
      refine zn_put 20 rfl rfl zkt_0 rfl rfl rfl rfl zkt_p_place ?_
      refine zj_goto 21 rfl rfl ?_
      have e : lPfx (t S.2.1) := by rw [← hr.1]; exact zo_n0.mp c28
      rw [lPx_s c13 e]
      exact ih (m - 1) (by omega) _ (lAt S (S.2.1 + 1)) _ _ (lRep_pl hr (S.2.1 + 1)) (by show S.2.1 + 1 + (m - 1) = many; omega) (by show first ≤ S.2.1 + 1; omega) n
theorem k_readUnit (t : Nat → Int32) (many : Nat) (hmany : many ≤ 40) (o d : Nat) (hd : 3 ≤ d) (gp : lS → lS) (hpl : ∀ M1 S1, lRep t many M1 S1 → S1.2.1 ≤ many → zX E YLa_readPlainUnit d [.ref a, .int (nI o)] (zkt σ a M1) none (rP σ a t many (gp S1))) (S : lS) (hr : lRep t many M S) (hp : S.2.1 ≤ many) : zX E YLa_readUnit (d + 1) [.ref a, .int (nI o)] (zkt σ a M) (none) (rP σ a t many (lPre t S.2.1 (lPx t many S.2.1 - S.2.1) (gp (lAt S (lPx t many S.2.1))))) := by
  refine zX.of oLa_readUnit (by decide +kernel) rfl rfl (fun n => ?_)
  refine zj_aload_n 0 rfl rfl rfl ?_
  refine zj_get 1 rfl rfl zkt_0 rfl ?_
  rw [hr.2.2.2.1]
  refine zj_istore_n 2 rfl rfl ?_
  exact l_ru1 t many hmany o d hd gp hpl S.2.1 (many - S.2.1) M S _ _ hr (by omega) (Nat.le_refl _) n
end
