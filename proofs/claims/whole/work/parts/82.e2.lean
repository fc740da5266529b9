/-! the two readers: digits, what stands ahead of a unit -/
theorem dig_nI {c : Int32} (h : qDig c) : ∃ e : Nat, e < 10 ∧ c = nI (48 + e) := by
  obtain ⟨j, hj, rfl⟩ := zr_nI (n := 58) (v := c) ⟨by have := h.1; omega, by have := h.2; omega⟩
  have := h.1
  rw [nI_toInt (by omega)] at this
  exact ⟨j - 48, by omega, by rw [show 48 + (j - 48) = j by omega]⟩
theorem num32 (n e : Nat) : 10 * nI n + nI (48 + e) - 48 = nI (10 * n + e) := by
  rw [show (10 : Int32) = nI 10 from rfl, pk_mul, nI_add, show (48 : Int32) = nI 48 from rfl, pk_sub (by omega)]
  congr 1
  omega
theorem num64 {n e : Nat} (hn : n < 10000000) (he : e < 10) : 10 * (nI n).toInt64 + (nI (48 + e)).toInt64 - 48 = (nI (10 * n + e)).toInt64 := by
  rw [nI_l (by omega), nI_l (by omega), nI_l (by omega), show (10 : Int64) = lN 10 from rfl, lN_mul, lN_add, show (48 : Int64) = lN 48 from rfl, lN_sub (by omega)]
  congr 1
  omega
section
variable {t : Nat → Int32} {many : Nat} {cs : List (Int32 × Int64)} {ws : List Int32} {o na : Nat} {cm : Nat → Bool}
theorem qGo_nd {p d : Nat} {bh : Bool} (hp : p ≤ many) (h : ¬ (p < many ∧ qDig (t p))) : qGo t many p (cs, ws, o, cm, bh, d, na) = qGo t many p (qM cs ws o cm bh na) := by
  by_cases hm : p = many
  · subst hm
    rw [qGo_end, qGo_end]
    unfold qEnd
    simp only [if_true]
    by_cases hc : bh = false ∨ 0 < o
    · rw [if_pos hc, if_pos hc]
    · rw [if_neg hc, if_neg hc]; rfl
  · have hpm : p < many := by omega
    have hd : ¬ qDig (t p) := fun g => h ⟨hpm, g⟩
    have e : qSign (t p) p (cs, ws, o, cm, bh, d, na) = qSign (t p) p (qM cs ws o cm bh na) := by
      have hA : ¬ (0 < ((cs, ws, o, cm, bh, d, na) : zS).2.2.2.2.2.1 ∧ qDig (t p)) := fun g => hd g.2
      have hB : ¬ (0 < (qM cs ws o cm bh na).2.2.2.2.2.1 ∧ qDig (t p)) := fun g => hd g.2
      unfold qSign
      rw [if_neg hA, if_neg hB]
    by_cases h0 : (qSign (t p) p (qM cs ws o cm bh na)).1 = 0
    · rw [qGo_step hpm (by rw [e]; exact h0), qGo_step hpm h0, e]
    · unfold qGo
      rw [show many - p = (many - (p + 1)) + 1 by omega]
      simp only [qRun]
      rw [e, if_neg h0]
theorem dig_run (first : Nat) (hmany : many ≤ 40) : ∀ (n pl num d : Nat), pl + n = many → pl = first + d → 1 ≤ d → d ≤ 6 → num < 10 ^ d →
    (pl ≤ (lDg t many first pl (nI num)).1 ∧ (lDg t many first pl (nI num)).1 ≤ many) ∧
    (6 < (lDg t many first pl (nI num)).1 - first → (qGo t many pl (cs ++ [(6, (nI num).toInt64)], ws, o, cm, true, d, first)).1 = nI (10 * first + 2)) ∧
    (¬ 6 < (lDg t many first pl (nI num)).1 - first → ∃ v, v < 10 ^ 6 ∧ (lDg t many first pl (nI num)).2 = nI v ∧ qGo t many pl (cs ++ [(6, (nI num).toInt64)], ws, o, cm, true, d, first) = qGo t many (lDg t many first pl (nI num)).1 (qM (cs ++ [(6, (nI v).toInt64)]) ws o cm true first)) := by
  intro n
  induction n with
  | zero =>
    intro pl num d h1 h2 h3 h4 h5
    rw [lDg_n (by omega)]
    refine ⟨⟨Nat.le_refl _, by show pl ≤ many; omega⟩, fun g => absurd g (by show ¬ 6 < pl - first; omega), fun _ => ⟨num, ?_, rfl, qGo_nd (by omega) (by omega)⟩⟩
    exact Nat.lt_of_lt_of_le h5 (Nat.pow_le_pow_right (by decide) h4)
  | succ n ih =>
    intro pl num d h1 h2 h3 h4 h5
    by_cases hq : qDig (t pl)
    · have hlt : pl < many := by omega
      obtain ⟨e, he, ec⟩ := dig_nI hq
      rw [lDg_s hlt ((dig_iff _).mpr hq)]
      by_cases hd6 : d = 6
      · have hle : pl + 1 ≤ (lDg t many first (pl + 1) (if pl - first < 6 then 10 * nI num + t pl - 48 else nI num)).1 ∧ (lDg t many first (pl + 1) (if pl - first < 6 then 10 * nI num + t pl - 48 else nI num)).1 ≤ many := lDg_le t many first (many - (pl + 1)) (pl + 1) (if pl - first < 6 then 10 * nI num + t pl - 48 else nI num) (by omega)
        have es : qSign (t pl) pl (cs ++ [(6, (nI num).toInt64)], ws, o, cm, true, d, first) = (nI (10 * first + 2), (cs ++ [(6, (nI num).toInt64)], ws, o, cm, true, d, first)) := by
          unfold qSign
          rw [if_pos ⟨by show 0 < d; omega, hq⟩, if_pos (by exact hd6)]
        refine ⟨⟨by have := hle.1; omega, hle.2⟩, fun _ => ?_, fun g => absurd (by have := hle.1; omega) g⟩
        rw [qGo_err hlt (by rw [es]; exact nI_nz (by omega) (by omega)), es]
      · have hp6 : (10 : Nat) ^ d ≤ 10 ^ 5 := Nat.pow_le_pow_right (by decide) (by omega)
        have en : (if pl - first < 6 then 10 * nI num + t pl - 48 else nI num) = nI (10 * num + e) := by
          rw [if_pos (by omega), ec, num32]
        rw [en]
        have es : qSign (t pl) pl (cs ++ [(6, (nI num).toInt64)], ws, o, cm, true, d, first) = (0, (cs ++ [(6, (nI (10 * num + e)).toInt64)], ws, o, cm, true, d + 1, first)) := by
          unfold qSign
          rw [if_pos ⟨by show 0 < d; omega, hq⟩, if_neg (by exact hd6)]
          show (0, (qNum (t pl) (cs ++ [(6, (nI num).toInt64)]), ws, o, cm, true, d + 1, first)) = _
          rw [qNum_c, ec, num64 (by omega) he]
        rw [qGo_step hlt (by rw [es]), es]
        have hi := ih (pl + 1) (10 * num + e) (d + 1) (by omega) (by omega) (by omega) (by omega) (by rw [Nat.pow_succ]; omega)
        exact ⟨⟨by have := hi.1.1; omega, hi.1.2⟩, hi.2⟩
    · rw [lDg_n (fun g => hq ((dig_iff _).mp g.2))]
      refine ⟨⟨Nat.le_refl _, by show pl ≤ many; omega⟩, fun g => absurd g (by show ¬ 6 < pl - first; omega), fun _ => ⟨num, ?_, rfl, qGo_nd (by omega) (fun g => hq g.2)⟩⟩
      exact Nat.lt_of_lt_of_le h5 (Nat.pow_le_pow_right (by decide) h4)
/-- the codes of the signs ahead of a unit, the nearest first -/
def pfs (t : Nat → Int32) (p : Nat) : Nat → List Int32
  | 0 => []
  | j + 1 => if t (p + j) = 33 then 20 :: pfs t p j else if t (p + j) = 45 then 21 :: pfs t p j else pfs t p j
theorem pfs_len (p : Nat) : ∀ j, (pfs t p j).length ≤ j
  | 0 => Nat.le_refl _
  | j + 1 => by
    have := pfs_len p j
    simp only [pfs]
    split
    · simp; omega
    · split
      · simp; omega
      · omega
theorem qGo_pfx (p : Nat) : ∀ j, p + j ≤ many → (∀ i, i < j → lPfx (t (p + i))) → qGo t many p (qM cs ws o cm false na) = qGo t many (p + j) (qM cs (pfs t p j ++ ws) o cm false na)
  | 0, _, _ => rfl
  | j + 1, hj, h => by
    rw [qGo_pfx p j (by omega) (fun i hi => h i (by omega))]
    have hc := h j (by omega)
    have hlt : p + j < many := by omega
    show qGo t many (p + j) _ = qGo t many (p + j + 1) _
    rcases hc with hc | hc | hc
    · have es : qSign (t (p + j)) (p + j) (qM cs (pfs t p j ++ ws) o cm false na) = (0, qM cs (20 :: (pfs t p j ++ ws)) o cm false na) := by
        rw [qSign_u q00 (by rw [hc]; decide) rfl, hc]
        unfold qUnit
        rw [if_neg (by decide), if_neg (by decide), if_pos (by decide), if_pos rfl]
      rw [qGo_step hlt (by rw [es]), es]
      simp only [pfs, if_pos hc, List.cons_append]
    · have es : qSign (t (p + j)) (p + j) (qM cs (pfs t p j ++ ws) o cm false na) = (0, qM cs (21 :: (pfs t p j ++ ws)) o cm false na) := by
        rw [qSign_u q00 (by rw [hc]; decide) rfl, hc]
        unfold qUnit
        rw [if_neg (by decide), if_neg (by decide), if_pos (by decide), if_neg (by decide)]
      have hn : ¬ t (p + j) = 33 := by rw [hc]; decide
      rw [qGo_step hlt (by rw [es]), es]
      simp only [pfs, if_neg hn, if_pos hc, List.cons_append]
    · have hn : ¬ t (p + j) = 33 := by rw [hc]; decide
      have hn2 : ¬ t (p + j) = 45 := by rw [hc]; decide
      rw [qGo_bl hlt hc]
      simp only [pfs, if_neg hn, if_neg hn2]
theorem lPx_in : ∀ (d p : Nat), p + d = many → (∀ i, p ≤ i → i < lPx t many p → lPfx (t i)) ∧ ¬ (lPx t many p < many ∧ lPfx (t (lPx t many p))) ∧ p ≤ lPx t many p ∧ lPx t many p ≤ many := by
  intro d
  induction d with
  | zero =>
    intro p h
    rw [lPx_n (by omega)]
    exact ⟨fun i h1 h2 => by omega, by omega, Nat.le_refl _, by omega⟩
  | succ d ih =>
    intro p h
    by_cases hb : lPfx (t p)
    · rw [lPx_s (by omega) hb]
      obtain ⟨i1, i2, i3, i4⟩ := ih (p + 1) (by omega)
      refine ⟨fun i h1 h2 => ?_, i2, by omega, i4⟩
      by_cases e : i = p
      · subst e; exact hb
      · exact i1 i (by omega) h2
    · rw [lPx_n (fun g => hb g.2)]
      exact ⟨fun i h1 h2 => by omega, fun g => hb g.2, Nat.le_refl _, by omega⟩
theorem lPre_snd (first : Nat) : ∀ j (S : lS), (lPre t first j S).2 = S.2
  | 0, S => rfl
  | j + 1, S => by
    simp only [lPre]
    rw [lPre_snd first j]
    split
    · rfl
    · split <;> rfl
theorem cCode_20 : cCode (20, 0) := ⟨20, rfl, Or.inr (Or.inr (by decide))⟩
theorem cCode_21 : cCode (21, 0) := ⟨21, rfl, Or.inr (Or.inr (by decide))⟩
theorem lPre_lR (first : Nat) : ∀ j (S : lS) (cs : List (Int32 × Int64)), lR S cs → cs.length + (pfs t first j).length ≤ 40 → lR (lPre t first j S) (cs ++ (pfs t first j).map (fun w => (w, 0)))
  | 0, S, cs, h, _ => by simp only [lPre, pfs, List.map_nil, List.append_nil]; exact h
  | j + 1, S, cs, h, hl => by
    simp only [lPre, pfs] at hl ⊢
    by_cases h1 : t (first + j) = 33
    · rw [if_pos h1] at hl ⊢
      rw [if_pos h1]
      simp only [List.length_cons] at hl
      have ha := h.add (p := (20, 0)) (by omega) cCode_20 (by decide)
      have hh := lPre_lR first j _ _ ha (by simp only [List.length_append, List.length_cons, List.length_nil]; omega)
      simp only [List.map_cons]
      rw [List.append_assoc] at hh
      exact hh
    · rw [if_neg h1] at hl ⊢
      rw [if_neg h1]
      by_cases h2 : t (first + j) = 45
      · rw [if_pos h2] at hl ⊢
        rw [if_pos h2]
        simp only [List.length_cons] at hl
        have ha := h.add (p := (21, 0)) (by omega) cCode_21 (by decide)
        have hh := lPre_lR first j _ _ ha (by simp only [List.length_append, List.length_cons, List.length_nil]; omega)
        simp only [List.map_cons]
        rw [List.append_assoc] at hh
        exact hh
      · rw [if_neg h2] at hl ⊢
        rw [if_neg h2]
        exact lPre_lR first j S cs h hl
theorem qLD_pfs (p : Nat) (hws : hdF 5 ws) : ∀ j (cs : List (Int32 × Int64)), qLD (nI (5 + 1)) (pfs t p j ++ ws) cs = (ws, cs ++ (pfs t p j).map (fun w => (w, 0)))
  | 0, cs => by simp only [pfs, List.nil_append, List.map_nil, List.append_nil]; exact qLD_stop hws
  | j + 1, cs => by
    simp only [pfs]
    split
    · simp only [List.cons_append, qLD, List.map_cons]
      rw [if_pos (by decide), qLD_pfs p hws j, List.append_assoc]
      rfl
    · split
      · simp only [List.cons_append, qLD, List.map_cons]
        rw [if_pos (by decide), qLD_pfs p hws j, List.append_assoc]
        rfl
      · exact qLD_pfs p hws j cs
end
