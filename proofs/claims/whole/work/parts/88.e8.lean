/-! call by call: the other half -/
section
variable {E : zE} {σ σ2 : zH} {c a : Nat} {K : zDc} {R : zCo}
theorem up4 {r : Nat → Int32} {i1 i2 i3 i4 : Nat} {x1 x2 x3 x4 : Int32} (h12 : i1 ≠ i2) (h13 : i1 ≠ i3) (h14 : i1 ≠ i4) (h23 : i2 ≠ i3) (h24 : i2 ≠ i4) (h34 : i3 ≠ i4) : (va_up (va_up (va_up (va_up r i1 x1) i2 x2) i3 x3) i4 x4 i4 = x4) ∧ (va_up (va_up (va_up (va_up r i1 x1) i2 x2) i3 x3) i4 x4 i1 = x1) ∧ (va_up (va_up (va_up (va_up r i1 x1) i2 x2) i3 x3) i4 x4 i2 = x2) ∧ (va_up (va_up (va_up (va_up r i1 x1) i2 x2) i3 x3) i4 x4 i3 = x3) ∧ ∀ j, j ≠ i1 → j ≠ i2 → j ≠ i3 → j ≠ i4 → va_up (va_up (va_up (va_up r i1 x1) i2 x2) i3 x3) i4 x4 j = r j :=
  ⟨zva_eq, by rw [va_up_ne' h14, va_up_ne' h13, va_up_ne' h12, zva_eq], by rw [va_up_ne' h24, va_up_ne' h23, zva_eq], by rw [va_up_ne' h34, zva_eq], fun j a b c d => by rw [va_up_ne' d, va_up_ne' c, va_up_ne' b, va_up_ne' a]⟩
theorem up3 {r : Nat → Int32} {i1 i2 i3 : Nat} {x1 x2 x3 : Int32} (h12 : i1 ≠ i2) (h13 : i1 ≠ i3) (h23 : i2 ≠ i3) : (va_up (va_up (va_up r i1 x1) i2 x2) i3 x3 i3 = x3) ∧ (va_up (va_up (va_up r i1 x1) i2 x2) i3 x3 i1 = x1) ∧ (va_up (va_up (va_up r i1 x1) i2 x2) i3 x3 i2 = x2) ∧ ∀ j, j ≠ i1 → j ≠ i2 → j ≠ i3 → va_up (va_up (va_up r i1 x1) i2 x2) i3 x3 j = r j :=
  ⟨zva_eq, by rw [va_up_ne' h13, va_up_ne' h12, zva_eq], by rw [va_up_ne' h23, zva_eq], fun j a b c => by rw [va_up_ne' c, va_up_ne' b, va_up_ne' a]⟩
theorem zr_28 {x : Int32} (h : zr x 268435456) : zB28 x := by
  obtain ⟨j, hj, rfl⟩ := zr_nI (n := 268435456) h
  intro i h1 h2
  rw [zbit_tb]
  have e : uN (nI j) = j := by
    have e := nI_toInt (n := j) (by omega)
    unfold uN
    rw [show (nI j).toUInt32.toNat = (nI j).toBitVec.toNat from rfl]
    have e2 : (nI j).toBitVec.toInt = (j : Int) := e
    rw [BitVec.toInt_eq_toNat_cond] at e2
    have e3 := (nI j).toBitVec.isLt
    split at e2 <;> omega
  rw [e]
  refine Nat.testBit_lt_two_pow ?_
  have : (2 : Nat) ^ 28 ≤ 2 ^ i := Nat.pow_le_pow_right (by decide) h1
  omega
theorem zr_mono {v : Int32} {m n : Int} (h : zr v m) (e : m ≤ n) : zr v n := ⟨h.1, by have := h.2; omega⟩
theorem w_observer (h : dAt σ c K) (hi : inv K R) (x y : Int32) : wOk Value.int E c a σ R YD_observer YM_observer 3 3 [.int x, .int y] := by
  obtain ⟨no, ns, nh, ng, ml, mk, ok, ok2, ok3, hs⟩ := hi.1
  have b0 := ok.1.2
  have b1 := ok.2.1.2
  have b2 := ok.2.2.1.2
  have b3 := ok.2.2.2.1.2
  by_cases hv : zr x 4 ∧ zr y 10
  · obtain ⟨v1, v2⟩ := hv
    obtain ⟨l, hl, rfl⟩ := zr_nI (n := 4) v1
    obtain ⟨w, hw, rfl⟩ := zr_nI (n := 10) v2
    by_cases hn : no = 8
    · exact ⟨(-4), R, dsame (k_Dobserver_full h l w hl hw ((kN0 ok hs).1.trans (by rw [hn]))) h hi, fun σ2 M hM => by subst hM; exact msame (k_Mobserver_full l w hl hw (ok.1.1.trans (by rw [hn]))) rfl⟩
    · obtain ⟨q0, q1, q2, q3⟩ := up3 (r := R.1) (i1 := 533 + 2 * no) (i2 := 534 + 2 * no) (i3 := 532) (x1 := nI l) (x2 := nI w) (x3 := nI (no + 1)) (by omega) (by omega) (by omega)
      exact ⟨(nI no), (va_up (va_up (va_up R.1 (533 + 2 * no) (nI l)) (534 + 2 * no) (nI w)) 532 (nI (no + 1)), R.2), (k_Dobserver h l w no hl hw (kN0 ok hs).1 (by omega)).mono (fun τ ⟨e, u⟩ => ⟨e, _, u, hi.n (st_obs ok ok2 ok3 hs l w hl (by omega) q0 q1 q2 (fun j hj => q3 j (by omega) (by omega) (by omega)))⟩), fun σ2 M hM => by subst hM; exact mgo (k_Mobserver l w no hl hw ok.1.1 (by omega)) rfl⟩
  · exact ⟨(-2), R, dsame (k_Dobserver_bad x y hv) h hi, fun σ2 M hM => by subst hM; exact msame (k_Mobserver_bad x y hv) rfl⟩
theorem w_guess (h : dAt σ c K) (hi : inv K R) (x y z : Int32) : wOk Value.int E c a σ R YD_guess YM_guess 3 3 [.int x, .int y, .int z] := by
  obtain ⟨no, ns, nh, ng, ml, mk, ok, ok2, ok3, hs⟩ := hi.1
  have b0 := ok.1.2
  have b1 := ok.2.1.2
  have b2 := ok.2.2.1.2
  have b3 := ok.2.2.2.1.2
  by_cases hv : zr x 4 ∧ zr y 4 ∧ zr z 4
  · obtain ⟨v1, v2, v3⟩ := hv
    obtain ⟨w, hw, rfl⟩ := zr_nI (n := 4) v1
    obtain ⟨l, hl, rfl⟩ := zr_nI (n := 4) v2
    obtain ⟨g, hg, rfl⟩ := zr_nI (n := 4) v3
    by_cases hn : ng = 12
    · exact ⟨(-4), R, dsame (k_Dguess_full h w l g hw hl hg ((kN3 ok hs).1.trans (by rw [hn]))) h hi, fun σ2 M hM => by subst hM; exact msame (k_Mguess_full w l g hw hl hg (ok.2.2.2.1.1.trans (by rw [hn]))) rfl⟩
    · obtain ⟨q0, q1, q2, q3, q4⟩ := up4 (r := R.1) (i1 := 781 + 3 * ng) (i2 := 782 + 3 * ng) (i3 := 783 + 3 * ng) (i4 := 780) (x1 := nI w) (x2 := nI l) (x3 := nI g) (x4 := nI (ng + 1)) (by omega) (by omega) (by omega) (by omega) (by omega) (by omega)
      exact ⟨(nI ng), (va_up (va_up (va_up (va_up R.1 (781 + 3 * ng) (nI w)) (782 + 3 * ng) (nI l)) (783 + 3 * ng) (nI g)) 780 (nI (ng + 1)), R.2), (k_Dguess h w l g ng hw hl hg (kN3 ok hs).1 (by omega)).mono (fun τ ⟨e, u⟩ => ⟨e, _, u, hi.n (st_guess ok ok2 ok3 hs w l g hw hl hg (by omega) q0 q1 q2 q3 (fun j hj => q4 j (by omega) (by omega) (by omega) (by omega)))⟩), fun σ2 M hM => by subst hM; exact mgo (k_Mguess w l g ng hw hl hg ok.2.2.2.1.1 (by omega)) rfl⟩
  · exact ⟨(-2), R, dsame (k_Dguess_bad x y z hv) h hi, fun σ2 M hM => by subst hM; exact msame (k_Mguess_bad x y z hv) rfl⟩
theorem w_sheet (h : dAt σ c K) (hi : inv K R) (x y z : Int32) : wOk Value.int E c a σ R YD_sheet YM_sheet 3 4 [.int x, .int y, .int z] := by
  obtain ⟨no, ns, nh, ng, ml, mk, ok, ok2, ok3, hs⟩ := hi.1
  have b0 := ok.1.2
  have b1 := ok.2.1.2
  have b2 := ok.2.2.1.2
  have b3 := ok.2.2.2.1.2
  by_cases hv : (zr x no ∧ pLast (rSn R.1) ns ≤ y.toInt ∧ y.toInt ≤ 999) ∧ zr z 268435456
  · obtain ⟨v1, v2⟩ := hv
    have hz : 0 ≤ (y : Int32).toInt := by
      have p := v1.2.1
      unfold pLast at p
      by_cases z : ns = 0
      · rw [if_pos z] at p; exact p
      · rw [if_neg z] at p
        have := ok2.2.2 (ns - 1) (by omega)
        omega
    by_cases hn : ns = 16
    · exact ⟨(-4), R, dsame (k_Dsheet_full h ok ok2 hs x y z v1 v2 hn) h hi, fun σ2 M hM => by subst hM; subst hn; exact msame (k_Msheet_full x y z no ok.1.1 b0 ok.2.1.1 v1 v2) rfl⟩
    · obtain ⟨q0, q1, q2, q3, q4⟩ := up4 (r := R.1) (i1 := 550 + 3 * ns) (i2 := 551 + 3 * ns) (i3 := 552 + 3 * ns) (i4 := 549) (x1 := z) (x2 := x) (x3 := y) (x4 := nI (ns + 1)) (by omega) (by omega) (by omega) (by omega) (by omega) (by omega)
      exact ⟨(nI ns), (va_up (va_up (va_up (va_up R.1 (550 + 3 * ns) z) (551 + 3 * ns) x) (552 + 3 * ns) y) 549 (nI (ns + 1)), R.2), (k_Dsheet h ok ok2 hs x y z v1 v2 (by omega)).mono (fun τ ⟨e, u⟩ => ⟨e, _, u, hi.n (st_sheet ok ok2 ok3 hs x y z (by omega) q0 q1 q2 q3 (zr_mono v1.1 (by omega)) (zr_28 v2) hz (fun j hj => q4 j (by omega) (by omega) (by omega) (by omega)))⟩), fun σ2 M hM => by subst hM; exact mgo (k_Msheet x y z no ns ok.1.1 b0 ok.2.1.1 b1 v1 v2 (by omega)) rfl⟩
  · exact ⟨(-2), R, dsame (k_Dsheet_bad h ok ok2 hs x y z hv) h hi, fun σ2 M hM => by subst hM; exact msame (k_Msheet_bad x y z no ns ok.1.1 b0 ok.2.1.1 b1 hv) rfl⟩
theorem w_draw (h : dAt σ c K) (hi : inv K R) (o y w dk g air : Int32) : wOk Value.int E c a σ R YD_draw YM_draw 6 9 [.int o, .int y, .int w, .int dk, .int g, .int air] := by
  obtain ⟨no, ns, nh, ng, ml, mk, ok, ok2, ok3, hs⟩ := hi.1
  have b0 := ok.1.2
  have b1 := ok.2.1.2
  have b2 := ok.2.2.1.2
  have b3 := ok.2.2.2.1.2
  by_cases hv : (zr o no ∧ pLast (rSn R.1) ns ≤ y.toInt ∧ y.toInt ≤ 999) ∧ (zr w 4 ∧ zr dk 16 ∧ zr g 4 ∧ zr air 5)
  · obtain ⟨v1, v2⟩ := hv
    have hz : 0 ≤ (y : Int32).toInt := by
      have p := v1.2.1
      unfold pLast at p
      by_cases z : ns = 0
      · rw [if_pos z] at p; exact p
      · rw [if_neg z] at p
        have := ok2.2.2 (ns - 1) (by omega)
        omega
    obtain ⟨o1, ho1, rfl⟩ := zr_nI (n := no) v1.1
    obtain ⟨w1, hw1, rfl⟩ := zr_nI (n := 4) v2.1
    obtain ⟨dk1, hdk1, rfl⟩ := zr_nI (n := 16) v2.2.1
    obtain ⟨g1, hg1, rfl⟩ := zr_nI (n := 4) v2.2.2.1
    obtain ⟨air1, hair1, rfl⟩ := zr_nI (n := 5) v2.2.2.2
    have z4 := ok.2.2.2.2.2.2.1 o1 ho1
    by_cases hn : ns = 16
    · refine ⟨(-4), R, dq (k_Ddraw_full h ok ok2 hs o1 y (rOl R.1 o1).toNatClampNeg (zr4 z4).2 (zr4 z4).1 w1 dk1 g1 air1 hw1 hdk1 hg1 hair1 ho1 v1 hn) hi, fun σ2 M hM => by subst hM; subst hn; exact msame (k_Mdraw_full (nI o1) y w1 dk1 g1 air1 hw1 hdk1 hg1 hair1 no ok.1.1 b0 ok.2.1.1 v1) rfl⟩
    · obtain ⟨q0, q1, q2, q3, q4⟩ := up4 (r := R.1) (i1 := 550 + 3 * ns) (i2 := 551 + 3 * ns) (i3 := 552 + 3 * ns) (i4 := 549) (x1 := (mDw (fun j => R.1 (372 + 40 * (rOl R.1 o1).toNatClampNeg + j)) (ml (rOl R.1 o1).toNatClampNeg) (mSeen (mPic R.1 w1 (nI dk1)) g1 air1) g1 (pSHm R.1 nh ns (nI o1) y) mk)) (x2 := nI o1) (x3 := y) (x4 := nI (ns + 1)) (by omega) (by omega) (by omega) (by omega) (by omega) (by omega)
      refine ⟨(nI ns), (va_up (va_up (va_up (va_up R.1 (550 + 3 * ns) (mDw (fun j => R.1 (372 + 40 * (rOl R.1 o1).toNatClampNeg + j)) (ml (rOl R.1 o1).toNatClampNeg) (mSeen (mPic R.1 w1 (nI dk1)) g1 air1) g1 (pSHm R.1 nh ns (nI o1) y) mk)) (551 + 3 * ns) (nI o1)) (552 + 3 * ns) y) 549 (nI (ns + 1)), R.2), (k_Ddraw h ok ok2 hs o1 y (rOl R.1 o1).toNatClampNeg (zr4 z4).2 (zr4 z4).1 w1 dk1 g1 air1 hw1 hdk1 hg1 hair1 ho1 v1 (by omega)).mono (fun τ ⟨e, Pc, Ey, u⟩ => ⟨e, _, u, ?_⟩), fun σ2 M hM => ?_⟩
      · have hh := hi.n (st_sheet ok ok2 ok3 hs (nI o1) y (mDw (fun j => R.1 (372 + 40 * (rOl R.1 o1).toNatClampNeg + j)) (ml (rOl R.1 o1).toNatClampNeg) (mSeen (mPic R.1 w1 (nI dk1)) g1 air1) g1 (pSHm R.1 nh ns (nI o1) y) mk) (by omega) q0 q1 q2 q3 (zr_mono v1.1 (by omega)) (mDw_28 _ _ _ _ _ _) hz (fun j hj => q4 j (by omega) (by omega) (by omega) (by omega)))
        exact hh.sc ⟨rfl, rfl, rfl, rfl, rfl⟩
      · subst hM
        exact (k_Mdraw no ns nh ng ml mk ok o1 y w1 dk1 g1 air1 hw1 hdk1 hg1 hair1 ho1 v1 (by omega)).mono (fun s z => z.po)
  · exact ⟨(-2), R, dsame (k_Ddraw_bad h ok ok2 hs o y w dk g air hv) h hi, fun σ2 M hM => by subst hM; exact msame (k_Mdraw_bad o y w dk g air no ns ok.1.1 b0 ok.2.1.1 b1 hv) rfl⟩
theorem w_show (h : dAt σ c K) (hi : inv K R) (x y z : Int32) : wOk Value.int E c a σ R YD_show YM_show 3 3 [.int x, .int y, .int z] := by
  obtain ⟨no, ns, nh, ng, ml, mk, ok, ok2, ok3, hs⟩ := hi.1
  have b0 := ok.1.2
  have b1 := ok.2.1.2
  have b2 := ok.2.2.1.2
  have b3 := ok.2.2.2.1.2
  by_cases hv : zr x ns ∧ zr y no ∧ (rSn R.1 x.toNatClampNeg).toInt ≤ z.toInt ∧ z.toInt ≤ 999
  · obtain ⟨v1, v2, v3⟩ := hv
    obtain ⟨s, hs1, rfl⟩ := zr_nI (n := ns) v1
    obtain ⟨p, hp, rfl⟩ := zr_nI (n := no) v2
    rw [nI_clamp (by omega)] at v3
    by_cases hn : nh = 60
    · exact ⟨(-4), R, dsame (k_Dshow_full h ok ok2 hs s p z hs1 hp v3 hn) h hi, fun σ2 M hM => by subst hM; exact msame (k_Mshow_full s p z no ns ok.1.1 b0 ok.2.1.1 b1 (ok.2.2.1.1.trans (by rw [hn])) hs1 hp v3) rfl⟩
    · obtain ⟨q0, q1, q2, q3, q4⟩ := up4 (r := R.1) (i1 := 599 + 3 * nh) (i2 := 600 + 3 * nh) (i3 := 601 + 3 * nh) (i4 := 598) (x1 := nI s) (x2 := nI p) (x3 := z) (x4 := nI (nh + 1)) (by omega) (by omega) (by omega) (by omega) (by omega) (by omega)
      exact ⟨(nI (nh + 1)), (va_up (va_up (va_up (va_up R.1 (599 + 3 * nh) (nI s)) (600 + 3 * nh) (nI p)) (601 + 3 * nh) z) 598 (nI (nh + 1)), R.2), (k_Dshow h ok ok2 hs s p z hs1 hp v3 (by omega)).mono (fun τ ⟨e, u⟩ => ⟨e, _, u, hi.n (st_show ok ok2 ok3 hs (nI s) (nI p) z (by omega) q0 q1 q2 q3 (fun j hj => q4 j (by omega) (by omega) (by omega) (by omega)))⟩), fun σ2 M hM => by subst hM; exact mgo (k_Mshow s p z no ns nh ok.1.1 b0 ok.2.1.1 b1 ok.2.2.1.1 hs1 hp v3 (by omega)) rfl⟩
  · exact ⟨(-2), R, dsame (k_Dshow_bad h ok ok2 hs x y z hv) h hi, fun σ2 M hM => by subst hM; exact msame (k_Mshow_bad x y z no ns ok.1.1 b0 ok.2.1.1 b1 hv) rfl⟩
theorem w_of (h : dAt σ c K) (hi : inv K R) (x y : Int32) : wOk Value.int E c a σ R YD_of YM_of 5 5 [.int x, .int y] := by
  obtain ⟨no, ns, nh, ng, ml, mk, ok, ok2, ok3, hs⟩ := hi.1
  have b0 := ok.1.2
  have b1 := ok.2.1.2
  have b2 := ok.2.2.1.2
  have b3 := ok.2.2.2.1.2
  by_cases hv : zr x ns ∧ zr y 4
  · obtain ⟨v1, v2⟩ := hv
    obtain ⟨s, hs1, rfl⟩ := zr_nI (n := ns) v1
    obtain ⟨w, hw, rfl⟩ := zr_nI (n := 4) v2
    match w, hw with
    | 0, _ => exact ⟨_, R, dsame (k_Dof0 h ok hs s hs1) h hi, fun σ2 M hM => by subst hM; exact msame (k_Mof0 s nh ns ok.2.2.1.1 b2 ok.2.1.1 b1 hs1) rfl⟩
    | 1, _ => exact ⟨_, R, dsame (k_Dof1 h ok hs s hs1) h hi, fun σ2 M hM => by subst hM; exact msame (k_Mof1 s nh ns ok.2.2.1.1 b2 ok.2.1.1 b1 hs1) rfl⟩
    | 2, _ => exact ⟨_, R, dsame (k_Dof2 h ok hs s hs1) h hi, fun σ2 M hM => by subst hM; exact msame (k_Mof2 s nh ns ok.2.2.1.1 b2 ok.2.1.1 b1 hs1) rfl⟩
    | 3, _ => exact ⟨_, R, dsame (k_Dof3 h ok hs s hs1) h hi, fun σ2 M hM => by subst hM; exact msame (k_Mof3 s nh ns ok.2.2.1.1 b2 ok.2.1.1 b1 hs1) rfl⟩
  · exact ⟨(-2), R, dsame (k_Dof_bad h ok hs x y hv) h hi, fun σ2 M hM => by subst hM; exact msame (k_Mof_bad x y ns ok.2.1.1 b1 hv) rfl⟩
theorem w_took (h : dAt σ c K) (hi : inv K R) (x y : Int32) : wOk Value.int E c a σ R YD_took YM_took 6 4 [.int x, .int y] := by
  obtain ⟨no, ns, nh, ng, ml, mk, ok, ok2, ok3, hs⟩ := hi.1
  have b0 := ok.1.2
  have b1 := ok.2.1.2
  have b2 := ok.2.2.1.2
  have b3 := ok.2.2.2.1.2
  by_cases hv : zr x ns ∧ zr y 4
  · obtain ⟨v1, v2⟩ := hv
    obtain ⟨s, hs1, rfl⟩ := zr_nI (n := ns) v1
    obtain ⟨w, hw, rfl⟩ := zr_nI (n := 4) v2
    match w, hw with
    | 0, _ => exact ⟨_, R, dsame (k_Dtook0 h ok ok2 hs s hs1) h hi, fun σ2 M hM => by subst hM; exact mq (k_Mtook0 s ns ok.2.1.1 b1 hs1 nh ok.2.2.1.1 b2) rfl⟩
    | 1, _ => exact ⟨_, R, dsame (k_Dtook1 h ok ok2 hs s hs1) h hi, fun σ2 M hM => by subst hM; exact mq (k_Mtook1 s ns ok.2.1.1 b1 hs1 nh ok.2.2.1.1 b2) rfl⟩
    | 2, _ => exact ⟨_, R, dsame (k_Dtook2 h ok ok2 hs s hs1) h hi, fun σ2 M hM => by subst hM; exact mq (k_Mtook2 s ns ok.2.1.1 b1 hs1 nh ok.2.2.1.1 b2) rfl⟩
    | 3, _ => exact ⟨_, R, dsame (k_Dtook3 h ok ok2 hs s hs1) h hi, fun σ2 M hM => by subst hM; exact mq (k_Mtook3 s ns ok.2.1.1 b1 hs1 nh ok.2.2.1.1 b2) rfl⟩
  · exact ⟨(-2), R, dsame (k_Dtook_bad h ok hs x y hv) h hi, fun σ2 M hM => by subst hM; exact msame (k_Mtook_bad x y ns ok.2.1.1 b1 hv) rfl⟩
theorem w_agree (h : dAt σ c K) (hi : inv K R) (x y z : Int32) : wOk Value.int E c a σ R YD_agree YM_agree 5 4 [.int x, .int y, .int z] := by
  obtain ⟨no, ns, nh, ng, ml, mk, ok, ok2, ok3, hs⟩ := hi.1
  have b0 := ok.1.2
  have b1 := ok.2.1.2
  have b2 := ok.2.2.1.2
  have b3 := ok.2.2.2.1.2
  by_cases hv : (zr x ns ∧ zr y ns ∧ x ≠ y) ∧ zr z 2
  · obtain ⟨v1, v2⟩ := hv
    obtain ⟨p, hp, rfl⟩ := zr_nI (n := ns) v1.1
    obtain ⟨q, hq, rfl⟩ := zr_nI (n := ns) v1.2.1
    have hne : p ≠ q := fun z => v1.2.2 (by rw [z])
    obtain ⟨w, hw, rfl⟩ := zr_nI (n := 2) v2
    match w, hw with
    | 0, _ => exact ⟨_, R, dsame (k_Dagree0 h ok ok2 hs p q hp hq hne) h hi, fun σ2 M hM => by subst hM; exact msame (k_Magree0 p q nh ns ok.2.2.1.1 b2 ok.2.1.1 b1 hp hq hne) rfl⟩
    | 1, _ => exact ⟨_, R, dsame (k_Dagree1 h ok ok2 hs p q hp hq hne) h hi, fun σ2 M hM => by subst hM; exact msame (k_Magree1 p q nh ns ok.2.2.1.1 b2 ok.2.1.1 b1 hp hq hne) rfl⟩
  · exact ⟨(-2), R, dsame (k_Dagree_bad h ok hs x y z hv) h hi, fun σ2 M hM => by subst hM; exact msame (k_Magree_bad x y z ns ok.2.1.1 b1 hv) rfl⟩
theorem w_chance (h : dAt σ c K) (hi : inv K R) (x y : Int32) : wOk Value.int E c a σ R YD_chance YM_chance 3 4 [.int x, .int y] := by
  obtain ⟨no, ns, nh, ng, ml, mk, ok, ok2, ok3, hs⟩ := hi.1
  have b0 := ok.1.2
  have b1 := ok.2.1.2
  have b2 := ok.2.2.1.2
  have b3 := ok.2.2.2.1.2
  by_cases hv : zr x ns ∧ zr y ns ∧ x ≠ y
  · have v1 := hv
    obtain ⟨p, hp, rfl⟩ := zr_nI (n := ns) v1.1
    obtain ⟨q, hq, rfl⟩ := zr_nI (n := ns) v1.2.1
    have hne : p ≠ q := fun z => v1.2.2 (by rw [z])
    exact ⟨1, (R.1, R.2.1, R.2.2.1, mUp (rSl R.1 p) (rSl R.1 q), mLow (rSl R.1 p) (rSl R.1 q)), (k_Dchance h ok ok2 hs p q hp hq hne).mono (fun τ ⟨e, u⟩ => ⟨e, _, u, hi.1, hi.2.1, rfl, rfl⟩), fun σ2 M hM => by subst hM; exact mgo (k_Mchance p q ns ok.2.1.1 b1 hp hq hne) rfl⟩
  · exact ⟨(-2), R, dsame (k_Dchance_bad h ok hs x y hv) h hi, fun σ2 M hM => by subst hM; exact msame (k_Mchance_bad x y ns ok.2.1.1 b1 hv) rfl⟩
theorem w_part (h : dAt σ c K) (hi : inv K R) (x : Int32) : wOk Value.long E c a σ R YD_part YM_part 2 1 [.int x] := by
  obtain ⟨no, ns, nh, ng, ml, mk, ok, ok2, ok3, hs⟩ := hi.1
  have b0 := ok.1.2
  have b1 := ok.2.1.2
  have b2 := ok.2.2.1.2
  have b3 := ok.2.2.2.1.2
  by_cases hv : zr x 2
  · obtain ⟨w, hw, rfl⟩ := zr_nI (n := 2) hv
    match w, hw with
    | 0, _ => exact ⟨R.2.2.2.1, R, (dsame (k_Dpart0 h) h hi).res (by rw [hi.2.2.1]), fun σ2 M hM => by subst hM; exact msame k_Mpart0 rfl⟩
    | 1, _ => exact ⟨R.2.2.2.2, R, (dsame (k_Dpart1 h) h hi).res (by rw [hi.2.2.2]), fun σ2 M hM => by subst hM; exact msame k_Mpart1 rfl⟩
  · exact ⟨(-1), R, dsame (k_Dpart_bad x hv) h hi, fun σ2 M hM => by subst hM; exact msame (k_Mpart_bad x hv) rfl⟩
theorem w_own (h : dAt σ c K) (hi : inv K R) (x : Int32) : wOk Value.int E c a σ R YD_own YM_own 2 2 [.int x] := by
  obtain ⟨no, ns, nh, ng, ml, mk, ok, ok2, ok3, hs⟩ := hi.1
  have b0 := ok.1.2
  have b1 := ok.2.1.2
  have b2 := ok.2.2.1.2
  have b3 := ok.2.2.2.1.2
  by_cases hv : zr x 29
  · obtain ⟨v, hv1, rfl⟩ := zr_nI (n := 29) hv
    exact ⟨(R.1 779), (va_up R.1 779 (nI v), R.2), ((k_Down h v hv1).res (by rw [hs.2.2.2.2.2.1])).mono (fun τ ⟨e, u⟩ => ⟨e, _, u, hi.n (st_own ok ok2 ok3 hs (nI v) zva_eq (fun j hj => va_up_ne' hj))⟩), fun σ2 M hM => by subst hM; exact mgo (k_Mown v hv1) rfl⟩
  · exact ⟨(-2), R, dsame (k_Down_bad x hv) h hi, fun σ2 M hM => by subst hM; exact msame (k_Mown_bad x hv) rfl⟩
theorem w_error (h : dAt σ c K) (hi : inv K R) (x : Int32) : wOk Value.int E c a σ R YD_error YM_error 2 2 [.int x] := by
  obtain ⟨no, ns, nh, ng, ml, mk, ok, ok2, ok3, hs⟩ := hi.1
  have b0 := ok.1.2
  have b1 := ok.2.1.2
  have b2 := ok.2.2.1.2
  have b3 := ok.2.2.2.1.2
  by_cases hv : zr x 29
  · obtain ⟨v, hv1, rfl⟩ := zr_nI (n := 29) hv
    exact ⟨(R.1 817), (va_up R.1 817 (nI v), R.2), ((k_Derror h v hv1).res (by rw [hs.2.2.2.2.2.2])).mono (fun τ ⟨e, u⟩ => ⟨e, _, u, hi.n (st_error ok ok2 ok3 hs (nI v) zva_eq (fun j hj => va_up_ne' hj))⟩), fun σ2 M hM => by subst hM; exact mgo (k_Merror v hv1) rfl⟩
  · exact ⟨(-2), R, dsame (k_Derror_bad x hv) h hi, fun σ2 M hM => by subst hM; exact msame (k_Merror_bad x hv) rfl⟩
theorem w_ways (h : dAt σ c K) (hi : inv K R) : wOk Value.long E c a σ R YD_ways YM_ways 5 3 [] := by
  obtain ⟨no, ns, nh, ng, ml, mk, ok, ok2, ok3, hs⟩ := hi.1
  have b0 := ok.1.2
  have b1 := ok.2.1.2
  have b2 := ok.2.2.1.2
  have b3 := ok.2.2.2.1.2
  exact ⟨_, R, dsame (k_Dways h ok ok2 hs) h hi, fun σ2 M hM => by subst hM; exact mgo (k_Mways ns nh ok.2.2.1.1 b2 ok.2.1.1 b1) rfl⟩
theorem w_allows (h : dAt σ c K) (hi : inv K R) (x y : Int32) : wOk Value.int E c a σ R YD_allows YM_allows 7 10 [.int x, .int y] := by
  obtain ⟨no, ns, nh, ng, ml, mk, ok, ok2, ok3, hs⟩ := hi.1
  have b0 := ok.1.2
  have b1 := ok.2.1.2
  have b2 := ok.2.2.1.2
  have b3 := ok.2.2.2.1.2
  by_cases hv : zr x ng ∧ zr y ns
  · obtain ⟨v1, v2⟩ := hv
    obtain ⟨p, hp, rfl⟩ := zr_nI (n := ng) v1
    obtain ⟨q, hq, rfl⟩ := zr_nI (n := ns) v2
    exact ⟨_, R, dq (k_Dallows h ok ok2 hs p q hp hq) hi, fun σ2 M hM => by subst hM; exact mq (k_Mallows no ns nh ng ml mk ok p q hp hq) rfl⟩
  · exact ⟨(-2), R, dsame (k_Dallows_bad h ok hs x y hv) h hi, fun σ2 M hM => by subst hM; exact msame (k_Mallows_bad x y ns ng ok.2.1.1 b1 ok.2.2.2.1.1 b3 hv) rfl⟩
theorem w_mayBe (h : dAt σ c K) (hi : inv K R) (x : Int32) : wOk Value.int E c a σ R YD_mayBe YM_mayBe 8 11 [.int x] := by
  obtain ⟨no, ns, nh, ng, ml, mk, ok, ok2, ok3, hs⟩ := hi.1
  have b0 := ok.1.2
  have b1 := ok.2.1.2
  have b2 := ok.2.2.1.2
  have b3 := ok.2.2.2.1.2
  by_cases hv : zr x (2 ^ ns : Nat)
  · exact ⟨_, R, dq (k_DmayBe h ok ok2 hs x hv) hi, fun σ2 M hM => by subst hM; exact mq (k_MmayBe no ns nh ng ml mk ok x hv) rfl⟩
  · exact ⟨(-2), R, dsame (k_DmayBe_bad h ok hs x hv) h hi, fun σ2 M hM => by subst hM; exact msame (k_MmayBe_bad x ns ok.2.1.1 b1 hv) rfl⟩
theorem w_there (h : dAt σ c K) (hi : inv K R) (x y : Int32) : wOk Value.int E c a σ R YD_there YM_there 8 12 [.int x, .int y] := by
  obtain ⟨no, ns, nh, ng, ml, mk, ok, ok2, ok3, hs⟩ := hi.1
  have b0 := ok.1.2
  have b1 := ok.2.1.2
  have b2 := ok.2.2.1.2
  have b3 := ok.2.2.2.1.2
  by_cases hv : zr x (2 ^ ns : Nat) ∧ zr y 2
  · exact ⟨_, R, dq (k_Dthere h ok ok2 hs x y hv.1 hv.2) hi, fun σ2 M hM => by subst hM; exact mq (k_Mthere no ns nh ng ml mk ok x y hv.1 hv.2) rfl⟩
  · exact ⟨(-2), R, dsame (k_Dthere_bad h ok hs x y hv) h hi, fun σ2 M hM => by subst hM; exact msame (k_Mthere_bad x y ns ok.2.1.1 b1 hv) rfl⟩
theorem w_parts (h : dAt σ c K) (hi : inv K R) (x y : Int32) : wOk Value.int E c a σ R YD_parts YM_parts 8 12 [.int x, .int y] := by
  obtain ⟨no, ns, nh, ng, ml, mk, ok, ok2, ok3, hs⟩ := hi.1
  have b0 := ok.1.2
  have b1 := ok.2.1.2
  have b2 := ok.2.2.1.2
  have b3 := ok.2.2.2.1.2
  by_cases hv : zr x (2 ^ ns : Nat) ∧ zr y 2
  · exact ⟨_, R, dq (k_Dparts h ok ok2 hs x y hv.1 hv.2) hi, fun σ2 M hM => by subst hM; exact mqw (k_Mparts no ns nh ng ml mk ok x y hv.1 hv.2) rfl⟩
  · exact ⟨(-2), R, dsame (k_Dparts_bad h ok hs x y hv) h hi, fun σ2 M hM => by subst hM; exact msame (k_Mparts_bad x y ns ok.2.1.1 b1 hv) rfl⟩
theorem w_weighed (h : dAt σ c K) (hi : inv K R) (x : Int32) : wOk Value.int E c a σ R YD_weighed YM_weighed 4 4 [.int x] := by
  obtain ⟨no, ns, nh, ng, ml, mk, ok, ok2, ok3, hs⟩ := hi.1
  have b0 := ok.1.2
  have b1 := ok.2.1.2
  have b2 := ok.2.2.1.2
  have b3 := ok.2.2.2.1.2
  by_cases hv : zr x 2
  · obtain ⟨w, hw, rfl⟩ := zr_nI (n := 2) hv
    match w, hw with
    | 0, _ => exact ⟨_, R, dsame (k_Dweighed0 h ok hs) h hi, fun σ2 M hM => by subst hM; exact msame (k_Mweighed0 ns ok.2.1.1 b1 ok.2.2.2.2.2.2.2.1) rfl⟩
    | 1, _ => exact ⟨_, R, dsame (k_Dweighed1 h ok hs) h hi, fun σ2 M hM => by subst hM; exact msame (k_Mweighed1 ns ok.2.1.1 b1 ok.2.2.2.2.2.2.2.1) rfl⟩
  · by_cases hv2 : 10 ≤ x.toInt ∧ x.toInt ≤ 37
    · obtain ⟨j, hj, rfl⟩ := zr_nI (n := 38) (v := x) ⟨by omega, by omega⟩
      rw [nI_toInt (by omega)] at hv2
      obtain ⟨l, rfl⟩ : ∃ l, j = l + 10 := ⟨j - 10, by omega⟩
      exact ⟨_, R, dsame (k_Dweighed_line h ok hs l (by omega)) h hi, fun σ2 M hM => by subst hM; exact msame (k_Mweighed_line l (by omega) ns ok.2.1.1 b1 ok.2.2.2.2.2.2.2.1) rfl⟩
    · exact ⟨(-1000), R, dsame (k_Dweighed_bad x hv hv2) h hi, fun σ2 M hM => by subst hM; exact msame (k_Mweighed_bad x hv hv2) rfl⟩
theorem w_season (h : dAt σ c K) (hi : inv K R) (x y : Int32) : wOk Value.int E c a σ R YD_season YM_season 3 3 [.int x, .int y] := by
  obtain ⟨no, ns, nh, ng, ml, mk, ok, ok2, ok3, hs⟩ := hi.1
  have b0 := ok.1.2
  have b1 := ok.2.1.2
  have b2 := ok.2.2.1.2
  have b3 := ok.2.2.2.1.2
  by_cases hv : zr x (2 ^ ns : Nat) ∧ zr y (2 ^ ns : Nat) ∧ x ≠ 0 ∧ y ≠ 0 ∧ x &&& y = 0
  · exact ⟨_, R, dsame (k_Dseason h ok hs x y hv) h hi, fun σ2 M hM => by subst hM; exact msame (k_Mseason x y ns ok.2.1.1 b1 hv) rfl⟩
  · exact ⟨(-2), R, dsame (k_Dseason_bad h ok hs x y hv) h hi, fun σ2 M hM => by subst hM; exact msame (k_Mseason_bad x y ns ok.2.1.1 b1 hv) rfl⟩
theorem w_image (h : dAt σ c K) (hi : inv K R) (x : Int32) : wOk Value.int E c a σ R YD_image YM_image 5 2 [.int x] := by
  obtain ⟨no, ns, nh, ng, ml, mk, ok, ok2, ok3, hs⟩ := hi.1
  have b0 := ok.1.2
  have b1 := ok.2.1.2
  have b2 := ok.2.2.1.2
  have b3 := ok.2.2.2.1.2
  by_cases hv : zr x 2
  · obtain ⟨i, hi2, rfl⟩ := zr_nI (n := 2) hv
    refine ⟨1, (R.1, zcp R.1 R.2.1 (818 * i) 818, va_up R.2.2.1 i 1, R.2.2.2), (k_Dimage h i hi2 (fun l hl => (hs.2.2.1 l hl).2.2.2.1)).mono (fun τ ⟨e, S', u, q⟩ => ⟨e, _, u, hi.1, fun k hk => ?_, hi.2.2⟩), fun σ2 M hM => by subst hM; exact mgo (k_Mimage i hi2) rfl⟩
    show va_up K.k i 1 k = va_up R.2.2.1 i 1 k ∧ (va_up R.2.2.1 i 1 k = 0 ∨ va_up R.2.2.1 i 1 k = 1) ∧ (¬ va_up R.2.2.1 i 1 k = 0 → stI (va_up K.i i S' k) (fun j => zcp R.1 R.2.1 (818 * i) 818 (818 * k + j)))
    by_cases hki : k = i
    · subst hki
      rw [zva_eq, zva_eq, zva_eq]
      refine ⟨rfl, Or.inr rfl, fun _ => st_cg' (st_eq hi.1 q) (fun j hj => ?_)⟩
      show zcp R.1 R.2.1 (818 * k) 818 (818 * k + j) = _
      unfold zcp
      rw [if_pos (by omega), Nat.add_sub_cancel_left]
    · rw [va_up_ne' hki, va_up_ne' hki, va_up_ne' hki]
      obtain ⟨z1, z2, z3⟩ := hi.2.1 k hk
      refine ⟨z1, z2, fun z => st_cg' (z3 z) (fun j hj => ?_)⟩
      show zcp R.1 R.2.1 (818 * i) 818 (818 * k + j) = _
      unfold zcp
      rw [if_neg (by omega)]
  · exact ⟨(-2), R, dsame (k_Dimage_bad x hv) h hi, fun σ2 M hM => by subst hM; exact msame (k_Mimage_bad x hv) rfl⟩
theorem w_from (h : dAt σ c K) (hi : inv K R) (x : Int32) : wOk Value.int E c a σ R YD_from YM_from 5 2 [.int x] := by
  obtain ⟨no, ns, nh, ng, ml, mk, ok, ok2, ok3, hs⟩ := hi.1
  have b0 := ok.1.2
  have b1 := ok.2.1.2
  have b2 := ok.2.2.1.2
  have b3 := ok.2.2.2.1.2
  by_cases hv : zr x 2
  · obtain ⟨i, hi2, rfl⟩ := zr_nI (n := 2) hv
    obtain ⟨z1, z2, z3⟩ := hi.2.1 i hi2
    by_cases hk : R.2.2.1 i = 0
    · exact ⟨(-3), R, dsame (k_Dfrom_no h i hi2 (z1.trans hk)) h hi, fun σ2 M hM => by subst hM; exact msame (k_Mfrom_no i hi2 hk) rfl⟩
    · obtain ⟨no', ns', nh', ng', ml', mk', ok', ok2', ok3', hs'⟩ := z3 hk
      exact ⟨1, (zfl (fun j => R.2.1 (818 * i + j)) R.1 818, R.2), (k_Dfrom h i hi2 (by rw [z1]; exact hk) (fun l hl => (hs'.2.2.1 l hl).2.2.2.1)).mono (fun τ ⟨e, S', u, q⟩ => ⟨e, _, u, hi.n (st_cg' (st_eq (z3 hk) q) (fun j hj => zfl_lt hj))⟩), fun σ2 M hM => by subst hM; exact mgo (k_Mfrom i hi2 hk) rfl⟩
  · exact ⟨(-2), R, dsame (k_Dfrom_bad x hv) h hi, fun σ2 M hM => by subst hM; exact msame (k_Mfrom_bad x hv) rfl⟩
theorem w_count (h : dAt σ c K) (hi : inv K R) (x : Int32) : wOk Value.int E c a σ R YD_count YM_count 1 2 [.int x] := by
  obtain ⟨no, ns, nh, ng, ml, mk, ok, ok2, ok3, hs⟩ := hi.1
  have b0 := ok.1.2
  have b1 := ok.2.1.2
  have b2 := ok.2.2.1.2
  have b3 := ok.2.2.2.1.2
  by_cases hv : zr x 4
  · obtain ⟨w, hw, rfl⟩ := zr_nI (n := 4) hv
    match w, hw with
    | 0, _ => exact ⟨_, R, dsame (k_Dcount0 h ok hs) h hi, fun σ2 M hM => by subst hM; exact msame k_Mcount0 rfl⟩
    | 1, _ => exact ⟨_, R, dsame (k_Dcount1 h ok hs) h hi, fun σ2 M hM => by subst hM; exact msame k_Mcount1 rfl⟩
    | 2, _ => exact ⟨_, R, dsame (k_Dcount2 h ok hs) h hi, fun σ2 M hM => by subst hM; exact msame k_Mcount2 rfl⟩
    | 3, _ => exact ⟨_, R, dsame (k_Dcount3 h ok hs) h hi, fun σ2 M hM => by subst hM; exact msame k_Mcount3 rfl⟩
  · exact ⟨(-2), R, dsame (k_Dcount_bad x hv) h hi, fun σ2 M hM => by subst hM; exact msame (k_Mcount_bad x hv) rfl⟩
theorem w_digest (h : dAt σ c K) (hi : inv K R) : wOk Value.long E c a σ R YD_digest YM_digest 5 3 [] := by
  obtain ⟨no, ns, nh, ng, ml, mk, ok, ok2, ok3, hs⟩ := hi.1
  have b0 := ok.1.2
  have b1 := ok.2.1.2
  have b2 := ok.2.2.1.2
  have b3 := ok.2.2.2.1.2
  refine ⟨(mDig R.1 R.2.2.2.1 R.2.2.2.2 no ns nh ng ml), R, (dsame (k_Ddigest h ok hs) h hi).res (by rw [hi.2.2.1, hi.2.2.2]), fun σ2 M hM => ?_⟩
  subst hM
  exact mgo (k_Mdigest no ns nh ng ml ok.1.1 b0 ok.2.1.1 b1 ok.2.2.1.1 b2 ok.2.2.2.1.1 b3 (fun l hl => (ok.2.2.2.2.1 l hl).1) (fun l hl => (ok.2.2.2.2.1 l hl).2)) rfl
end
