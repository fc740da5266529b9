/-! call by call: the component answers as the reference does, and the two stand to each other as before -/
def wOk {α : Type} (f : α → Value) (E : zE) (c a : Nat) (σ : zH) (R : zCo) (YD YM : zY) (d1 d2 : Nat) (as : List Value) : Prop :=
  ∃ (v : α) (R' : zCo), zX E YD d1 (.ref c :: as) σ (some (f v)) (dP σ c R') ∧ ∀ (σ2 : zH) (M : zMo), mCo M = R → zX E YM d2 (.ref a :: as) (mw σ2 a M) (some (f v)) (mPo σ2 a R')
theorem inv.n {K : zDc} {R : zCo} (hi : inv K R) {S' : zSc} {r' : Nat → Int32} (h : stI S' r') : inv (K.sn S') (r', R.2) := ⟨h, hi.2⟩
theorem mP.po {σ s : zH} {a : Nat} {M : zMo} {S : zS} (h : mP σ a M S s) : mPo σ a (mCo M) s := by
  obtain ⟨M', h1, ⟨h2, h3, h4, h5, h6, h7, h8⟩, _⟩ := h
  exact ⟨M', h1, by unfold mCo; rw [h2, h3, h4, h6, h7]⟩
theorem st_cg' {S : zSc} {r r' : Nat → Int32} (h : stI S r) (e : ∀ j, j < 818 → r' j = r j) : stI S r' := by
  obtain ⟨no, ns, nh, ng, ml, mk, ok, ok2, ok3, hs⟩ := h
  exact st_cg ok ok2 ok3 hs e
theorem zr128 {v : Int32} (h : zr v 128) : ¬ v = -1 := fun e => by
  have := h.1
  rw [e] at this
  exact absurd this (by decide)
section
variable {E : zE} {σ σ2 : zH} {c a : Nat} {K : zDc} {R : zCo}
theorem dsame {Y : zY} {d : Nat} {as : List Value} {r : Option Value} (hk : zM E Y d as σ r σ) (h : dAt σ c K) (hi : inv K R) : zX E Y d as σ r (dP σ c R) := hk.post ⟨zsm.rfl', K, h, hi⟩
theorem dq {Y : zY} {d : Nat} {as : List Value} {r : Option Value} (hk : zX E Y d as σ r (dQ σ c K)) (hi : inv K R) : zX E Y d as σ r (dP σ c R) := hk.mono (fun s hs => hs.dP hi)
theorem msame {Y : zY} {d : Nat} {as : List Value} {r : Option Value} {M : zMo} (hk : zM E Y d as (mw σ2 a M) r (mw σ2 a M)) (hM : mCo M = R) : zX E Y d as (mw σ2 a M) r (mPo σ2 a R) := hk.post ⟨M, rfl, hM⟩
theorem mq {Y : zY} {d : Nat} {as : List Value} {r : Option Value} {M : zMo} (hk : zX E Y d as (mw σ2 a M) r (mQ σ2 a M)) (hM : mCo M = R) : zX E Y d as (mw σ2 a M) r (mPo σ2 a R) := hk.mono (fun s hs => hM ▸ hs.po)
theorem mqw {Y : zY} {d : Nat} {as : List Value} {r : Option Value} {M : zMo} (hk : zX E Y d as (mw σ2 a M) r (mQw σ2 a M)) (hM : mCo M = R) : zX E Y d as (mw σ2 a M) r (mPo σ2 a R) := hk.mono (fun s hs => hM ▸ hs.po)
theorem mgo {Y : zY} {d : Nat} {as : List Value} {r : Option Value} {M M' : zMo} (hk : zM E Y d as (mw σ2 a M) r (mw σ2 a M')) (hM : mCo M' = R) : zX E Y d as (mw σ2 a M) r (mPo σ2 a R) := hk.post ⟨M', rfl, hM⟩
theorem w_shade (h : dAt σ c K) (hi : inv K R) (x y z : Int32) : wOk Value.int E c a σ R YD_shade YM_shade 3 3 [.int x, .int y, .int z] := by
  obtain ⟨no, ns, nh, ng, ml, mk, ok, ok2, ok3, hs⟩ := hi.1
  have b0 := ok.1.2
  have b1 := ok.2.1.2
  have b2 := ok.2.2.1.2
  have b3 := ok.2.2.2.1.2
  by_cases hv : zr x 4 ∧ zr y 81 ∧ zr z 16
  · obtain ⟨v1, v2, v3⟩ := hv
    obtain ⟨w, hw, rfl⟩ := zr_nI (n := 4) v1
    obtain ⟨p, hp, rfl⟩ := zr_nI (n := 81) v2
    obtain ⟨s, hs1, rfl⟩ := zr_nI (n := 16) v3
    refine ⟨(R.1 (81 * w + p)), (va_up R.1 (81 * w + p) (nI s), R.2), ((k_Dshade h w p s hw hp hs1).res (by rw [(hs.1 w hw).1 p hp])).mono (fun τ ⟨e, q⟩ => ⟨e, _, q, hi.n (st_shade ok ok2 ok3 hs w p s hw hp hs1 zva_eq (fun j hj => va_up_ne' hj))⟩), fun σ2 M hM => by subst hM; exact mgo (k_Mshade w p s hw hp hs1) rfl⟩
  · exact ⟨(-2), R, dsame (k_Dshade_bad h x y z hv) h hi, fun σ2 M hM => by subst hM; exact msame (k_Mshade_bad x y z hv) rfl⟩
theorem w_green (h : dAt σ c K) (hi : inv K R) (x y z : Int32) : wOk Value.int E c a σ R YD_green YM_green 3 3 [.int x, .int y, .int z] := by
  obtain ⟨no, ns, nh, ng, ml, mk, ok, ok2, ok3, hs⟩ := hi.1
  have b0 := ok.1.2
  have b1 := ok.2.1.2
  have b2 := ok.2.2.1.2
  have b3 := ok.2.2.2.1.2
  by_cases hv : zr x 4 ∧ zr y 9 ∧ zr z 512
  · obtain ⟨v1, v2, v3⟩ := hv
    obtain ⟨w, hw, rfl⟩ := zr_nI (n := 4) v1
    obtain ⟨p, hp, rfl⟩ := zr_nI (n := 9) v2
    obtain ⟨q, hq, rfl⟩ := zr_nI (n := 512) v3
    refine ⟨(R.1 (324 + 9 * w + p)), (va_up R.1 (324 + 9 * w + p) (nI q), R.2), ((k_Dgreen h w p q hw hp hq).res (by rw [(hs.1 w hw).2 p hp])).mono (fun τ ⟨e, u⟩ => ⟨e, _, u, hi.n (st_green ok ok2 ok3 hs w p q hw hp zva_eq (fun j hj => va_up_ne' hj))⟩), fun σ2 M hM => by subst hM; exact mgo (k_Mgreen w p q hw hp hq) rfl⟩
  · exact ⟨(-2), R, dsame (k_Dgreen_bad h x y z hv) h hi, fun σ2 M hM => by subst hM; exact msame (k_Mgreen_bad x y z hv) rfl⟩
theorem w_mark (h : dAt σ c K) (hi : inv K R) (x y : Int32) : wOk Value.int E c a σ R YD_mark YM_mark 3 3 [.int x, .int y] := by
  obtain ⟨no, ns, nh, ng, ml, mk, ok, ok2, ok3, hs⟩ := hi.1
  have b0 := ok.1.2
  have b1 := ok.2.1.2
  have b2 := ok.2.2.1.2
  have b3 := ok.2.2.2.1.2
  by_cases hv : zr x 8 ∧ zr y 81 ∧ ∀ k, k < 8 → nI k ≠ x → R.1 (360 + k) ≠ y
  · obtain ⟨v1, v2, v3⟩ := hv
    obtain ⟨m, hm, rfl⟩ := zr_nI (n := 8) v1
    obtain ⟨p, hp, rfl⟩ := zr_nI (n := 81) v2
    refine ⟨(R.1 (360 + m)), (va_up R.1 (360 + m) (nI p), R.2), ((k_Dmark h m p hm hp (fun k hk hn => by rw [hs.2.1 k hk]; exact v3 k hk hn)).res (by rw [hs.2.1 m hm])).mono (fun τ ⟨e, u⟩ => ⟨e, _, u, hi.n (st_mark ok ok2 ok3 hs m p hm hp zva_eq (fun j hj => va_up_ne' hj))⟩), fun σ2 M hM => by subst hM; exact mgo (k_Mmark m p hm hp (fun k hk hn => v3 k hk (fun z => hn ((nI_eq (by omega) (by omega)).mp z)))) rfl⟩
  · exact ⟨(-2), R, dsame (k_Dmark_bad h x y (fun z => hv ⟨z.1, z.2.1, fun k hk hn => by rw [← hs.2.1 k hk]; exact z.2.2 k hk hn⟩)) h hi, fun σ2 M hM => by subst hM; exact msame (k_Mmark_bad x y hv) rfl⟩
theorem w_seen (h : dAt σ c K) (hi : inv K R) (w dk g air x : Int32) : wOk Value.int E c a σ R YD_seen YM_seen 5 4 [.int w, .int dk, .int g, .int air, .int x] := by
  obtain ⟨no, ns, nh, ng, ml, mk, ok, ok2, ok3, hs⟩ := hi.1
  have b0 := ok.1.2
  have b1 := ok.2.1.2
  have b2 := ok.2.2.1.2
  have b3 := ok.2.2.2.1.2
  by_cases hv : (zr w 4 ∧ zr dk 16 ∧ zr g 4 ∧ zr air 5) ∧ zr x 81
  · obtain ⟨v1, v2⟩ := hv
    obtain ⟨w1, hw1, rfl⟩ := zr_nI (n := 4) v1.1
    obtain ⟨dk1, hdk1, rfl⟩ := zr_nI (n := 16) v1.2.1
    obtain ⟨g1, hg1, rfl⟩ := zr_nI (n := 4) v1.2.2.1
    obtain ⟨air1, hair1, rfl⟩ := zr_nI (n := 5) v1.2.2.2
    obtain ⟨x1, hx1, rfl⟩ := zr_nI (n := 81) v2
    refine ⟨(mSeen (mPic R.1 w1 (nI dk1)) g1 air1 x1), R, dq (k_Dseen h ok ok2 hs x1 w1 dk1 g1 air1 hx1 hw1 hdk1 hg1 hair1) hi, fun σ2 M hM => ?_⟩
    subst hM
    exact (mgo (k_Mseen w1 dk1 g1 air1 x1 hw1 hdk1 hg1 hair1 hx1) rfl).res (by rw [mSeen_cong (fun c hc => zfl_lt hc)])
  · exact ⟨(-2), R, dsame (k_Dseen_bad h w dk g air x hv) h hi, fun σ2 M hM => by subst hM; exact msame (k_Mseen_bad w dk g air x hv) rfl⟩
theorem w_line (h : dAt σ c K) (hi : inv K R) (x y : Int32) : wOk Value.int E c a σ R YD_line YM_line 2 2 [.int x, .int y] := by
  obtain ⟨no, ns, nh, ng, ml, mk, ok, ok2, ok3, hs⟩ := hi.1
  have b0 := ok.1.2
  have b1 := ok.2.1.2
  have b2 := ok.2.2.1.2
  have b3 := ok.2.2.2.1.2
  by_cases hv : zr x 8 ∧ zr y 8 ∧ x ≠ y
  · obtain ⟨v1, v2, v3⟩ := hv
    obtain ⟨p, hp, rfl⟩ := zr_nI (n := 8) v1
    obtain ⟨q, hq, rfl⟩ := zr_nI (n := 8) v2
    have hne : p ≠ q := fun z => v3 (by rw [z])
    exact ⟨_, R, dsame (k_Dline p q hp hq hne) h hi, fun σ2 M hM => by subst hM; exact msame (k_Mline p q hp hq hne) rfl⟩
  · exact ⟨(-2), R, dsame (k_Dline_bad x y hv) h hi, fun σ2 M hM => by subst hM; exact msame (k_Mline_bad x y hv) rfl⟩
theorem w_write (h : dAt σ c K) (hi : inv K R) (x y : Int32) : wOk Value.int E c a σ R YD_write YM_write 87 3 [.int x, .int y] := by
  obtain ⟨no, ns, nh, ng, ml, mk, ok, ok2, ok3, hs⟩ := hi.1
  have b0 := ok.1.2
  have b1 := ok.2.1.2
  have b2 := ok.2.2.1.2
  have b3 := ok.2.2.2.1.2
  by_cases hv : zr x 4 ∧ zr y 128
  · obtain ⟨v1, v2⟩ := hv
    obtain ⟨l, hl, rfl⟩ := zr_nI (n := 4) v1
    obtain ⟨p, hp, rfl⟩ := zr_nI (n := 128) v2
    have hm := ok.2.2.2.2.1 l hl
    have hlw := hs.2.2.1 l hl
    by_cases h40 : ml l = 40
    · have e1 : (K.n.l l).2.2.1 0 = nI 40 := by rw [hlw.1, h40]
      exact ⟨(-4), R, dsame (k_Dwrite_full h l p hl hp e1) h hi, fun σ2 M hM => by subst hM; exact msame (k_Mwrite_full l p hl hp (by rw [← h40]; exact hm.1)) rfl⟩
    · have h40' : ml l < 40 := by omega
      refine ⟨(nI (ml l + 1)), (va_up (va_up R.1 (372 + 40 * l + ml l) (nI p)) (368 + l) (nI (ml l + 1)), R.2), (k_Dwrite h l p hl hp (ml l) h40' hlw.1).mono (fun τ ⟨e, N, u, hr⟩ => ⟨e, _, u, hi.n ?_⟩), fun σ2 M hM => by subst hM; exact mgo (k_Mwrite l p (ml l) hl hp hm.1 h40') rfl⟩
      have hE : ∀ j, j < 40 → va_up ((K.n.l l).1 0) (ml l) (nI p) j = va_up (va_up R.1 (372 + 40 * l + ml l) (nI p)) (368 + l) (nI (ml l + 1)) (372 + 40 * l + j) := fun j hj => by
        rw [va_up_ne' (show 372 + 40 * l + j ≠ 368 + l by omega)]
        by_cases q : j = ml l
        · subst q; rw [zva_eq, zva_eq]
        · rw [va_up_ne' q, va_up_ne' (by omega)]; exact hlw.2.1 j hj
      have hZ : ∀ j, j < 40 → zr (va_up (va_up R.1 (372 + 40 * l + ml l) (nI p)) (368 + l) (nI (ml l + 1)) (372 + 40 * l + j)) 128 := fun j hj => by
        rw [va_up_ne' (show 372 + 40 * l + j ≠ 368 + l by omega)]
        by_cases q : j = ml l
        · subst q; rw [zva_eq]; exact zr_of (n := 128) hp (by decide)
        · rw [va_up_ne' (by omega)]; exact ok3 l hl j hj
      refine st_law ok ok2 ok3 hs l (ml l + 1) hl (by omega) N (lwR_of (by omega) (fun j hj => ?_) hr hE) zva_eq hZ (fun j hj => ?_)
      · rw [hE j (by omega)]; exact zr128 (hZ j (by omega))
      · rw [va_up_ne' hj.1, va_up_ne' (by omega)]
  · exact ⟨(-2), R, dsame (k_Dwrite_bad x y hv) h hi, fun σ2 M hM => by subst hM; exact msame (k_Mwrite_bad x y hv) rfl⟩
theorem w_erase (h : dAt σ c K) (hi : inv K R) (x : Int32) : wOk Value.int E c a σ R YD_erase YM_erase 87 3 [.int x] := by
  obtain ⟨no, ns, nh, ng, ml, mk, ok, ok2, ok3, hs⟩ := hi.1
  have b0 := ok.1.2
  have b1 := ok.2.1.2
  have b2 := ok.2.2.1.2
  have b3 := ok.2.2.2.1.2
  by_cases hv : zr x 4
  · obtain ⟨l, hl, rfl⟩ := zr_nI (n := 4) hv
    have hm := ok.2.2.2.2.1 l hl
    have hlw := hs.2.2.1 l hl
    refine ⟨(nI (ml l)), (va_up R.1 (368 + l) 0, R.2), (k_Derase h l hl (ml l) hm.2 hlw.1).mono (fun τ ⟨e, N, u, hr⟩ => ⟨e, _, u, hi.n ?_⟩), fun σ2 M hM => by subst hM; exact (mgo (k_Merase l hl) rfl).res (by rw [show M.row (368 + l) = nI (ml l) from hm.1])⟩
    have hE : ∀ j, j < 40 → (K.n.l l).1 0 j = va_up R.1 (368 + l) 0 (372 + 40 * l + j) := fun j hj => by
      rw [va_up_ne' (by omega)]; exact hlw.2.1 j hj
    refine st_law ok ok2 ok3 hs l 0 hl (by omega) N (lwR_of (by omega) (fun j hj => absurd hj (by omega)) hr hE) zva_eq (fun j hj => ?_) (fun j hj => va_up_ne' hj.1)
    rw [va_up_ne' (by omega)]; exact ok3 l hl j hj
  · exact ⟨(-2), R, dsame (k_Derase_bad x hv) h hi, fun σ2 M hM => by subst hM; exact msame (k_Merase_bad x hv) rfl⟩
theorem w_fault (h : dAt σ c K) (hi : inv K R) (x : Int32) : wOk Value.int E c a σ R YD_fault YM_fault 2 7 [.int x] := by
  obtain ⟨no, ns, nh, ng, ml, mk, ok, ok2, ok3, hs⟩ := hi.1
  have b0 := ok.1.2
  have b1 := ok.2.1.2
  have b2 := ok.2.2.1.2
  have b3 := ok.2.2.2.1.2
  by_cases hv : zr x 4
  · obtain ⟨l, hl, rfl⟩ := zr_nI (n := 4) hv
    have hm := ok.2.2.2.2.1 l hl
    refine ⟨(qRead (fun j => R.1 (372 + 40 * l + j)) (ml l)).1, R, dsame ((show zM E YD_fault 2 [.ref c, .int (nI l)] σ (some (.int ((K.n.l l).2.2.1 1))) σ from k_Dfault h l hl) |> fun z => (hs.2.2.1 l hl).2.2.1 ▸ z) h hi, fun σ2 M hM => ?_⟩
    subst hM
    exact (k_Mfault l (ml l) hl hm.1 hm.2).mono (fun s z => z.po)
  · exact ⟨(-2), R, dsame (k_Dfault_bad x hv) h hi, fun σ2 M hM => by subst hM; exact msame (k_Mfault_bad x hv) rfl⟩
theorem w_drawn (h : dAt σ c K) (hi : inv K R) (l w dk g air s : Int32) : wOk Value.int E c a σ R YD_drawn YM_drawn 6 9 [.int l, .int w, .int dk, .int g, .int air, .int s] := by
  obtain ⟨no, ns, nh, ng, ml, mk, ok, ok2, ok3, hs⟩ := hi.1
  have b0 := ok.1.2
  have b1 := ok.2.1.2
  have b2 := ok.2.2.1.2
  have b3 := ok.2.2.2.1.2
  by_cases hv : zr l 4 ∧ (zr w 4 ∧ zr dk 16 ∧ zr g 4 ∧ zr air 5) ∧ zr s 268435456
  · obtain ⟨v0, v1, v2⟩ := hv
    obtain ⟨l1, hl1, rfl⟩ := zr_nI (n := 4) v0
    obtain ⟨w1, hw1, rfl⟩ := zr_nI (n := 4) v1.1
    obtain ⟨dk1, hdk1, rfl⟩ := zr_nI (n := 16) v1.2.1
    obtain ⟨g1, hg1, rfl⟩ := zr_nI (n := 4) v1.2.2.1
    obtain ⟨air1, hair1, rfl⟩ := zr_nI (n := 5) v1.2.2.2
    refine ⟨_, R, dq (k_Ddrawn h ok ok2 hs l1 w1 dk1 g1 air1 hl1 hw1 hdk1 hg1 hair1 s v2) hi, fun σ2 M hM => ?_⟩
    subst hM
    exact mq (k_Mdrawn w1 dk1 hw1 hdk1 l1 g1 air1 (ml l1) s mk hl1 hg1 hair1 (ok.2.2.2.2.1 l1 hl1).1 (ok.2.2.2.2.1 l1 hl1).2 ok.2.2.2.2.2.1 v2) rfl
  · exact ⟨(-2), R, dsame (k_Ddrawn_bad h l w dk g air s hv) h hi, fun σ2 M hM => by subst hM; exact msame (k_Mdrawn_bad l w dk g air s hv) rfl⟩
theorem w_far (h : dAt σ c K) (hi : inv K R) (x y z : Int32) : wOk Value.int E c a σ R YD_far YM_far 6 9 [.int x, .int y, .int z] := by
  obtain ⟨no, ns, nh, ng, ml, mk, ok, ok2, ok3, hs⟩ := hi.1
  have b0 := ok.1.2
  have b1 := ok.2.1.2
  have b2 := ok.2.2.1.2
  have b3 := ok.2.2.2.1.2
  by_cases hv : zr x 4 ∧ zr y 4 ∧ zr z 4
  · obtain ⟨v1, v2, v3⟩ := hv
    obtain ⟨l, hl, rfl⟩ := zr_nI (n := 4) v1
    obtain ⟨w, hw, rfl⟩ := zr_nI (n := 4) v2
    obtain ⟨g, hg, rfl⟩ := zr_nI (n := 4) v3
    refine ⟨_, R, dq (k_Dfar h ok ok2 hs l w g hl hw hg) hi, fun σ2 M hM => ?_⟩
    subst hM
    exact mq (k_Mfar l w g (ml l) mk hl hw hg (ok.2.2.2.2.1 l hl).1 (ok.2.2.2.2.1 l hl).2 ok.2.2.2.2.2.1) rfl
  · exact ⟨(-2), R, dsame (k_Dfar_bad h x y z hv) h hi, fun σ2 M hM => by subst hM; exact msame (k_Mfar_bad x y z hv) rfl⟩
theorem w_fairest (h : dAt σ c K) (hi : inv K R) (x y z u : Int32) : wOk Value.int E c a σ R YD_fairest YM_fairest 6 9 [.int x, .int y, .int z, .int u] := by
  obtain ⟨no, ns, nh, ng, ml, mk, ok, ok2, ok3, hs⟩ := hi.1
  have b0 := ok.1.2
  have b1 := ok.2.1.2
  have b2 := ok.2.2.1.2
  have b3 := ok.2.2.2.1.2
  by_cases hv : zr x 4 ∧ zr y 4 ∧ zr z 4 ∧ zr u 2
  · obtain ⟨v1, v2, v3, v4⟩ := hv
    obtain ⟨l1, hl1, rfl⟩ := zr_nI (n := 4) v1
    obtain ⟨l2, hl2, rfl⟩ := zr_nI (n := 4) v2
    obtain ⟨w, hw, rfl⟩ := zr_nI (n := 4) v3
    refine ⟨_, R, dq (k_Dfairest h ok ok2 hs l1 l2 w u hl1 hl2 hw v4) hi, fun σ2 M hM => ?_⟩
    subst hM
    exact mq (k_Mfairest no ns nh ng ml mk ok l1 l2 w u hl1 hl2 hw v4) rfl
  · exact ⟨(-2), R, dsame (k_Dfairest_bad x y z u hv) h hi, fun σ2 M hM => by subst hM; exact msame (k_Mfairest_bad x y z u hv) rfl⟩
end
