/-! how the component's content stands to the reference's row -/
def zB28 (x : Int32) : Prop := ∀ i, 28 ≤ i → i < 32 → zbit x i = false
theorem qRun_cg {t t' : Nat → Int32} : ∀ (m k : Nat) (S : zS), (∀ j, k ≤ j → j < k + m → t j = t' j) → qRun t m k S = qRun t' m k S
  | 0, _, _, _ => rfl
  | m + 1, k, S, h => by
    simp only [qRun]
    rw [h k (Nat.le_refl k) (by omega), qRun_cg m (k + 1) _ (fun j h1 h2 => h j (by omega) (by omega))]
theorem qRead_cg {t t' : Nat → Int32} {many : Nat} (h : ∀ j, j < many → t j = t' j) : qRead t many = qRead t' many := by
  show qEnd many _ = qEnd many _
  rw [qRun_cg many 0 qZ (fun j _ hj => h j (by omega))]
/-- a law: its text t of many signs, and what it says -/
def lwR (N : zMo) (t : Nat → Int32) (many : Nat) : Prop :=
  N.2.2.1 0 = nI many ∧ (∀ j, j < 40 → N.1 0 j = t j) ∧ N.2.2.1 1 = (qRead t many).1 ∧ (N.2.2.1 3 = 0 ∨ N.2.2.1 3 = 1) ∧
  ((qRead t many).1 = -1 → N.2.2.1 2 = nI (qRead t many).2.1.length ∧ (∀ i p, (qRead t many).2.1[i]? = some p → N.1 1 i = cst p) ∧ (∀ p ∈ (qRead t many).2.1, cCode p) ∧ (N.2.2.1 3 = 0 → ∀ p ∈ (qRead t many).2.1, p.1 ≠ 4))
theorem lwR.cg {N : zMo} {t t' : Nat → Int32} {many : Nat} (hm : many ≤ 40) (h : lwR N t many) (e : ∀ j, j < 40 → t' j = t j) : lwR N t' many := by
  unfold lwR at h ⊢
  rw [qRead_cg (t := t') (t' := t) (fun j hj => e j (by omega))]
  exact ⟨h.1, fun j hj => (h.2.1 j hj).trans (e j hj).symm, h.2.2⟩
def bkR (B : zMo) (r : Nat → Int32) : Prop :=
  (∀ k, k < 8 → B.1 0 k = rOl r k ∧ B.1 1 k = rOw r k) ∧ (∀ k, k < 16 → B.1 2 k = rSo r k ∧ B.1 3 k = rSn r k ∧ B.1 4 k = rSl r k) ∧
  (∀ k, k < 60 → B.1 5 k = rHs r k ∧ B.1 6 k = rHo r k ∧ B.1 7 k = rHn r k) ∧ B.2.2.1 0 = r 532 ∧ B.2.2.1 1 = r 549 ∧ B.2.2.1 2 = r 598
def guR (G : zMo) (r : Nat → Int32) : Prop := (∀ k, k < 12 → G.1 0 k = rGw r k ∧ G.1 1 k = rGl r k ∧ G.1 2 k = rGg r k) ∧ G.2.2.1 0 = r 780
def woR (W : Nat → zMo) (r : Nat → Int32) : Prop := ∀ w, w < 4 → (∀ c, c < 81 → (W w).1 0 c = r (81 * w + c)) ∧ ∀ i, i < 9 → (W w).1 1 i = r (324 + 9 * w + i)
def sRl (S : zSc) (r : Nat → Int32) (ml : Nat → Nat) : Prop :=
  woR S.w r ∧ (∀ m, m < 8 → S.m m = r (360 + m)) ∧ (∀ l, l < 4 → lwR (S.l l) (fun j => r (372 + 40 * l + j)) (ml l)) ∧ bkR S.b r ∧ guR S.g r ∧ S.o = r 779 ∧ S.e = r 817
/-- what else holds of every row that calls make -/
def mOk2 (r : Nat → Int32) (ns : Nat) : Prop := (∀ w, w < 4 → ∀ c, c < 81 → zr (r (81 * w + c)) 16) ∧ (∀ s, s < 16 → zB28 (rSl r s)) ∧ ∀ s, s < ns → 0 ≤ (rSn r s).toInt
def mOk3 (r : Nat → Int32) : Prop := ∀ l, l < 4 → ∀ j, j < 40 → zr (r (372 + 40 * l + j)) 128
def stI (S : zSc) (r : Nat → Int32) : Prop := ∃ no ns nh ng ml mk, mOk r no ns nh ng ml mk ∧ mOk2 r ns ∧ mOk3 r ∧ sRl S r ml
/-- the reference's core: row, kept, isKept, up, low -/
abbrev zCo : Type := (Nat → Int32) × (Nat → Int32) × (Nat → Int32) × Int64 × Int64
abbrev mCo (M : zMo) : zCo := (M.1 0, M.1 1, M.1 2, M.2.2.2 0, M.2.2.2 1)
def inv (K : zDc) (R : zCo) : Prop := stI K.n R.1 ∧ (∀ i, i < 2 → K.k i = R.2.2.1 i ∧ (R.2.2.1 i = 0 ∨ R.2.2.1 i = 1) ∧ (¬ R.2.2.1 i = 0 → stI (K.i i) (fun j => R.2.1 (818 * i + j)))) ∧ K.a = R.2.2.2.1 ∧ K.u = R.2.2.2.2
/-- the two heaps' posts at the law's level -/
def dP (σ : zH) (c : Nat) (R : zCo) : zH → Prop := fun s => zsm σ s c (c + 134) ∧ ∃ K', dAt s c K' ∧ inv K' R
def mPo (σ : zH) (a : Nat) (R : zCo) : zH → Prop := fun s => ∃ M', s = mw σ a M' ∧ mCo M' = R
theorem inv.sc {K K' : zDc} {R : zCo} (h : inv K R) (e : dSc K K') : inv K' R := by
  obtain ⟨e1, e2, e3, e4, e5⟩ := e
  unfold inv
  rw [e1, e2, e3, e4, e5]
  exact h
theorem dQ.dP {σ s : zH} {c : Nat} {K : zDc} {R : zCo} (h : dQ σ c K s) (g : inv K R) : dP σ c R s := by
  obtain ⟨h1, K', h2, h3⟩ := h
  exact ⟨h1, K', h2, g.sc h3⟩
theorem mQ.po {σ s : zH} {a : Nat} {M : zMo} (h : mQ σ a M s) : mPo σ a (mCo M) s := by
  obtain ⟨M', h1, h2, h3, h4, h5, h6, h7⟩ := h
  exact ⟨M', h1, by unfold mCo; rw [h2, h3, h4, h5, h6]⟩
theorem mQw.po {σ s : zH} {a : Nat} {M : zMo} (h : mQw σ a M s) : mPo σ a (mCo M) s := by
  obtain ⟨M', h1, h2, h3, h4, h5, h6⟩ := h
  exact ⟨M', h1, by unfold mCo; rw [h2, h3, h4, h5, h6]⟩
/-! the picture -/
theorem zand1b (z : Int32) : z &&& 1 = 1 ↔ ¬ z &&& 1 = 0 := by
  have h : z &&& 1 = 0 ∨ z &&& 1 = 1 := by
    by_cases hz : zbit z 0 = true
    · right
      refine zbit_ext fun i hi => ?_
      rw [zbit_and, zbit_1 i hi]
      by_cases e : i = 0
      · subst e; simp [hz]
      · simp [e]
    · left
      exact (zand1 z).mpr (by simpa using hz)
  constructor
  · intro e; rw [e]; decide
  · intro e; exact h.resolve_left e
theorem dk_eq {N : zMo} {r : Nat → Int32} {w : Nat} (h1 : ∀ c, c < 81 → N.1 0 c = r (81 * w + c)) (h2 : ∀ i, i < 9 → N.1 1 i = r (324 + 9 * w + i)) (h3 : ∀ c, c < 81 → zr (r (81 * w + c)) 16) (dk : Int32) (hdk : zr dk 16) (c : Nat) (hc : c < 81) : pDk N dk c = mPic r w dk c := by
  obtain ⟨j, hj, ej⟩ := zr_nI (n := 16) (h3 c hc)
  obtain ⟨d, hd, ed⟩ := zr_nI (n := 16) hdk
  subst ed
  unfold pDk mPic
  rw [h1 c hc, h2 (c / 9) (by omega), ej]
  have key : ∀ j, j < 16 → ∀ d, d < 16 → (if nI j + nI d < 15 then nI j + nI d else 15) = (if nI j + nI d ≤ 15 then nI j + nI d else 15) ∧ nI j = if nI j + 0 ≤ 15 then nI j + 0 else 15 := by decide +kernel
  by_cases hz : zhas (r (324 + 9 * w + c / 9)) (nI (c % 9))
  · rw [if_pos hz, if_pos ((zand1b _).mpr hz)]
    exact (key j hj d hd).1
  · rw [if_neg hz, if_neg (fun g => hz ((zand1b _).mp g))]
    exact (key j hj d hd).2
theorem pSp_mFp {sh r : Nat → Int32} {w : Nat} (h1 : ∀ c, c < 81 → sh c = r (81 * w + c)) (mk : Nat → Nat) (hmk : ∀ m, m < 8 → mk m < 81) (base : Nat → Int32) (hb : ∀ c, c < 81 → base c = 0) : ∀ m, m ≤ 8 → ∀ c, c < 81 → pSp sh mk base m c = mFp r w mk (fun _ => 0) m c
  | 0, _, c, hc => hb c hc
  | m + 1, hm, c, hc => by
    simp only [pSp, mFp, va_up]
    split
    · exact h1 _ (hmk m (by omega))
    · exact pSp_mFp h1 mk hmk base hb m (by omega) c hc
theorem mRX_lt : ∀ air, air < 5 → ∀ x, x < 9 → mR air x < 9 ∧ mX air x < 9 := by decide +kernel
/-- a picture that shows 'see' through the glass g -/
def pcT (P : zMo) (see : Nat → Int32) (g : Nat) : Prop := P.2.2.1 0 = nI g ∧ ∀ x, x < 81 → P.1 2 x = see x
theorem pic_of {M' : zMo} {g air : Nat} {sh pic : Nat → Int32} (ha : air < 5) (h1 : M'.2.2.1 0 = nI g) (h2 : ∀ c, c < 81 → M'.1 0 c = sh c) (h3 : adJ (M'.1 0) 9 (M'.1 1)) (h4 : ∀ c, c < 81 → M'.1 2 c = pBlr (M'.1 1) g (mR air (c / 9)) (mX air (c % 9))) (hp : ∀ c, c < 81 → sh c = pic c) : pcT M' (mSeen pic g air) g ∧ pZ M' := by
  refine ⟨⟨h1, fun x hx => ?_⟩, fun c hc => ?_, h3.2⟩
  · rw [h4 x hx, blur_eq (M'.1 0) (M'.1 1) h3 g _ _ (mRX_lt air ha (x / 9) (by omega)).1 (mRX_lt air ha (x % 9) (by omega)).2]
    exact mSeen_cong (fun c hc => (h2 c hc).trans (hp c hc)) g air x
  · have := h3.1 0 c (by omega) hc
    rw [Nat.mul_zero, Nat.zero_add] at this
    rw [this]; rfl
theorem cTr_cg {see see' : Nat → Int32} (h : ∀ c, c < 81 → see c = see' c) (cs : List (Int32 × Int64)) (g : Nat) (ws : Int32) {mk : Nat → Nat} (hmk : ∀ m, m < 8 → mk m < 81) : pDr (cTr cs see g ws mk) 28 = pDr (cTr cs see' g ws mk) 28 := by
  refine pDr_cong (fun k hk => ?_)
  unfold cTr
  rw [mLt_cong h g (hmk _ (pAB_lt k hk).1) (hmk _ (pAB_lt k hk).2)]
/-- a law that does not ask what was shown is worked alike for both -/
theorem evC_nk {lt lt' : Nat → Int64} (h : ∀ j, j < 6 → j ≠ 4 → lt j = lt' j) : ∀ (cs : List (Int32 × Int64)) (st : List Int64), (∀ p ∈ cs, cCode p ∧ p.1 ≠ 4) → evC lt cs st = evC lt' cs st
  | [], _, _ => rfl
  | (c, v) :: cs, st, hc => by
    have ih := fun st => evC_nk h cs st (fun p hp => hc p (List.mem_cons_of_mem _ hp))
    simp only [evC]
    split
    · next h7 =>
      have e : (if c < 6 then lt c.toNatClampNeg else v) = (if c < 6 then lt' c.toNatClampNeg else v) := by
        split
        · next h6 =>
          obtain ⟨⟨j, hj, hj2⟩, hn⟩ := hc (c, v) List.mem_cons_self
          have hj' : c = nI j := hj
          subst hj'
          have hj6 : j < 6 := by
            rcases hj2 with h | ⟨h, _⟩ | h
            · omega
            · subst h; exact absurd h6 (by decide)
            · exact absurd ((nI_ltI (b := 6) (by omega) (by omega)).mp h6) (by omega)
          rw [nI_clamp (by omega)]
          refine h j hj6 (fun e4 => ?_)
          subst e4
          exact hn rfl
        · rfl
      rw [e]; exact ih _
    · split
      · match st with
        | [] => rfl
        | x :: st' => exact ih _
      · match st with
        | [] => rfl
        | [_] => rfl
        | y :: x :: st' => exact ih _
theorem cTr_nk (cs : List (Int32 × Int64)) (hc : ∀ p ∈ cs, cCode p ∧ p.1 ≠ 4) (see : Nat → Int32) (g : Nat) (mk : Nat → Nat) : pDr (cTr cs see g 0 mk) 28 = pDr (cTr cs see g 1 mk) 28 := by
  refine pDr_cong (fun k hk => ?_)
  unfold cTr qVal
  rw [evC_nk (lt := mLt see g (mk (pA k)) (mk (pBb k)) 0) (lt' := mLt see g (mk (pA k)) (mk (pBb k)) 1) ?_ cs [] hc]
  intro j hj h4
  match j, hj, h4 with
  | 0, _, _ => rfl
  | 1, _, _ => rfl
  | 2, _, _ => rfl
  | 3, _, _ => rfl
  | 4, _, h => exact absurd rfl h
  | 5, _, _ => rfl
