/-! the reference: drawn on a world, from afar -/
def mCr (M M' : zMo) : Prop := M'.1 0 = M.1 0 ∧ M'.1 1 = M.1 1 ∧ M'.1 2 = M.1 2 ∧ M'.2.2.2 0 = M.2.2.2 0 ∧ M'.2.2.2 1 = M.2.2.2 1 ∧ M'.1 7 = M.1 7
theorem mCore.cr {M M' : zMo} (h : mCore M M') : mCr M M' := ⟨h.1, h.2.1, h.2.2.1, h.2.2.2.2.1, h.2.2.2.2.2⟩
theorem mCr.rfl {M : zMo} : mCr M M := ⟨Eq.refl _, Eq.refl _, Eq.refl _, Eq.refl _, Eq.refl _, Eq.refl _⟩
theorem mCr.trans {A B C : zMo} (h : mCr A B) (g : mCr B C) : mCr A C := ⟨g.1.trans h.1, g.2.1.trans h.2.1, g.2.2.1.trans h.2.2.1, g.2.2.2.1.trans h.2.2.2.1, g.2.2.2.2.1.trans h.2.2.2.2.1, g.2.2.2.2.2.trans h.2.2.2.2.2⟩
def mQ (σ : zH) (a : Nat) (M : zMo) : zH → Prop := fun s => ∃ M', s = mw σ a M' ∧ mCr M M'
def mDw (t : Nat → Int32) (many : Nat) (see : Nat → Int32) (g : Nat) (shown : Int32) (mk : Nat → Nat) : Int32 := if (qRead t many).1 = -1 then pDr (mTr (qRead t many).2.1 see g shown mk) 28 else 0
theorem mCr_3 (M : zMo) (f : Nat → Int32) : mCr M (M.sA 3 f) := by
  refine ⟨?_, ?_, ?_, ?_, ?_, ?_⟩ <;> simp [va_up]
theorem mBl1_cong {f f' : Nat → Int32} (h : ∀ c, c < 81 → f c = f' c) (g r c i : Nat) (s : Int32 × Nat) : ∀ j, mBl1 f g r c i s j = mBl1 f' g r c i s j
  | 0 => rfl
  | j + 1 => by
    simp only [mBl1]
    rw [mBl1_cong h g r c i s j]
    by_cases c1 : (g ≤ r + i ∧ r + i - g ≤ 8) ∧ (g ≤ c + j ∧ c + j - g ≤ 8)
    · rw [if_pos c1, if_pos c1, h _ (by omega)]
    · rw [if_neg c1, if_neg c1]
theorem mBl_cong {f f' : Nat → Int32} (h : ∀ c, c < 81 → f c = f' c) (g r c : Nat) : ∀ i, mBl f g r c i = mBl f' g r c i
  | 0 => rfl
  | i + 1 => by simp only [mBl]; rw [mBl_cong h g r c i, mBl1_cong h]
theorem mSeen_cong {f f' : Nat → Int32} (h : ∀ c, c < 81 → f c = f' c) (g air c : Nat) : mSeen f g air c = mSeen f' g air c := by
  unfold mSeen mBlur; rw [mBl_cong h]
theorem zmid_lt {p q : Nat} (hp : p < 81) (hq : q < 81) : zmid p q < 81 := by unfold zmid; omega
theorem mLt_cong {see see' : Nat → Int32} (h : ∀ c, c < 81 → see c = see' c) (g : Nat) {p q : Nat} (hp : p < 81) (hq : q < 81) (kb : Int32) : mLt see g p q kb = mLt see' g p q kb := by
  funext i
  unfold mLt
  split
  · rw [h p hp]
  · rw [h q hq]
  · rfl
  · rw [h _ (zmid_lt hp hq)]
  · rfl
  · rfl
  · rfl
theorem pDr_cong {tr tr' : Nat → Bool} : ∀ {n : Nat}, (∀ k, k < n → tr k = tr' k) → pDr tr n = pDr tr' n
  | 0, _ => rfl
  | n + 1, h => by simp only [pDr]; rw [pDr_cong (fun k hk => h k (by omega)), h n (by omega)]
theorem pAB_lt : ∀ n, n < 28 → pA n < 8 ∧ pBb n < 8 := by decide +kernel
theorem mDw_cong {see see' : Nat → Int32} (h : ∀ c, c < 81 → see c = see' c) (t : Nat → Int32) (many g : Nat) (shown : Int32) {mk : Nat → Nat} (hmk : ∀ m, m < 8 → mk m < 81) : mDw t many see g shown mk = mDw t many see' g shown mk := by
  unfold mDw
  split
  · refine pDr_cong (fun k hk => ?_)
    unfold mTr
    rw [mLt_cong h g (hmk _ (pAB_lt k hk).1) (hmk _ (pAB_lt k hk).2)]
  · rfl
theorem zfl_lt {α : Type} {f g : Nat → α} {k j : Nat} (h : j < k) : zfl f g k j = f j := if_pos h
def mFp (row : Nat → Int32) (w : Nat) (mk : Nat → Nat) (base : Nat → Int32) : Nat → (Nat → Int32)
  | 0 => base
  | m + 1 => va_up (mFp row w mk base m) (mk m) (row (81 * w + mk m))
theorem mFp_cong (row : Nat → Int32) (w : Nat) (mk : Nat → Nat) {b b' : Nat → Int32} (h : ∀ c, c < 81 → b c = b' c) : ∀ m c, c < 81 → mFp row w mk b m c = mFp row w mk b' m c
  | 0, c, hc => h c hc
  | m + 1, c, hc => by
    simp only [mFp, va_up]
    split
    · rfl
    · exact mFp_cong row w mk h m c hc
section
variable {E : zE} {σ : zH} {a : Nat} {M : zMo}
theorem k_drawnOf (l g air many : Nat) (shown : Int32) (mk : Nat → Nat) (hl : l < 4) (hg : g < 4) (ha : air < 5) (hm : M.1 0 (368 + l) = nI many) (hmany : many ≤ 40) (hmk : ∀ m, m < 8 → M.1 0 (360 + m) = nI (mk m) ∧ mk m < 81) : zX E YM_drawnOf 7 [.ref a, .int (nI l), .int (nI g), .int (nI air), .int shown] (mw σ a M) (some (.int (mDw (fun j => M.1 0 (372 + 40 * l + j)) many (mSeen (M.1 3) g air) g shown mk))) (mQ σ a M) := by
  refine zX.of oM_drawnOf (by decide +kernel) rfl rfl (fun n => ?_)
  refine zj_aload_n 0 rfl rfl rfl ?_
  refine zj_iload_n 1 rfl rfl rfl ?_
  refine zj_cvxX 2 rfl rfl lk_8_154 ckM_read (k_read l many hl hm hmany) rfl mw_0 rfl rfl rfl (fun s1 hP1 => ?_)
  obtain ⟨M1, rfl, hc1, hr1⟩ := hP1
  refine zj_iconst 3 (-1) rfl rfl (by decide) ?_
  refine zj_icmp_eq 4 rfl rfl (fun c6 => ?_) (fun c6 => ?_)
  · refine zj_iconst 7 (0) rfl rfl (by decide) ?_
    refine zj_istore 8 rfl rfl ?_
    refine zj_iconst 9 (0) rfl rfl (by decide) ?_
    refine zj_istore 10 rfl rfl ?_
    refine zj_iconst 11 (0) rfl rfl (by decide) ?_
    refine zj_istore 12 rfl rfl ?_
    refine zj_norm [_, _, _, _, _, _, _, _, _, _, _, _, _] rfl ?_
    refine zj_iload 13 rfl rfl rfl ?_
    refine zj_bipush 14 (8) rfl rfl (by decide) ?_
    refine zn_icmp_ge 15 (0) (8) rfl rfl rfl rfl (by omega) (by omega) (fun c24 => ?_) (fun c24 => ?_)
    · exact absurd c24 (by decide)
    · refine zj_iload 16 rfl rfl rfl ?_
      refine zj_iconst 17 (1) rfl rfl (by decide) ?_
      refine zn_iadd 18 (0) (1) rfl rfl rfl rfl ?_
      refine zj_istore 19 rfl rfl ?_
      obtain ⟨k1, k2, k3⟩ := qRead_ok (fun j => M.1 0 (372 + 40 * l + j)) many hmany c6
      have e : mDw (fun j => M.1 0 (372 + 40 * l + j)) many (mSeen (M.1 3) g air) g shown mk = pDr (mTr (qRead (fun j => M.1 0 (372 + 40 * l + j)) many).2.1 (mSeen (M1.1 3) g air) g shown mk) 28 := by
        unfold mDw; rw [if_pos c6, hc1.2.2.2.1]
      rw [e, show mw σ a M1 = mw σ a ((M1.sB 2 (M1.2.1 2)).sB 1 (M1.2.1 1)) by rw [show (M1.sB 2 (M1.2.1 2)) = M1 from sB_id M1 2, sB_id]]
      refine zXB_mono ?_ (l_drawnOf (qRead (fun j => M.1 0 (372 + 40 * l + j)) many).2.1 l g air shown mk hg ha (fun m h => by rw [hc1.1]; exact hmk m h) k1 hr1.1.1 hr1.1.2 k2 k3 _ 0 1 _ _ _ _ _ _ (Nat.le_refl _) (by decide) (by decide) (by decide) n)
      rintro s ⟨f, g2, rfl⟩
      exact ⟨_, rfl, hc1.cr⟩
  · refine zj_iconst 5 (0) rfl rfl (by decide) ?_
    refine zj_ireturn 6 rfl rfl rfl ?_
    have e : mDw (fun j => M.1 0 (372 + 40 * l + j)) many (mSeen (M.1 3) g air) g shown mk = 0 := if_neg c6
    rw [e]
    exact ⟨rfl, rfl, M1, rfl, hc1.cr⟩
theorem k_drawnOn (w : Nat) (hw : w < 4) (dk : Int32) (l g air many : Nat) (shown : Int32) (mk : Nat → Nat) (hl : l < 4) (hg : g < 4) (ha : air < 5) (hm : M.1 0 (368 + l) = nI many) (hmany : many ≤ 40) (hmk : ∀ m, m < 8 → M.1 0 (360 + m) = nI (mk m) ∧ mk m < 81) : zX E YM_drawnOn 8 [.ref a, .int (nI l), .int (nI w), .int dk, .int (nI g), .int (nI air), .int shown] (mw σ a M) (some (.int (mDw (fun j => M.1 0 (372 + 40 * l + j)) many (mSeen (mPic (M.1 0) w dk) g air) g shown mk))) (mQ σ a M) := by
  refine zX.of oM_drawnOn (by decide +kernel) rfl rfl (fun n => ?_)
  refine zj_aload_n 0 rfl rfl rfl ?_
  refine zj_iload_n 1 rfl rfl rfl ?_
  refine zj_iload_n 2 rfl rfl rfl ?_
  refine zj_cvv 3 rfl rfl lk_8_86 ckM_layWorld (k_layWorld _ _ hw) rfl mw_0 rfl rfl rfl ?_
  refine zj_aload_n 4 rfl rfl rfl ?_
  refine zj_iload_n 5 rfl rfl rfl ?_
  refine zj_iload 6 rfl rfl rfl ?_
  refine zj_iload 7 rfl rfl rfl ?_
  refine zj_iload 8 rfl rfl rfl ?_
  refine zj_cvxX 9 rfl rfl lk_8_168 ckM_drawnOf (k_drawnOf l g air many shown mk hl hg ha hm hmany hmk) rfl mw_0 rfl rfl rfl (fun s1 hP1 => ?_)
  obtain ⟨M1, rfl, hc1⟩ := hP1
  refine zj_ireturn 10 rfl rfl rfl ?_
  exact ⟨zrt (mDw_cong (fun c hc => mSeen_cong (fun c hc => zfl_lt hc) g air c) _ _ _ _ (fun m h => (hmk m h).2)), rfl, M1, rfl, (mCr_3 M _).trans hc1⟩
theorem k_Mdrawn (w dk : Nat) (hw : w < 4) (hd : dk < 16) (l g air many : Nat) (shown : Int32) (mk : Nat → Nat) (hl : l < 4) (hg : g < 4) (ha : air < 5) (hm : M.1 0 (368 + l) = nI many) (hmany : many ≤ 40) (hmk : ∀ m, m < 8 → M.1 0 (360 + m) = nI (mk m) ∧ mk m < 81) (hs : zr shown 268435456) : zX E YM_drawn 9 [.ref a, .int (nI l), .int (nI w), .int (nI dk), .int (nI g), .int (nI air), .int shown] (mw σ a M) (some (.int (mDw (fun j => M.1 0 (372 + 40 * l + j)) many (mSeen (mPic (M.1 0) w (nI dk)) g air) g shown mk))) (mQ σ a M) := by
  refine zX.of oM_drawn (by decide +kernel) rfl rfl (fun n => ?_)
  refine zj_iload_n 0 rfl rfl rfl ?_
  refine zj_csx 1 rfl rfl lk_8_57 ckM_isFour (k_isFour _) rfl rfl rfl rfl ?_
  refine zj_if_eq 2 rfl rfl (fun c4 => ?_) (fun c4 => ?_)
  · exact absurd (zr_of (n := 4) (by omega) (by decide)) (zo_0.mp c4)
  · refine zj_iload_n 3 rfl rfl rfl ?_
    refine zj_iload_n 4 rfl rfl rfl ?_
    refine zj_iload 5 rfl rfl rfl ?_
    refine zj_iload 6 rfl rfl rfl ?_
    refine zj_csx 7 rfl rfl lk_8_82 ckM_isLook (k_isLook _ _ _ _) rfl rfl rfl rfl ?_
    refine zj_if_eq 8 rfl rfl (fun c16 => ?_) (fun c16 => ?_)
    · exact absurd ⟨zr_of (n := 4) (by omega) (by decide), zr_of (n := 16) (by omega) (by decide), zr_of (n := 4) (by omega) (by decide), zr_of (n := 5) (by omega) (by decide)⟩ (zo_0.mp c16)
    · refine zj_iload 9 rfl rfl rfl ?_
      refine zj_csx 10 rfl rfl lk_8_174 ckM_isLines (k_isLines _) rfl rfl rfl rfl ?_
      refine zj_if_ne 11 rfl rfl (fun c24 => ?_) (fun c24 => ?_)
      · refine zj_aload_n 14 rfl rfl rfl ?_
        refine zj_iload_n 15 rfl rfl rfl ?_
        refine zj_iload_n 16 rfl rfl rfl ?_
        refine zj_iload_n 17 rfl rfl rfl ?_
        refine zj_iload 18 rfl rfl rfl ?_
        refine zj_iload 19 rfl rfl rfl ?_
        refine zj_iload 20 rfl rfl rfl ?_
        refine zj_cvxX 21 rfl rfl lk_8_177 ckM_drawnOn (k_drawnOn w hw (nI dk) l g air many shown mk hl hg ha hm hmany hmk) rfl mw_0 rfl rfl rfl (fun s1 hP1 => ?_)
        obtain ⟨M1, rfl, hc1⟩ := hP1
        refine zj_ireturn 22 rfl rfl rfl ?_
        exact ⟨rfl, rfl, M1, rfl, hc1⟩
      · exact absurd hs (zo_0.mp c24)
theorem k_Mdrawn_bad (l w dk g air shown : Int32) (hb : ¬ (zr l 4 ∧ (zr w 4 ∧ zr dk 16 ∧ zr g 4 ∧ zr air 5) ∧ zr shown 268435456)) : zM E YM_drawn 9 [.ref a, .int l, .int w, .int dk, .int g, .int air, .int shown] (mw σ a M) (some (.int (-2))) (mw σ a M) := by
  refine zM.of oM_drawn (by decide +kernel) rfl rfl (fun n => ?_)
  refine zj_iload_n 0 rfl rfl rfl ?_
  refine zj_csx 1 rfl rfl lk_8_57 ckM_isFour (k_isFour _) rfl rfl rfl rfl ?_
  refine zj_if_eq 2 rfl rfl (fun c4 => ?_) (fun c4 => ?_)
  · refine zj_bipush 12 (-2) rfl rfl (by decide) ?_
    refine zj_ireturn 13 rfl rfl rfl ?_
    exact ⟨rfl, rfl, rfl⟩
  · refine zj_iload_n 3 rfl rfl rfl ?_
    refine zj_iload_n 4 rfl rfl rfl ?_
    refine zj_iload 5 rfl rfl rfl ?_
    refine zj_iload 6 rfl rfl rfl ?_
    refine zj_csx 7 rfl rfl lk_8_82 ckM_isLook (k_isLook _ _ _ _) rfl rfl rfl rfl ?_
    refine zj_if_eq 8 rfl rfl (fun c16 => ?_) (fun c16 => ?_)
    · refine zj_bipush 12 (-2) rfl rfl (by decide) ?_
      refine zj_ireturn 13 rfl rfl rfl ?_
      exact ⟨rfl, rfl, rfl⟩
    · refine zj_iload 9 rfl rfl rfl ?_
      refine zj_csx 10 rfl rfl lk_8_174 ckM_isLines (k_isLines _) rfl rfl rfl rfl ?_
      refine zj_if_ne 11 rfl rfl (fun c24 => ?_) (fun c24 => ?_)
      · exact absurd ⟨zo_n0.mp c4, zo_n0.mp c16, zo_n0.mp c24⟩ hb
      · refine zj_bipush 12 (-2) rfl rfl (by decide) ?_
        refine zj_ireturn 13 rfl rfl rfl ?_
        exact ⟨rfl, rfl, rfl⟩
theorem l_far2 (l w g many : Nat) (mk : Nat → Nat) (hl : l < 4) (hw : w < 4) (hg : g < 4) (hm : M.1 0 (368 + l) = nI many) (hmany : many ≤ 40) (hmk : ∀ m, m < 8 → M.1 0 (360 + m) = nI (mk m) ∧ mk m < 81) : ∀ (m : Nat) (k : Nat), (k + m = 8) → ∀ n, zXB E YM_drawnFar 8 n (some (.int (mDw (fun j => M.1 0 (372 + 40 * l + j)) many (mSeen (mFp (M.1 0) w mk (fun _ => 0) 8) g 0) g 0 mk))) (mQ σ a M) (mw σ a (M.sA 3 (mFp (M.1 0) w mk (zfl (fun _ => (0 : Int32)) (M.1 3) 81) k))) 27 [some (.ref a), some (.int (nI l)), some (.int (nI w)), some (.int (nI g)), some (.int (nI k))] [] := by
  intro m
  induction m using Nat.strongRecOn with
  | ind m ih =>
  intro k hk n
  refine zj_iload 14 rfl rfl rfl ?_
  refine zj_bipush 15 (8) rfl rfl (by decide) ?_
  refine zn_icmp_ge 16 (k) (8) rfl rfl rfl rfl (by omega) (by omega) (fun c31 => ?_) (fun c31 => ?_)
  · obtain rfl : k = 8 := by omega
    refine zj_aload_n 41 rfl rfl rfl ?_
    refine zj_iload_n 42 rfl rfl rfl ?_
    refine zj_iload_n 43 rfl rfl rfl ?_
    refine zj_iconst 44 (0) rfl rfl (by decide) ?_
    refine zj_iconst 45 (0) rfl rfl (by decide) ?_
    refine zj_cvxX 46 rfl rfl lk_8_168 ckM_drawnOf (k_drawnOf (M := M.sA 3 (mFp (M.1 0) w mk (zfl (fun _ => (0 : Int32)) (M.1 3) 81) 8)) l g 0 many 0 mk hl hg (by decide) hm hmany hmk) rfl mw_0 rfl rfl rfl (fun s1 hP1 => ?_)
    obtain ⟨M1, rfl, hc1⟩ := hP1
    refine zj_ireturn 47 rfl rfl rfl ?_
    exact ⟨zrt (mDw_cong (fun c hc => mSeen_cong (fun c hc => mFp_cong _ _ _ (fun c hc => zfl_lt hc) 8 c hc) g 0 c) _ _ _ _ (fun m h => (hmk m h).2)), rfl, M1, rfl, (mCr_3 M _).trans hc1⟩
  · have hk2 := (hmk k (by omega)).2
    refine zj_aload_n 17 rfl rfl rfl ?_
    refine zj_get 18 rfl rfl mw_0 rfl ?_
    refine zj_aload_n 19 rfl rfl rfl ?_
    refine zj_get 20 rfl rfl mw_0 rfl ?_
    refine zj_sipush 21 (360) rfl rfl (by decide) ?_
    refine zj_iload 22 rfl rfl rfl ?_
    refine zn_iadd 23 (360) (k) rfl rfl rfl rfl ?_
    refine zn_iald 24 (360 + k) rfl rfl (show mw σ a (M.sA 3 _) (a + 1) = some (.inl (0, 818, .inl (M.1 0))) from mw_1) rfl (by omega) (by decide) ?_
    rw [(hmk k (by omega)).1]
    refine zj_aload_n 25 rfl rfl rfl ?_
    refine zj_get 26 rfl rfl mw_0 rfl ?_
    refine zj_bipush 27 (81) rfl rfl (by decide) ?_
    refine zj_iload_n 28 rfl rfl rfl ?_
    refine zn_imul 29 (81) (w) rfl rfl rfl rfl ?_
    refine zj_aload_n 30 rfl rfl rfl ?_
    refine zj_get 31 rfl rfl mw_0 rfl ?_
    refine zj_sipush 32 (360) rfl rfl (by decide) ?_
    refine zj_iload 33 rfl rfl rfl ?_
    refine zn_iadd 34 (360) (k) rfl rfl rfl rfl ?_
    refine zn_iald 35 (360 + k) rfl rfl (show mw σ a (M.sA 3 _) (a + 1) = some (.inl (0, 818, .inl (M.1 0))) from mw_1) rfl (by omega) (by decide) ?_
    rw [(hmk k (by omega)).1]
    refine zn_iadd 36 (81 * w) (mk k) rfl rfl rfl rfl ?_
    refine zn_iald 37 ((81 * w) + (mk k)) rfl rfl (show mw σ a (M.sA 3 _) (a + 1) = some (.inl (0, 818, .inl (M.1 0))) from mw_1) rfl (by omega) (by decide) ?_
    refine zn_iast 38 (mk k) rfl rfl mw_4 rfl (by omega) (by decide) mw_u4 ?_
    refine zn_iinc 39 (k) rfl rfl rfl rfl ?_
    refine zj_goto 40 rfl rfl ?_
    have e : mw σ a ((M.sA 3 (mFp (M.1 0) w mk (zfl (fun _ => (0 : Int32)) (M.1 3) 81) k)).sA 3 (va_up (mFp (M.1 0) w mk (zfl (fun _ => (0 : Int32)) (M.1 3) 81) k) (mk k) (M.1 0 (81 * w + mk k)))) = mw σ a (M.sA 3 (mFp (M.1 0) w mk (zfl (fun _ => (0 : Int32)) (M.1 3) 81) (k + 1))) := by rw [zMo.sA_sA]; rfl
    exact e ▸ ih (m - 1) (by omega) (k + 1) (by omega) n
theorem l_far1 (l w g many : Nat) (mk : Nat → Nat) (hl : l < 4) (hw : w < 4) (hg : g < 4) (hm : M.1 0 (368 + l) = nI many) (hmany : many ≤ 40) (hmk : ∀ m, m < 8 → M.1 0 (360 + m) = nI (mk m) ∧ mk m < 81) : ∀ (m : Nat) (k : Nat), (k + m = 81) → ∀ n, zXB E YM_drawnFar 8 n (some (.int (mDw (fun j => M.1 0 (372 + 40 * l + j)) many (mSeen (mFp (M.1 0) w mk (fun _ => 0) 8) g 0) g 0 mk))) (mQ σ a M) (mw σ a (M.sA 3 (zfl (fun _ => (0 : Int32)) (M.1 3) k))) 3 [some (.ref a), some (.int (nI l)), some (.int (nI w)), some (.int (nI g)), some (.int (nI k))] [] := by
  intro m
  induction m using Nat.strongRecOn with
  | ind m ih =>
  intro k hk n
  refine zj_iload 2 rfl rfl rfl ?_
  refine zj_bipush 3 (81) rfl rfl (by decide) ?_
  refine zn_icmp_ge 4 (k) (81) rfl rfl rfl rfl (by omega) (by omega) (fun c7 => ?_) (fun c7 => ?_)
  · refine zj_iconst 12 (0) rfl rfl (by decide) ?_
    refine zj_istore 13 rfl rfl ?_
    obtain rfl : k = 81 := by omega
    exact l_far2 l w g many mk hl hw hg hm hmany hmk 8 0 (by omega) n
  · refine zj_aload_n 5 rfl rfl rfl ?_
    refine zj_get 6 rfl rfl mw_0 rfl ?_
    refine zj_iload 7 rfl rfl rfl ?_
    refine zj_iconst 8 (0) rfl rfl (by decide) ?_
    refine zn_iast 9 (k) rfl rfl mw_4 rfl (by omega) (by decide) mw_u4 ?_
    refine zn_iinc 10 (k) rfl rfl rfl rfl ?_
    refine zj_goto 11 rfl rfl ?_
    rw [mw_fl 3 rfl]
    exact ih (m - 1) (by omega) (k + 1) (by omega) n
theorem k_drawnFar (l w g many : Nat) (mk : Nat → Nat) (hl : l < 4) (hw : w < 4) (hg : g < 4) (hm : M.1 0 (368 + l) = nI many) (hmany : many ≤ 40) (hmk : ∀ m, m < 8 → M.1 0 (360 + m) = nI (mk m) ∧ mk m < 81) : zX E YM_drawnFar 8 [.ref a, .int (nI l), .int (nI w), .int (nI g)] (mw σ a M) (some (.int (mDw (fun j => M.1 0 (372 + 40 * l + j)) many (mSeen (mFp (M.1 0) w mk (fun _ => 0) 8) g 0) g 0 mk))) (mQ σ a M) := by
  refine zX.of oM_drawnFar (by decide +kernel) rfl rfl (fun n => ?_)
  refine zj_iconst 0 (0) rfl rfl (by decide) ?_
  refine zj_istore 1 rfl rfl ?_
  rw [mw_fl0 M 3 (fun _ => (0 : Int32))]
  exact l_far1 l w g many mk hl hw hg hm hmany hmk 81 0 (by omega) n
theorem k_Mfar (l w g many : Nat) (mk : Nat → Nat) (hl : l < 4) (hw : w < 4) (hg : g < 4) (hm : M.1 0 (368 + l) = nI many) (hmany : many ≤ 40) (hmk : ∀ m, m < 8 → M.1 0 (360 + m) = nI (mk m) ∧ mk m < 81) : zX E YM_far 9 [.ref a, .int (nI l), .int (nI w), .int (nI g)] (mw σ a M) (some (.int (mDw (fun j => M.1 0 (372 + 40 * l + j)) many (mSeen (mFp (M.1 0) w mk (fun _ => 0) 8) g 0) g 0 mk))) (mQ σ a M) := by
  refine zX.of oM_far (by decide +kernel) rfl rfl (fun n => ?_)
  refine zj_iload_n 0 rfl rfl rfl ?_
  refine zj_csx 1 rfl rfl lk_8_57 ckM_isFour (k_isFour _) rfl rfl rfl rfl ?_
  refine zj_if_eq 2 rfl rfl (fun c4 => ?_) (fun c4 => ?_)
  · exact absurd (zr_of (n := 4) (by omega) (by decide)) (zo_0.mp c4)
  · refine zj_iload_n 3 rfl rfl rfl ?_
    refine zj_csx 4 rfl rfl lk_8_57 ckM_isFour (k_isFour _) rfl rfl rfl rfl ?_
    refine zj_if_eq 5 rfl rfl (fun c11 => ?_) (fun c11 => ?_)
    · exact absurd (zr_of (n := 4) (by omega) (by decide)) (zo_0.mp c11)
    · refine zj_iload_n 6 rfl rfl rfl ?_
      refine zj_csx 7 rfl rfl lk_8_57 ckM_isFour (k_isFour _) rfl rfl rfl rfl ?_
      refine zj_if_eq 8 rfl rfl (fun c18 => ?_) (fun c18 => ?_)
      · exact absurd (zr_of (n := 4) (by omega) (by decide)) (zo_0.mp c18)
      · refine zj_aload_n 9 rfl rfl rfl ?_
        refine zj_iload_n 10 rfl rfl rfl ?_
        refine zj_iload_n 11 rfl rfl rfl ?_
        refine zj_iload_n 12 rfl rfl rfl ?_
        refine zj_cvxX 13 rfl rfl lk_8_181 ckM_drawnFar (k_drawnFar l w g many mk hl hw hg hm hmany hmk) rfl mw_0 rfl rfl rfl (fun s1 hP1 => ?_)
        obtain ⟨M1, rfl, hc1⟩ := hP1
        refine zj_goto 14 rfl rfl ?_
        refine zj_ireturn 16 rfl rfl rfl ?_
        exact ⟨rfl, rfl, M1, rfl, hc1⟩
theorem k_Mfar_bad (l w g : Int32) (hb : ¬ (zr l 4 ∧ zr w 4 ∧ zr g 4)) : zM E YM_far 9 [.ref a, .int l, .int w, .int g] (mw σ a M) (some (.int (-2))) (mw σ a M) := by
  refine zM.of oM_far (by decide +kernel) rfl rfl (fun n => ?_)
  refine zj_iload_n 0 rfl rfl rfl ?_
  refine zj_csx 1 rfl rfl lk_8_57 ckM_isFour (k_isFour _) rfl rfl rfl rfl ?_
  refine zj_if_eq 2 rfl rfl (fun c4 => ?_) (fun c4 => ?_)
  · refine zj_bipush 15 (-2) rfl rfl (by decide) ?_
    refine zj_ireturn 16 rfl rfl rfl ?_
    exact ⟨rfl, rfl, rfl⟩
  · refine zj_iload_n 3 rfl rfl rfl ?_
    refine zj_csx 4 rfl rfl lk_8_57 ckM_isFour (k_isFour _) rfl rfl rfl rfl ?_
    refine zj_if_eq 5 rfl rfl (fun c11 => ?_) (fun c11 => ?_)
    · refine zj_bipush 15 (-2) rfl rfl (by decide) ?_
      refine zj_ireturn 16 rfl rfl rfl ?_
      exact ⟨rfl, rfl, rfl⟩
    · refine zj_iload_n 6 rfl rfl rfl ?_
      refine zj_csx 7 rfl rfl lk_8_57 ckM_isFour (k_isFour _) rfl rfl rfl rfl ?_
      refine zj_if_eq 8 rfl rfl (fun c18 => ?_) (fun c18 => ?_)
      · refine zj_bipush 15 (-2) rfl rfl (by decide) ?_
        refine zj_ireturn 16 rfl rfl rfl ?_
        exact ⟨rfl, rfl, rfl⟩
      · exact absurd ⟨zo_n0.mp c4, zo_n0.mp c11, zo_n0.mp c18⟩ hb
end
