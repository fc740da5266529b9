/-! the reference: pictures -/
theorem zfl_up' {α : Type} {g f : Nat → α} {k : Nat} {x : α} (h : x = g k) : va_up (zfl g f k) k x = zfl g f (k + 1) := by rw [h, zfl_up]
theorem mw_fl {σ : zH} {a : Nat} {M : zMo} (j : Nat) {g f : Nat → Int32} {k : Nat} {x : Int32} (h : x = g k) : mw σ a ((M.sA j (zfl g f k)).sA j (va_up ((M.sA j (zfl g f k)).1 j) k x)) = mw σ a (M.sA j (zfl g f (k + 1))) := by
  have e : (M.sA j (zfl g f k)).1 j = zfl g f k := by simp [va_up]
  rw [e, zMo.sA_sA, zfl_up' h]
theorem mw_fl0 {σ : zH} {a : Nat} (M : zMo) (j : Nat) (g : Nat → Int32) : mw σ a M = mw σ a (M.sA j (zfl g (M.1 j) 0)) := by rw [zfl_0, zMo.sA_self]
/-- one row of the sum -/
def mBl1 (pic : Nat → Int32) (g r c i : Nat) (s : Int32 × Nat) : Nat → Int32 × Nat
  | 0 => s
  | j + 1 => let t := mBl1 pic g r c i s j
    if (g ≤ r + i ∧ r + i - g ≤ 8) ∧ (g ≤ c + j ∧ c + j - g ≤ 8) then (t.1 + pic (9 * (r + i - g) + (c + j - g)), t.2 + 1) else t
def mBl (pic : Nat → Int32) (g r c : Nat) : Nat → Int32 × Nat
  | 0 => (0, 0)
  | i + 1 => mBl1 pic g r c i (mBl pic g r c i) (2 * g + 1)
def mBlur (pic : Nat → Int32) (g r c : Nat) : Int32 := (mBl pic g r c (2 * g + 1)).1 / nI (mBl pic g r c (2 * g + 1)).2
theorem mBl1_n (pic : Nat → Int32) (g r c i : Nat) (s : Int32 × Nat) (j : Nat) : (mBl1 pic g r c i s j).2 ≤ s.2 + j ∧ s.2 ≤ (mBl1 pic g r c i s j).2 := by
  induction j with
  | zero => simp [mBl1]
  | succ j ih => simp only [mBl1]; split <;> (try simp only) <;> omega
theorem mBl_n (pic : Nat → Int32) (g r c i : Nat) : (mBl pic g r c i).2 ≤ i * (2 * g + 1) := by
  induction i with
  | zero => simp [mBl]
  | succ i ih =>
    have h := mBl1_n pic g r c i (mBl pic g r c i) (2 * g + 1)
    simp only [mBl]; rw [Nat.add_mul, Nat.one_mul]; omega
theorem zy_lt {p g : Nat} (h : p < g) (hg : g < 2 ^ 20) : (nI p - nI g) < 0 := pk_sneg (by omega) h
section
variable {E : zE} {σ : zH} {a : Nat} {M : zMo}
theorem l_layWorld (w : Nat) (dk : Int32) (hw : w < 4) : ∀ (m : Nat) (k : Nat) (o4 o5 : Option Value), (k + m = 81) → ∀ n, zB E YM_layWorld 1 n (none) (mw σ a (M.sA 3 (zfl (mPic M.row w dk) M.picture 81))) (mw σ a (M.sA 3 (zfl (mPic M.row w dk) M.picture k))) 2 [some (.ref a), some (.int (nI w)), some (.int dk), some (.int (nI k)), o4, o5] [] := by
  intro m
  induction m using Nat.strongRecOn with
  | ind m ih =>
  intro k o4 o5 hk n
  refine zj_iload_n 2 rfl rfl rfl ?_
  refine zj_bipush 3 (81) rfl rfl (by decide) ?_
  refine zn_icmp_ge 4 (k) (81) rfl rfl rfl rfl (by omega) (by omega) (fun c5 => ?_) (fun c5 => ?_)
  · refine zj_return 56 rfl rfl rfl ?_
    obtain rfl : k = 81 := by omega
    exact ⟨rfl, rfl, rfl⟩
  · refine zj_aload_n 5 rfl rfl rfl ?_
    refine zj_get 6 rfl rfl mw_0 rfl ?_
    refine zj_sipush 7 (324) rfl rfl (by decide) ?_
    refine zj_bipush 8 (9) rfl rfl (by decide) ?_
    refine zj_iload_n 9 rfl rfl rfl ?_
    refine zn_imul 10 (9) (w) rfl rfl rfl rfl ?_
    refine zn_iadd 11 (324) (9 * w) rfl rfl rfl rfl ?_
    refine zj_iload_n 12 rfl rfl rfl ?_
    refine zj_bipush 13 (9) rfl rfl (by decide) ?_
    refine zn_idiv 14 (k) (9) rfl rfl rfl rfl (by omega) (by omega) (by omega) ?_
    refine zn_iadd 15 ((324) + (9 * w)) (k / 9) rfl rfl rfl rfl ?_
    refine zn_iald 16 (((324) + (9 * w)) + (k / 9)) rfl rfl (show mw σ a (M.sA 3 _) (a + 1) = some (.inl (0, 818, .inl M.row)) from mw_1) rfl (by omega) (by decide) ?_
    refine zj_iload_n 17 rfl rfl rfl ?_
    refine zj_bipush 18 (9) rfl rfl (by decide) ?_
    refine zn_irem 19 (k) (9) rfl rfl rfl rfl (by omega) (by omega) (by omega) ?_
    refine zj_ishr 20 rfl rfl ?_
    refine zj_iconst 21 (1) rfl rfl (by decide) ?_
    refine zj_iand 22 rfl rfl ?_
    refine zj_iconst 23 (1) rfl rfl (by decide) ?_
    refine zj_icmp_ne 24 rfl rfl (fun c34 => ?_) (fun c34 => ?_)
    · refine zj_iconst 27 (0) rfl rfl (by decide) ?_
      refine zj_istore 28 rfl rfl ?_
      refine zj_aload_n 29 rfl rfl rfl ?_
      refine zj_get 30 rfl rfl mw_0 rfl ?_
      refine zj_bipush 31 (81) rfl rfl (by decide) ?_
      refine zj_iload_n 32 rfl rfl rfl ?_
      refine zn_imul 33 (81) (w) rfl rfl rfl rfl ?_
      refine zj_iload_n 34 rfl rfl rfl ?_
      refine zn_iadd 35 (81 * w) (k) rfl rfl rfl rfl ?_
      refine zn_iald 36 ((81 * w) + (k)) rfl rfl (show mw σ a (M.sA 3 _) (a + 1) = some (.inl (0, 818, .inl M.row)) from mw_1) rfl (by omega) (by decide) ?_
      refine zj_iload 37 rfl rfl rfl ?_
      refine zj_if_eq 38 rfl rfl (fun c57 => ?_) (fun c57 => ?_)
      · refine zj_iconst 41 (0) rfl rfl (by decide) ?_
        refine zj_iadd 42 rfl rfl ?_
        refine zj_istore 43 rfl rfl ?_
        refine zj_aload_n 44 rfl rfl rfl ?_
        refine zj_get 45 rfl rfl mw_0 rfl ?_
        refine zj_iload_n 46 rfl rfl rfl ?_
        refine zj_iload 47 rfl rfl rfl ?_
        refine zj_bipush 48 (15) rfl rfl (by decide) ?_
        refine zj_icmp_le 49 rfl rfl (fun c77 => ?_) (fun c77 => ?_)
        · refine zj_iload 52 rfl rfl rfl ?_
          refine zn_iast 53 (k) rfl rfl mw_4 rfl (by omega) (by decide) mw_u4 ?_
          refine zn_iinc 54 (k) rfl rfl rfl rfl ?_
          refine zj_goto 55 rfl rfl ?_
          rw [mw_fl 3 (by unfold mPic; (try simp only [Int32.add_zero] at c77); simp [c34, c77])]
          exact ih (m - 1) (by omega) (k + 1) _ _ (by omega) n
        · refine zj_bipush 50 (15) rfl rfl (by decide) ?_
          refine zj_goto 51 rfl rfl ?_
          refine zn_iast 53 (k) rfl rfl mw_4 rfl (by omega) (by decide) mw_u4 ?_
          refine zn_iinc 54 (k) rfl rfl rfl rfl ?_
          refine zj_goto 55 rfl rfl ?_
          rw [mw_fl 3 (by unfold mPic; (try simp only [Int32.add_zero] at c77); simp [c34, c77])]
          exact ih (m - 1) (by omega) (k + 1) _ _ (by omega) n
      · exact absurd c57 (by decide)
    · refine zj_iconst 25 (1) rfl rfl (by decide) ?_
      refine zj_goto 26 rfl rfl ?_
      refine zj_istore 28 rfl rfl ?_
      refine zj_aload_n 29 rfl rfl rfl ?_
      refine zj_get 30 rfl rfl mw_0 rfl ?_
      refine zj_bipush 31 (81) rfl rfl (by decide) ?_
      refine zj_iload_n 32 rfl rfl rfl ?_
      refine zn_imul 33 (81) (w) rfl rfl rfl rfl ?_
      refine zj_iload_n 34 rfl rfl rfl ?_
      refine zn_iadd 35 (81 * w) (k) rfl rfl rfl rfl ?_
      refine zn_iald 36 ((81 * w) + (k)) rfl rfl (show mw σ a (M.sA 3 _) (a + 1) = some (.inl (0, 818, .inl M.row)) from mw_1) rfl (by omega) (by decide) ?_
      refine zj_iload 37 rfl rfl rfl ?_
      refine zj_if_eq 38 rfl rfl (fun c57 => ?_) (fun c57 => ?_)
      · exact absurd c57 (by decide)
      · refine zj_iload_n 39 rfl rfl rfl ?_
        refine zj_goto 40 rfl rfl ?_
        refine zj_iadd 42 rfl rfl ?_
        refine zj_istore 43 rfl rfl ?_
        refine zj_aload_n 44 rfl rfl rfl ?_
        refine zj_get 45 rfl rfl mw_0 rfl ?_
        refine zj_iload_n 46 rfl rfl rfl ?_
        refine zj_iload 47 rfl rfl rfl ?_
        refine zj_bipush 48 (15) rfl rfl (by decide) ?_
        refine zj_icmp_le 49 rfl rfl (fun c77 => ?_) (fun c77 => ?_)
        · refine zj_iload 52 rfl rfl rfl ?_
          refine zn_iast 53 (k) rfl rfl mw_4 rfl (by omega) (by decide) mw_u4 ?_
          refine zn_iinc 54 (k) rfl rfl rfl rfl ?_
          refine zj_goto 55 rfl rfl ?_
          rw [mw_fl 3 (by unfold mPic; (try simp only [Int32.add_zero] at c77); simp [c34, c77])]
          exact ih (m - 1) (by omega) (k + 1) _ _ (by omega) n
        · refine zj_bipush 50 (15) rfl rfl (by decide) ?_
          refine zj_goto 51 rfl rfl ?_
          refine zn_iast 53 (k) rfl rfl mw_4 rfl (by omega) (by decide) mw_u4 ?_
          refine zn_iinc 54 (k) rfl rfl rfl rfl ?_
          refine zj_goto 55 rfl rfl ?_
          rw [mw_fl 3 (by unfold mPic; (try simp only [Int32.add_zero] at c77); simp [c34, c77])]
          exact ih (m - 1) (by omega) (k + 1) _ _ (by omega) n
theorem k_layWorld (w : Nat) (dk : Int32) (hw : w < 4) : zM E YM_layWorld 1 [.ref a, .int (nI w), .int dk] (mw σ a M) (none) (mw σ a (M.sA 3 (zfl (mPic M.row w dk) M.picture 81))) := by
  refine zM.of oM_layWorld (by decide +kernel) rfl rfl (fun n => ?_)
  refine zj_iconst 0 (0) rfl rfl (by decide) ?_
  refine zj_istore_n 1 rfl rfl ?_
  rw [mw_fl0 M 3 (mPic M.row w dk)]
  exact l_layWorld w dk hw 81 0 _ _ (by omega) n
theorem k_isLook (x1 x2 x3 x4 : Int32) : zM E YM_isLook 3 [.int x1, .int x2, .int x3, .int x4] (σ) (some (.int (zo (zr x1 4 ∧ zr x2 16 ∧ zr x3 4 ∧ zr x4 5)))) (σ) := by
  refine zM.of oM_isLook (by decide +kernel) rfl rfl (fun n => ?_)
  refine zj_iload_n 0 rfl rfl rfl ?_
  refine zj_csx 1 rfl rfl lk_8_57 ckM_isFour (k_isFour _) rfl rfl rfl rfl ?_
  refine zj_if_eq 2 rfl rfl (fun c4 => ?_) (fun c4 => ?_)
  · refine zj_iconst 20 (0) rfl rfl (by decide) ?_
    refine zj_zreturn 21 rfl rfl rfl rfl ?_
    first | exact ⟨zrt (zo_t ⟨zo_n0.mp c4, zo_n0.mp c16, zo_n0.mp c23, zo_n0.mp c35⟩), rfl, rfl⟩ | exact ⟨zrt (zo_f (fun h => zo_0.mp c4 h.1)), rfl, rfl⟩ | exact ⟨zrt (zo_f (fun h => zo_0.mp c16 h.2.1)), rfl, rfl⟩ | exact ⟨zrt (zo_f (fun h => zo_0.mp c23 h.2.2.1)), rfl, rfl⟩ | exact ⟨zrt (zo_f (fun h => zo_0.mp c35 h.2.2.2)), rfl, rfl⟩
  · refine zj_iload_n 3 rfl rfl rfl ?_
    refine zj_i2l 4 rfl rfl ?_
    refine zj_lconst 5 (0) rfl rfl (by decide) ?_
    refine zj_ldc2 6 (15) rfl rfl (by decide) ?_
    refine zj_csx 7 rfl rfl lk_8_51 ckM_in (k_in0 _ _ 16 (by decide)) rfl rfl rfl rfl ?_
    refine zj_if_eq 8 rfl rfl (fun c16 => ?_) (fun c16 => ?_)
    · refine zj_iconst 20 (0) rfl rfl (by decide) ?_
      refine zj_zreturn 21 rfl rfl rfl rfl ?_
      first | exact ⟨zrt (zo_t ⟨zo_n0.mp c4, zo_n0.mp c16, zo_n0.mp c23, zo_n0.mp c35⟩), rfl, rfl⟩ | exact ⟨zrt (zo_f (fun h => zo_0.mp c4 h.1)), rfl, rfl⟩ | exact ⟨zrt (zo_f (fun h => zo_0.mp c16 h.2.1)), rfl, rfl⟩ | exact ⟨zrt (zo_f (fun h => zo_0.mp c23 h.2.2.1)), rfl, rfl⟩ | exact ⟨zrt (zo_f (fun h => zo_0.mp c35 h.2.2.2)), rfl, rfl⟩
    · refine zj_iload_n 9 rfl rfl rfl ?_
      refine zj_csx 10 rfl rfl lk_8_57 ckM_isFour (k_isFour _) rfl rfl rfl rfl ?_
      refine zj_if_eq 11 rfl rfl (fun c23 => ?_) (fun c23 => ?_)
      · refine zj_iconst 20 (0) rfl rfl (by decide) ?_
        refine zj_zreturn 21 rfl rfl rfl rfl ?_
        first | exact ⟨zrt (zo_t ⟨zo_n0.mp c4, zo_n0.mp c16, zo_n0.mp c23, zo_n0.mp c35⟩), rfl, rfl⟩ | exact ⟨zrt (zo_f (fun h => zo_0.mp c4 h.1)), rfl, rfl⟩ | exact ⟨zrt (zo_f (fun h => zo_0.mp c16 h.2.1)), rfl, rfl⟩ | exact ⟨zrt (zo_f (fun h => zo_0.mp c23 h.2.2.1)), rfl, rfl⟩ | exact ⟨zrt (zo_f (fun h => zo_0.mp c35 h.2.2.2)), rfl, rfl⟩
      · refine zj_iload_n 12 rfl rfl rfl ?_
        refine zj_i2l 13 rfl rfl ?_
        refine zj_lconst 14 (0) rfl rfl (by decide) ?_
        refine zj_ldc2 15 (4) rfl rfl (by decide) ?_
        refine zj_csx 16 rfl rfl lk_8_51 ckM_in (k_in0 _ _ 5 (by decide)) rfl rfl rfl rfl ?_
        refine zj_if_eq 17 rfl rfl (fun c35 => ?_) (fun c35 => ?_)
        · refine zj_iconst 20 (0) rfl rfl (by decide) ?_
          refine zj_zreturn 21 rfl rfl rfl rfl ?_
          first | exact ⟨zrt (zo_t ⟨zo_n0.mp c4, zo_n0.mp c16, zo_n0.mp c23, zo_n0.mp c35⟩), rfl, rfl⟩ | exact ⟨zrt (zo_f (fun h => zo_0.mp c4 h.1)), rfl, rfl⟩ | exact ⟨zrt (zo_f (fun h => zo_0.mp c16 h.2.1)), rfl, rfl⟩ | exact ⟨zrt (zo_f (fun h => zo_0.mp c23 h.2.2.1)), rfl, rfl⟩ | exact ⟨zrt (zo_f (fun h => zo_0.mp c35 h.2.2.2)), rfl, rfl⟩
        · refine zj_iconst 18 (1) rfl rfl (by decide) ?_
          refine zj_goto 19 rfl rfl ?_
          refine zj_zreturn 21 rfl rfl rfl rfl ?_
          first | exact ⟨zrt (zo_t ⟨zo_n0.mp c4, zo_n0.mp c16, zo_n0.mp c23, zo_n0.mp c35⟩), rfl, rfl⟩ | exact ⟨zrt (zo_f (fun h => zo_0.mp c4 h.1)), rfl, rfl⟩ | exact ⟨zrt (zo_f (fun h => zo_0.mp c16 h.2.1)), rfl, rfl⟩ | exact ⟨zrt (zo_f (fun h => zo_0.mp c23 h.2.2.1)), rfl, rfl⟩ | exact ⟨zrt (zo_f (fun h => zo_0.mp c35 h.2.2.2)), rfl, rfl⟩
theorem zsubI {p g : Nat} (h : g ≤ p) : nI p - nI g = nI (p - g) := pk_sub h
theorem zin_y {p g : Nat} (hp : p < 2 ^ 20) (hg : g < 2 ^ 20) : zr (nI p - nI g) 9 ↔ (g ≤ p ∧ p - g ≤ 8) := by
  unfold zr
  rw [pk_sub_toInt (by omega) (by omega)]
  omega
theorem zsub1 (p g : Nat) : nI p - nI g + 1 = nI (p + 1) - nI g := by
  rw [nI_succ]
  apply Int32.toBitVec_inj.mp
  simp only [Int32.toBitVec_add, Int32.toBitVec_sub]
  rw [BitVec.sub_eq_add_neg, BitVec.sub_eq_add_neg, BitVec.add_assoc, BitVec.add_comm (-_), ← BitVec.add_assoc]
theorem zsub_gt {p q g : Nat} (hp : p < 2 ^ 20) (hq : q < 2 ^ 20) (hg : g < 2 ^ 20) : nI q < nI p - nI g ↔ q + g < p := by
  rw [Int32.lt_iff_toInt_lt, pk_sub_toInt (by omega) (by omega), nI_toInt (by omega)]; omega
theorem l_blur_in (g r c i : Nat) (hg : g < 4) (hr : r < 9) (hc : c < 9) (hi : i ≤ 2 * g) (S : Int32 × Nat) (hS : S.2 ≤ 100) (rr : Option Value) (ss : zH) (kk : ∀ n o7, zB E YM_blurred 2 n rr ss (mw σ a M) 85 [some (.ref a), some (.int (nI g)), some (.int (nI r)), some (.int (nI c)), some (.int (mBl1 M.picture g r c i S (2 * g + 1)).1), some (.int (nI (mBl1 M.picture g r c i S (2 * g + 1)).2)), some (.int (nI (r + i) - nI g)), o7] []) : ∀ (m : Nat) (j : Nat), (j + m = 2 * g + 1) → ∀ n, zB E YM_blurred 2 n (rr) (ss) (mw σ a M) 24 [some (.ref a), some (.int (nI g)), some (.int (nI r)), some (.int (nI c)), some (.int (mBl1 M.picture g r c i S j).1), some (.int (nI (mBl1 M.picture g r c i S j).2)), some (.int (nI (r + i) - nI g)), some (.int (nI (c + j) - nI g))] [] := by
  intro m
  induction m using Nat.strongRecOn with
  | ind m ih =>
  intro j hj n
  refine zj_iload 17 rfl rfl rfl ?_
  refine zj_iload_n 18 rfl rfl rfl ?_
  refine zj_iload_n 19 rfl rfl rfl ?_
  refine zn_iadd 20 (c) (g) rfl rfl rfl rfl ?_
  refine zj_icmp_gt 21 rfl rfl (fun c29 => ?_) (fun c29 => ?_)
  · have e : j = 2 * g + 1 := by have := (zsub_gt (by omega) (by omega) (by omega)).mp c29; omega
    subst e
    exact kk n _
  · have hj2 : j ≤ 2 * g := by have := mt (zsub_gt (p := c + j) (q := c + g) (g := g) (by omega) (by omega) (by omega)).mpr c29; omega
    have hn2 := (mBl1_n M.picture g r c i S j).1
    refine zj_iload 22 rfl rfl rfl ?_
    refine zj_i2l 23 rfl rfl ?_
    refine zj_lconst 24 (0) rfl rfl (by decide) ?_
    refine zj_ldc2 25 (8) rfl rfl (by decide) ?_
    refine zj_csx 26 rfl rfl lk_8_51 ckM_in (k_in0 _ _ 9 (by decide)) rfl rfl rfl rfl ?_
    refine zj_if_eq 27 rfl rfl (fun c42 => ?_) (fun c42 => ?_)
    · refine zj_iinc 46 (1) rfl rfl rfl (by decide) ?_
      refine zj_goto 47 rfl rfl ?_
      first
        | (rw [show c + j - g + 1 = c + (j + 1) - g by omega, ← zsubI (show g ≤ c + (j + 1) by omega), ← zsubI y1]
           have e : mBl1 M.picture g r c i S (j + 1) = ((mBl1 M.picture g r c i S j).1 + M.picture (9 * (r + i - g) + (c + j - g)), (mBl1 M.picture g r c i S j).2 + 1) := by simp only [mBl1]; rw [if_pos ⟨⟨y1, y2⟩, ⟨x1, x2⟩⟩]
           have h := ih (m - 1) (by omega) (j + 1) (by omega) n
           rw [e] at h
           exact h)
        | (rw [zsub1]
           have e : mBl1 M.picture g r c i S (j + 1) = mBl1 M.picture g r c i S j := by
             simp only [mBl1]
             refine if_neg (fun hh => ?_)
             first
               | exact zo_0.mp c55 ((zin_y (by omega) (by omega)).mpr hh.2)
               | exact zo_0.mp c42 ((zin_y (by omega) (by omega)).mpr hh.1)
           have h := ih (m - 1) (by omega) (j + 1) (by omega) n
           rw [e] at h
           exact h)
    · refine zj_iload 28 rfl rfl rfl ?_
      refine zj_i2l 29 rfl rfl ?_
      refine zj_lconst 30 (0) rfl rfl (by decide) ?_
      refine zj_ldc2 31 (8) rfl rfl (by decide) ?_
      refine zj_csx 32 rfl rfl lk_8_51 ckM_in (k_in0 _ _ 9 (by decide)) rfl rfl rfl rfl ?_
      refine zj_if_eq 33 rfl rfl (fun c55 => ?_) (fun c55 => ?_)
      · refine zj_iinc 46 (1) rfl rfl rfl (by decide) ?_
        refine zj_goto 47 rfl rfl ?_
        first
          | (rw [show c + j - g + 1 = c + (j + 1) - g by omega, ← zsubI (show g ≤ c + (j + 1) by omega), ← zsubI y1]
             have e : mBl1 M.picture g r c i S (j + 1) = ((mBl1 M.picture g r c i S j).1 + M.picture (9 * (r + i - g) + (c + j - g)), (mBl1 M.picture g r c i S j).2 + 1) := by simp only [mBl1]; rw [if_pos ⟨⟨y1, y2⟩, ⟨x1, x2⟩⟩]
             have h := ih (m - 1) (by omega) (j + 1) (by omega) n
             rw [e] at h
             exact h)
          | (rw [zsub1]
             have e : mBl1 M.picture g r c i S (j + 1) = mBl1 M.picture g r c i S j := by
               simp only [mBl1]
               refine if_neg (fun hh => ?_)
               first
                 | exact zo_0.mp c55 ((zin_y (by omega) (by omega)).mpr hh.2)
                 | exact zo_0.mp c42 ((zin_y (by omega) (by omega)).mpr hh.1)
             have h := ih (m - 1) (by omega) (j + 1) (by omega) n
             rw [e] at h
             exact h)
      · obtain ⟨y1, y2⟩ := (zin_y (by omega) (by omega)).mp (zo_n0.mp c42)
        obtain ⟨x1, x2⟩ := (zin_y (by omega) (by omega)).mp (zo_n0.mp c55)
        rw [zsubI y1, zsubI x1]
        refine zj_iload 34 rfl rfl rfl ?_
        refine zj_aload_n 35 rfl rfl rfl ?_
        refine zj_get 36 rfl rfl mw_0 rfl ?_
        refine zj_bipush 37 (9) rfl rfl (by decide) ?_
        refine zj_iload 38 rfl rfl rfl ?_
        refine zn_imul 39 (9) (r + i - g) rfl rfl rfl rfl ?_
        refine zj_iload 40 rfl rfl rfl ?_
        refine zn_iadd 41 ((9) * (r + i - g)) (c + j - g) rfl rfl rfl rfl ?_
        refine zn_iald 42 (((9) * (r + i - g)) + (c + j - g)) rfl rfl mw_4 rfl (by omega) (by decide) ?_
        refine zj_iadd 43 rfl rfl ?_
        refine zj_istore 44 rfl rfl ?_
        refine zn_iinc 45 ((mBl1 M.picture g r c i S j).2) rfl rfl rfl rfl ?_
        refine zn_iinc 46 (c + j - g) rfl rfl rfl rfl ?_
        refine zj_goto 47 rfl rfl ?_
        first
          | (rw [show c + j - g + 1 = c + (j + 1) - g by omega, ← zsubI (show g ≤ c + (j + 1) by omega), ← zsubI y1]
             have e : mBl1 M.picture g r c i S (j + 1) = ((mBl1 M.picture g r c i S j).1 + M.picture (9 * (r + i - g) + (c + j - g)), (mBl1 M.picture g r c i S j).2 + 1) := by simp only [mBl1]; rw [if_pos ⟨⟨y1, y2⟩, ⟨x1, x2⟩⟩]
             have h := ih (m - 1) (by omega) (j + 1) (by omega) n
             rw [e] at h
             exact h)
          | (rw [zsub1]
             have e : mBl1 M.picture g r c i S (j + 1) = mBl1 M.picture g r c i S j := by
               simp only [mBl1]
               refine if_neg (fun hh => ?_)
               first
                 | exact zo_0.mp c55 ((zin_y (by omega) (by omega)).mpr hh.2)
                 | exact zo_0.mp c42 ((zin_y (by omega) (by omega)).mpr hh.1)
             have h := ih (m - 1) (by omega) (j + 1) (by omega) n
             rw [e] at h
             exact h)
theorem mBl1_hit (pic : Nat → Int32) {g r c i : Nat} (s : Int32 × Nat) {j k : Nat} (h : (g ≤ r + i ∧ r + i - g ≤ 8) ∧ (g ≤ c + j ∧ c + j - g ≤ 8)) (hk : j < k) : s.2 + 1 ≤ (mBl1 pic g r c i s k).2 := by
  induction k with
  | zero => omega
  | succ k ih =>
    by_cases e : j = k
    · subst e
      simp only [mBl1]; rw [if_pos h]
      have := (mBl1_n pic g r c i s j).2
      simp only; omega
    · have := ih (by omega)
      simp only [mBl1]; split <;> (try simp only) <;> omega
theorem mBl_mono (pic : Nat → Int32) (g r c : Nat) {i k : Nat} (h : i ≤ k) : (mBl pic g r c i).2 ≤ (mBl pic g r c k).2 := by
  induction k with
  | zero =>
    obtain rfl : i = 0 := by omega
    exact Nat.le_refl _
  | succ k ih =>
    by_cases e : i = k + 1
    · subst e; exact Nat.le_refl _
    · have := ih (by omega)
      simp only [mBl]
      have := (mBl1_n pic g r c k (mBl pic g r c k) (2 * g + 1)).2
      omega
theorem mBl_pos (pic : Nat → Int32) (g r c : Nat) (hr : r < 9) (hc : c < 9) : 0 < (mBl pic g r c (2 * g + 1)).2 := by
  have h1 : (mBl pic g r c g).2 + 1 ≤ (mBl pic g r c (g + 1)).2 := by
    simp only [mBl]
    exact mBl1_hit pic _ (j := g) ⟨⟨by omega, by omega⟩, by omega, by omega⟩ (by omega)
  have h2 := mBl_mono pic g r c (i := g + 1) (k := 2 * g + 1) (by omega)
  omega
theorem l_blur_out (g r c : Nat) (hg : g < 4) (hr : r < 9) (hc : c < 9) : ∀ (m : Nat) (i : Nat) (o7 : Option Value), (i + m = 2 * g + 1) → ∀ n, zB E YM_blurred 2 n (some (.int (mBlur M.picture g r c))) (mw σ a M) (mw σ a M) 11 [some (.ref a), some (.int (nI g)), some (.int (nI r)), some (.int (nI c)), some (.int (mBl M.picture g r c i).1), some (.int (nI (mBl M.picture g r c i).2)), some (.int (nI (r + i) - nI g)), o7] [] := by
  intro m
  induction m using Nat.strongRecOn with
  | ind m ih =>
  intro i o7 hi n
  refine zj_iload 8 rfl rfl rfl ?_
  refine zj_iload_n 9 rfl rfl rfl ?_
  refine zj_iload_n 10 rfl rfl rfl ?_
  refine zn_iadd 11 (r) (g) rfl rfl rfl rfl ?_
  refine zj_icmp_gt 12 rfl rfl (fun c16 => ?_) (fun c16 => ?_)
  · have e : i = 2 * g + 1 := by have := (zsub_gt (by omega) (by omega) (by omega)).mp c16; omega
    subst e
    have hn1 := mBl_pos M.picture g r c hr hc
    have hn2 := mBl_n M.picture g r c (2 * g + 1)
    have hn3 : (2 * g + 1) * (2 * g + 1) ≤ 7 * 7 := Nat.mul_le_mul (by omega) (by omega)
    refine zj_iload 50 rfl rfl rfl ?_
    refine zj_iload 51 rfl rfl rfl ?_
    refine zj_idiv 52 rfl rfl (nI_ne0 hn1 (by omega)) ?_
    exact zj_ireturn 53 rfl rfl rfl ⟨rfl, rfl, rfl⟩
  · have hi2 : i ≤ 2 * g := by have := mt (zsub_gt (p := r + i) (q := r + g) (g := g) (by omega) (by omega) (by omega)).mpr c16; omega
    have hn2 := mBl_n M.picture g r c i
    have hn3 : i * (2 * g + 1) ≤ 6 * 7 := Nat.mul_le_mul (by omega) (by omega)
    refine zj_iload_n 13 rfl rfl rfl ?_
    refine zj_iload_n 14 rfl rfl rfl ?_
    refine zj_isub 15 rfl rfl ?_
    refine zj_istore 16 rfl rfl ?_
    refine l_blur_in g r c i hg hr hc hi2 (mBl M.picture g r c i) (by omega) _ _ (fun n o7 => ?_) (2 * g + 1) 0 (by omega) n
    refine zj_iinc 48 (1) rfl rfl rfl (by decide) ?_
    refine zj_goto 49 rfl rfl ?_
    rw [zsub1]
    exact ih (m - 1) (by omega) (i + 1) _ (by omega) n
theorem k_blurred (g r c : Nat) (hg : g < 4) (hr : r < 9) (hc : c < 9) : zM E YM_blurred 2 [.ref a, .int (nI g), .int (nI r), .int (nI c)] (mw σ a M) (some (.int (mBlur M.picture g r c))) (mw σ a M) := by
  refine zM.of oM_blurred (by decide +kernel) rfl rfl (fun n => ?_)
  refine zj_iconst 0 (0) rfl rfl (by decide) ?_
  refine zj_istore 1 rfl rfl ?_
  refine zj_iconst 2 (0) rfl rfl (by decide) ?_
  refine zj_istore 3 rfl rfl ?_
  refine zj_iload_n 4 rfl rfl rfl ?_
  refine zj_iload_n 5 rfl rfl rfl ?_
  refine zj_isub 6 rfl rfl ?_
  refine zj_istore 7 rfl rfl ?_
  exact l_blur_out g r c hg hr hc (2 * g + 1) 0 _ (by omega) n
end
