/-! the component: weighed, season, count, chance, the digest, images -/
theorem pWB_cg {w w' : Nat → Int32} {a a' : Int32} (what : Nat) (ha : a = a') : ∀ n, (∀ k, k < n → w k = w' k) → pWB w a what n = pWB w' a' what n
  | 0, _ => rfl
  | n + 1, h => by
    simp only [pWB]
    rw [pWB_cg what ha n (fun k hk => h k (by omega)), h n (by omega), ha]
theorem pTR_cg {f f' : Nat → Int32} (h0 : Int64) : ∀ n, (∀ k, k < n → f k = f' k) → pTR f h0 n = pTR f' h0 n
  | 0, _ => rfl
  | n + 1, h => by
    simp only [pTR]
    rw [pTR_cg h0 n (fun k hk => h k (by omega)), h n (by omega)]
theorem bk_w {B : zMo} {r : Nat → Int32} {ns : Nat} (hb : bkR B r) (hz : ∀ s, s < ns → zr (rSo r s) 8) (hb2 : ns ≤ 16) (line : Int32) : pW (B.1 4) (fun s => B.1 1 (B.1 2 s).toNatClampNeg) line ns = pW (rSl r) (mWt r) line ns := pW_cg line ns (fun k hk => ⟨(hb.2.1 k (by omega)).2.2, bk_wt hb hz hb2 k hk⟩)
theorem bk_wa {B : zMo} {r : Nat → Int32} {ns : Nat} (hb : bkR B r) (hz : ∀ s, s < ns → zr (rSo r s) 8) (hb2 : ns ≤ 16) : pWA (fun s => B.1 1 (B.1 2 s).toNatClampNeg) ns = pWA (mWt r) ns := pWA_cg ns (fun k hk => bk_wt hb hz hb2 k hk)
theorem bk_z {B : zMo} {r : Nat → Int32} {ns : Nat} (hb : bkR B r) (hz : ∀ s, s < ns → zr (rSo r s) 8) (hb2 : ns ≤ 16) : ∀ s, s < ns → zr (B.1 2 s) 8 := fun s hs => by rw [(hb.2.1 s (by omega)).1]; exact hz s hs
theorem zge_nI {x : Int32} (h : 0 ≤ x.toInt) : ∃ j : Nat, j < 2 ^ 31 ∧ x = nI j := zr_nI (n := 2 ^ 31) ⟨h, by have := x.toInt_lt; omega⟩
/-! Euclid -/
def eU : Nat → Nat → Nat → Prop
  | 0, _, y => y = 0
  | m + 1, x, y => y = 0 ∨ eU m y (x % y)
theorem eU_mono : ∀ m x y, eU m x y → eU (m + 1) x y
  | 0, _, _, h => Or.inl h
  | m + 1, x, y, h => h.elim Or.inl (fun g => Or.inr (eU_mono m _ _ g))
theorem mod_half {y z : Nat} (hz : 0 < z) (h : z < y) : 2 * (y % z) < y := by
  have h1 := Nat.mod_lt y hz
  have h2 := Nat.div_add_mod y z
  have h3 : 1 ≤ y / z := Nat.div_pos (Nat.le_of_lt h) hz
  have h4 : z * 1 ≤ z * (y / z) := Nat.mul_le_mul_left z h3
  omega
theorem eU_pow : ∀ k x y, y < 2 ^ k → eU (2 * k) x y
  | 0, x, y, h => by show y = 0; omega
  | k + 1, x, y, h => by
    show eU (2 * k + 1 + 1) x y
    by_cases hy : y = 0
    · exact Or.inl hy
    · refine Or.inr ?_
      have h1 := Nat.mod_lt x (Nat.pos_of_ne_zero hy)
      by_cases hz : x % y = 0
      · exact Or.inl hz
      · refine Or.inr (eU_pow k _ _ ?_)
        have := mod_half (Nat.pos_of_ne_zero hz) h1
        rw [Nat.pow_succ] at h
        omega
section
variable {E : zE} {σ : zH} {c : Nat} {K : zDc}
theorem k_Dweighed_line (h : dAt σ c K) {no ns nh ng : Nat} {ml mk : Nat → Nat} {r : Nat → Int32} (ok : mOk r no ns nh ng ml mk) (hs : sRl K.n r ml) (l : Nat) (hl : l < 28) : zM E YD_weighed 4 [.ref c, .int (nI (l + 10))] (σ) (some (.int (pW (rSl r) (mWt r) (nI l) ns))) (σ) := by
  refine zM.of oD_weighed (by decide +kernel) rfl rfl (fun n => ?_)
  refine zj_iload_n 0 rfl rfl rfl ?_
  refine zj_iconst 1 (2) rfl rfl (by decide) ?_
  refine zj_csx 2 rfl rfl lk_7_42 ckD_isOneOf (k_isOneOf _ _) rfl rfl rfl rfl ?_
  refine zj_if_eq 3 rfl rfl (fun c5 => ?_) (fun c5 => ?_)
  · refine zj_iload_n 15 rfl rfl rfl ?_
    refine zj_bipush 16 (10) rfl rfl (by decide) ?_
    refine zn_icmp_lt 17 (l + 10) (10) rfl rfl rfl rfl (by omega) (by omega) (fun c32 => ?_) (fun c32 => ?_)
    · exact absurd c32 (by omega)
    · refine zj_iload_n 18 rfl rfl rfl ?_
      refine zj_bipush 19 (10) rfl rfl (by decide) ?_
      refine zn_isub 20 (l + 10) (10) rfl rfl rfl rfl (by omega) ?_
      refine zj_bipush 21 (28) rfl rfl (by decide) ?_
      refine zj_csx 22 rfl rfl lk_7_42 ckD_isOneOf (k_isOneOf _ _) rfl rfl rfl rfl ?_
      refine zj_if_ne 23 rfl rfl (fun c44 => ?_) (fun c44 => ?_)
      · refine zj_aload_n 26 rfl rfl rfl ?_
        refine zj_get 27 rfl rfl h.1 rfl ?_
        refine zj_get 28 rfl rfl h.2.1.1 rfl ?_
        refine zj_iload_n 29 rfl rfl rfl ?_
        refine zj_bipush 30 (10) rfl rfl (by decide) ?_
        refine zn_isub 31 (l + 10) (10) rfl rfl rfl rfl (by omega) ?_
        refine zj_cvx 32 rfl rfl lk_7_250 ckBk_weightOfLine (k_wLine h.2.1.2.2.2.2.2.2.1 ns (kN1 ok hs).1 (kN1 ok hs).2 (bk_z (hs.2.2.2.1) ok.2.2.2.2.2.2.2.1 (kN1 ok hs).2) _) rfl h.2.1.2.2.2.2.2.2.1.1 rfl rfl rfl ?_
        refine zj_ireturn 33 rfl rfl rfl ?_
        exact ⟨zrt (by rw [Nat.add_sub_cancel]; exact bk_w (hs.2.2.2.1) ok.2.2.2.2.2.2.2.1 (kN1 ok hs).2 _), rfl, rfl⟩
      · exact absurd (zr_of (n := 28) (by omega) (by decide)) (zo_0.mp c44)
  · exact absurd (show zr _ 2 from zo_n0.mp c5).2 (by rw [nI_toInt (by omega)]; omega)
theorem k_Dweighed0 (h : dAt σ c K) {no ns nh ng : Nat} {ml mk : Nat → Nat} {r : Nat → Int32} (ok : mOk r no ns nh ng ml mk) (hs : sRl K.n r ml) : zM E YD_weighed 4 [.ref c, .int (nI 0)] (σ) (some (.int (pWB (fun k => pW (rSl r) (mWt r) (nI k) ns) (pWA (mWt r) ns) 0 28))) (σ) := by
  refine zM.of oD_weighed (by decide +kernel) rfl rfl (fun n => ?_)
  refine zj_iload_n 0 rfl rfl rfl ?_
  refine zj_iconst 1 (2) rfl rfl (by decide) ?_
  refine zj_csx 2 rfl rfl lk_7_42 ckD_isOneOf (k_isOneOf _ _) rfl rfl rfl rfl ?_
  refine zj_if_eq 3 rfl rfl (fun c5 => ?_) (fun c5 => ?_)
  · exact absurd (zr_of (n := 2) (by omega) (by decide)) (zo_0.mp c5)
  · refine zj_aload_n 4 rfl rfl rfl ?_
    refine zj_get 5 rfl rfl h.1 rfl ?_
    refine zj_get 6 rfl rfl h.2.1.1 rfl ?_
    refine zj_iload_n 7 rfl rfl rfl ?_
    refine zj_iconst 8 (1) rfl rfl (by decide) ?_
    refine zn_icmp_ne 9 (0) (1) rfl rfl rfl rfl (by omega) (by omega) (fun c17 => ?_) (fun c17 => ?_)
    · refine zj_iconst 12 (0) rfl rfl (by decide) ?_
      refine zj_cvx 13 rfl rfl lk_7_246 ckBk_linesWeighedAbove (k_wAbove0 h.2.1.2.2.2.2.2.2.1 ns (kN1 ok hs).1 (kN1 ok hs).2 (bk_z (hs.2.2.2.1) ok.2.2.2.2.2.2.2.1 (kN1 ok hs).2)) rfl h.2.1.2.2.2.2.2.2.1.1 rfl rfl rfl ?_
      refine zj_ireturn 14 rfl rfl rfl ?_
      exact ⟨zrt (pWB_cg 0 (bk_wa (hs.2.2.2.1) ok.2.2.2.2.2.2.2.1 (kN1 ok hs).2) 28 (fun k _ => bk_w (hs.2.2.2.1) ok.2.2.2.2.2.2.2.1 (kN1 ok hs).2 _)), rfl, rfl⟩
    · exact absurd c17 (by decide)
theorem k_Dweighed1 (h : dAt σ c K) {no ns nh ng : Nat} {ml mk : Nat → Nat} {r : Nat → Int32} (ok : mOk r no ns nh ng ml mk) (hs : sRl K.n r ml) : zM E YD_weighed 4 [.ref c, .int (nI 1)] (σ) (some (.int (pWB (fun k => pW (rSl r) (mWt r) (nI k) ns) (pWA (mWt r) ns) 1 28))) (σ) := by
  refine zM.of oD_weighed (by decide +kernel) rfl rfl (fun n => ?_)
  refine zj_iload_n 0 rfl rfl rfl ?_
  refine zj_iconst 1 (2) rfl rfl (by decide) ?_
  refine zj_csx 2 rfl rfl lk_7_42 ckD_isOneOf (k_isOneOf _ _) rfl rfl rfl rfl ?_
  refine zj_if_eq 3 rfl rfl (fun c5 => ?_) (fun c5 => ?_)
  · exact absurd (zr_of (n := 2) (by omega) (by decide)) (zo_0.mp c5)
  · refine zj_aload_n 4 rfl rfl rfl ?_
    refine zj_get 5 rfl rfl h.1 rfl ?_
    refine zj_get 6 rfl rfl h.2.1.1 rfl ?_
    refine zj_iload_n 7 rfl rfl rfl ?_
    refine zj_iconst 8 (1) rfl rfl (by decide) ?_
    refine zn_icmp_ne 9 (1) (1) rfl rfl rfl rfl (by omega) (by omega) (fun c17 => ?_) (fun c17 => ?_)
    · exact absurd c17 (by decide)
    · refine zj_iconst 10 (1) rfl rfl (by decide) ?_
      refine zj_goto 11 rfl rfl ?_
      refine zj_cvx 13 rfl rfl lk_7_246 ckBk_linesWeighedAbove (k_wAbove1 h.2.1.2.2.2.2.2.2.1 ns (kN1 ok hs).1 (kN1 ok hs).2 (bk_z (hs.2.2.2.1) ok.2.2.2.2.2.2.2.1 (kN1 ok hs).2)) rfl h.2.1.2.2.2.2.2.2.1.1 rfl rfl rfl ?_
      refine zj_ireturn 14 rfl rfl rfl ?_
      exact ⟨zrt (pWB_cg 1 (bk_wa (hs.2.2.2.1) ok.2.2.2.2.2.2.2.1 (kN1 ok hs).2) 28 (fun k _ => bk_w (hs.2.2.2.1) ok.2.2.2.2.2.2.2.1 (kN1 ok hs).2 _)), rfl, rfl⟩
theorem k_Dweighed_bad (x : Int32) (hb1 : ¬ zr x 2) (hb2 : ¬ (10 ≤ x.toInt ∧ x.toInt ≤ 37)) : zM E YD_weighed 4 [.ref c, .int x] (σ) (some (.int (-1000))) (σ) := by
  refine zM.of oD_weighed (by decide +kernel) rfl rfl (fun n => ?_)
  refine zj_iload_n 0 rfl rfl rfl ?_
  refine zj_iconst 1 (2) rfl rfl (by decide) ?_
  refine zj_csx 2 rfl rfl lk_7_42 ckD_isOneOf (k_isOneOf _ _) rfl rfl rfl rfl ?_
  refine zj_if_eq 3 rfl rfl (fun c5 => ?_) (fun c5 => ?_)
  · refine zj_iload_n 15 rfl rfl rfl ?_
    refine zj_bipush 16 (10) rfl rfl (by decide) ?_
    refine zj_icmp_lt 17 rfl rfl (fun c32 => ?_) (fun c32 => ?_)
    · refine zj_sipush 24 (-1000) rfl rfl (by decide) ?_
      refine zj_ireturn 25 rfl rfl rfl ?_
      exact ⟨rfl, rfl, rfl⟩
    · obtain ⟨j, hj, rfl⟩ := zge_nI (x := x) (by have := zlt_not c32; have e : (10 : Int32).toInt = 10 := rfl; omega)
      rw [nI_toInt hj] at hb2
      have hj10 : 10 ≤ j := by
        have := zlt_not c32
        rw [nI_toInt hj] at this
        have e : (10 : Int32).toInt = 10 := rfl
        omega
      refine zj_iload_n 18 rfl rfl rfl ?_
      refine zj_bipush 19 (10) rfl rfl (by decide) ?_
      refine zn_isub 20 (j) (10) rfl rfl rfl rfl (by omega) ?_
      refine zj_bipush 21 (28) rfl rfl (by decide) ?_
      refine zj_csx 22 rfl rfl lk_7_42 ckD_isOneOf (k_isOneOf _ _) rfl rfl rfl rfl ?_
      refine zj_if_ne 23 rfl rfl (fun c44 => ?_) (fun c44 => ?_)
      · have g := (show zr _ 28 from zo_n0.mp c44).2
        rw [nI_toInt (by omega)] at g
        omega
      · refine zj_sipush 24 (-1000) rfl rfl (by decide) ?_
        refine zj_ireturn 25 rfl rfl rfl ?_
        exact ⟨rfl, rfl, rfl⟩
  · exact absurd (zo_n0.mp c5) hb1
theorem k_Dseason (h : dAt σ c K) {no ns nh ng : Nat} {ml mk : Nat → Nat} {r : Nat → Int32} (ok : mOk r no ns nh ng ml mk) (hs : sRl K.n r ml) (x y : Int32) (hv : zr x (2 ^ ns : Nat) ∧ zr y (2 ^ ns : Nat) ∧ x ≠ 0 ∧ y ≠ 0 ∧ x &&& y = 0) : zM E YD_season 3 [.ref c, .int x, .int y] (σ) (some (.int (pLSe (rSl r) x y ns))) (σ) := by
  refine zM.of oD_season (by decide +kernel) rfl rfl (fun n => ?_)
  refine zj_aload_n 0 rfl rfl rfl ?_
  refine zj_iload_n 1 rfl rfl rfl ?_
  refine zj_cvx 2 rfl rfl lk_7_221 ckD_areSheets (k_DareSheets h ok hs _) rfl h.1 rfl rfl rfl ?_
  refine zj_if_eq 3 rfl rfl (fun c5 => ?_) (fun c5 => ?_)
  · exact absurd hv.1 (zo_0.mp c5)
  · refine zj_aload_n 4 rfl rfl rfl ?_
    refine zj_iload_n 5 rfl rfl rfl ?_
    refine zj_cvx 6 rfl rfl lk_7_221 ckD_areSheets (k_DareSheets h ok hs _) rfl h.1 rfl rfl rfl ?_
    refine zj_if_eq 7 rfl rfl (fun c13 => ?_) (fun c13 => ?_)
    · exact absurd hv.2.1 (zo_0.mp c13)
    · refine zj_iload_n 8 rfl rfl rfl ?_
      refine zj_if_eq 9 rfl rfl (fun c17 => ?_) (fun c17 => ?_)
      · exact absurd c17 hv.2.2.1
      · refine zj_iload_n 10 rfl rfl rfl ?_
        refine zj_if_eq 11 rfl rfl (fun c21 => ?_) (fun c21 => ?_)
        · exact absurd c21 hv.2.2.2.1
        · refine zj_iload_n 12 rfl rfl rfl ?_
          refine zj_iload_n 13 rfl rfl rfl ?_
          refine zj_iand 14 rfl rfl ?_
          refine zj_if_eq 15 rfl rfl (fun c27 => ?_) (fun c27 => ?_)
          · refine zj_aload_n 18 rfl rfl rfl ?_
            refine zj_get 19 rfl rfl h.1 rfl ?_
            refine zj_get 20 rfl rfl h.2.1.1 rfl ?_
            refine zj_iload_n 21 rfl rfl rfl ?_
            refine zj_cvx 22 rfl rfl lk_7_253 ckBk_linesInAll (k_linesInAll h.2.1.2.2.2.2.2.2.1 ns (kN1 ok hs).1 (kN1 ok hs).2 _) rfl h.2.1.2.2.2.2.2.2.1.1 rfl rfl rfl ?_
            refine zj_aload_n 23 rfl rfl rfl ?_
            refine zj_get 24 rfl rfl h.1 rfl ?_
            refine zj_get 25 rfl rfl h.2.1.1 rfl ?_
            refine zj_iload_n 26 rfl rfl rfl ?_
            refine zj_cvx 27 rfl rfl lk_7_256 ckBk_linesInSome (k_linesInSome h.2.1.2.2.2.2.2.2.1 ns (kN1 ok hs).1 (kN1 ok hs).2 _) rfl h.2.1.2.2.2.2.2.2.1.1 rfl rfl rfl ?_
            refine zj_iconst 28 (-1) rfl rfl (by decide) ?_
            refine zj_ixor 29 rfl rfl ?_
            refine zj_iand 30 rfl rfl ?_
            refine zj_ireturn 31 rfl rfl rfl ?_
            refine ⟨zrt ?_, rfl, rfl⟩
            have b1 := (kN1 ok hs).2
            rw [pLSe_eq, pLA_cg x ns (fun k hk => (hs.2.2.2.1.2.1 k (by omega)).2.2), pLS_cg y ns (fun k hk => (hs.2.2.2.1.2.1 k (by omega)).2.2)]
          · exact absurd hv.2.2.2.2 c27
theorem k_Dseason_bad (h : dAt σ c K) {no ns nh ng : Nat} {ml mk : Nat → Nat} {r : Nat → Int32} (ok : mOk r no ns nh ng ml mk) (hs : sRl K.n r ml) (x y : Int32) (hv : ¬ (zr x (2 ^ ns : Nat) ∧ zr y (2 ^ ns : Nat) ∧ x ≠ 0 ∧ y ≠ 0 ∧ x &&& y = 0)) : zM E YD_season 3 [.ref c, .int x, .int y] (σ) (some (.int (-2))) (σ) := by
  refine zM.of oD_season (by decide +kernel) rfl rfl (fun n => ?_)
  refine zj_aload_n 0 rfl rfl rfl ?_
  refine zj_iload_n 1 rfl rfl rfl ?_
  refine zj_cvx 2 rfl rfl lk_7_221 ckD_areSheets (k_DareSheets h ok hs _) rfl h.1 rfl rfl rfl ?_
  refine zj_if_eq 3 rfl rfl (fun c5 => ?_) (fun c5 => ?_)
  · refine zj_bipush 16 (-2) rfl rfl (by decide) ?_
    refine zj_ireturn 17 rfl rfl rfl ?_
    exact ⟨rfl, rfl, rfl⟩
  · refine zj_aload_n 4 rfl rfl rfl ?_
    refine zj_iload_n 5 rfl rfl rfl ?_
    refine zj_cvx 6 rfl rfl lk_7_221 ckD_areSheets (k_DareSheets h ok hs _) rfl h.1 rfl rfl rfl ?_
    refine zj_if_eq 7 rfl rfl (fun c13 => ?_) (fun c13 => ?_)
    · refine zj_bipush 16 (-2) rfl rfl (by decide) ?_
      refine zj_ireturn 17 rfl rfl rfl ?_
      exact ⟨rfl, rfl, rfl⟩
    · refine zj_iload_n 8 rfl rfl rfl ?_
      refine zj_if_eq 9 rfl rfl (fun c17 => ?_) (fun c17 => ?_)
      · refine zj_bipush 16 (-2) rfl rfl (by decide) ?_
        refine zj_ireturn 17 rfl rfl rfl ?_
        exact ⟨rfl, rfl, rfl⟩
      · refine zj_iload_n 10 rfl rfl rfl ?_
        refine zj_if_eq 11 rfl rfl (fun c21 => ?_) (fun c21 => ?_)
        · refine zj_bipush 16 (-2) rfl rfl (by decide) ?_
          refine zj_ireturn 17 rfl rfl rfl ?_
          exact ⟨rfl, rfl, rfl⟩
        · refine zj_iload_n 12 rfl rfl rfl ?_
          refine zj_iload_n 13 rfl rfl rfl ?_
          refine zj_iand 14 rfl rfl ?_
          refine zj_if_eq 15 rfl rfl (fun c27 => ?_) (fun c27 => ?_)
          · exact absurd ⟨zo_n0.mp c5, zo_n0.mp c13, c17, c21, c27⟩ hv
          · refine zj_bipush 16 (-2) rfl rfl (by decide) ?_
            refine zj_ireturn 17 rfl rfl rfl ?_
            exact ⟨rfl, rfl, rfl⟩
theorem k_Dcount0 (h : dAt σ c K) {no ns nh ng : Nat} {ml mk : Nat → Nat} {r : Nat → Int32} (ok : mOk r no ns nh ng ml mk) (hs : sRl K.n r ml) : zM E YD_count 1 [.ref c, .int (nI 0)] (σ) (some (.int (r 532))) (σ) := by
  refine zM.of oD_count (by decide +kernel) rfl rfl (fun n => ?_)
  refine zj_iload_n 0 rfl rfl rfl ?_
  refine zj_tsw (t := 32) 1 rfl rfl (by decide +kernel) (by decide +kernel) ?_
  refine zj_aload_n 2 rfl rfl rfl ?_
  refine zj_get 3 rfl rfl h.1 rfl ?_
  refine zj_get 4 rfl rfl h.2.1.1 rfl ?_
  refine zj_get 5 rfl rfl h.2.1.2.2.2.2.2.2.1.1 rfl ?_
  refine zj_ireturn 6 rfl rfl rfl ?_
  exact ⟨zrt (hs.2.2.2.1.2.2.2.1), rfl, rfl⟩
theorem k_Dcount1 (h : dAt σ c K) {no ns nh ng : Nat} {ml mk : Nat → Nat} {r : Nat → Int32} (ok : mOk r no ns nh ng ml mk) (hs : sRl K.n r ml) : zM E YD_count 1 [.ref c, .int (nI 1)] (σ) (some (.int (r 549))) (σ) := by
  refine zM.of oD_count (by decide +kernel) rfl rfl (fun n => ?_)
  refine zj_iload_n 0 rfl rfl rfl ?_
  refine zj_tsw (t := 43) 1 rfl rfl (by decide +kernel) (by decide +kernel) ?_
  refine zj_aload_n 7 rfl rfl rfl ?_
  refine zj_get 8 rfl rfl h.1 rfl ?_
  refine zj_get 9 rfl rfl h.2.1.1 rfl ?_
  refine zj_get 10 rfl rfl h.2.1.2.2.2.2.2.2.1.1 rfl ?_
  refine zj_ireturn 11 rfl rfl rfl ?_
  exact ⟨zrt (hs.2.2.2.1.2.2.2.2.1), rfl, rfl⟩
theorem k_Dcount2 (h : dAt σ c K) {no ns nh ng : Nat} {ml mk : Nat → Nat} {r : Nat → Int32} (ok : mOk r no ns nh ng ml mk) (hs : sRl K.n r ml) : zM E YD_count 1 [.ref c, .int (nI 2)] (σ) (some (.int (r 598))) (σ) := by
  refine zM.of oD_count (by decide +kernel) rfl rfl (fun n => ?_)
  refine zj_iload_n 0 rfl rfl rfl ?_
  refine zj_tsw (t := 54) 1 rfl rfl (by decide +kernel) (by decide +kernel) ?_
  refine zj_aload_n 12 rfl rfl rfl ?_
  refine zj_get 13 rfl rfl h.1 rfl ?_
  refine zj_get 14 rfl rfl h.2.1.1 rfl ?_
  refine zj_get 15 rfl rfl h.2.1.2.2.2.2.2.2.1.1 rfl ?_
  refine zj_ireturn 16 rfl rfl rfl ?_
  exact ⟨zrt (hs.2.2.2.1.2.2.2.2.2), rfl, rfl⟩
theorem k_Dcount3 (h : dAt σ c K) {no ns nh ng : Nat} {ml mk : Nat → Nat} {r : Nat → Int32} (ok : mOk r no ns nh ng ml mk) (hs : sRl K.n r ml) : zM E YD_count 1 [.ref c, .int (nI 3)] (σ) (some (.int (r 780))) (σ) := by
  refine zM.of oD_count (by decide +kernel) rfl rfl (fun n => ?_)
  refine zj_iload_n 0 rfl rfl rfl ?_
  refine zj_tsw (t := 65) 1 rfl rfl (by decide +kernel) (by decide +kernel) ?_
  refine zj_aload_n 17 rfl rfl rfl ?_
  refine zj_get 18 rfl rfl h.1 rfl ?_
  refine zj_get 19 rfl rfl h.2.1.1 rfl ?_
  refine zj_get 20 rfl rfl h.2.1.2.2.2.2.2.2.2.1 rfl ?_
  refine zj_ireturn 21 rfl rfl rfl ?_
  exact ⟨zrt (hs.2.2.2.2.1.2), rfl, rfl⟩
theorem k_Dcount_bad (x : Int32) (hb : ¬ zr x 4) : zM E YD_count 1 [.ref c, .int x] (σ) (some (.int (-2))) (σ) := by
  refine zM.of oD_count (by decide +kernel) rfl rfl (fun n => ?_)
  refine zj_iload_n 0 rfl rfl rfl ?_
  refine zj_tsw (t := 76) 1 rfl rfl (ztsw_d [0, 1, 2, 3] (by decide +kernel) (by decide +kernel) (fun v hv e => hb (by have g : ∀ v ∈ ([0, 1, 2, 3] : List Int), 0 ≤ v ∧ v < 4 := (by decide); have := g v hv; exact ⟨by omega, by omega⟩))) (by decide +kernel) ?_
  refine zj_bipush 22 (-2) rfl rfl (by decide) ?_
  refine zj_ireturn 23 rfl rfl rfl ?_
  exact ⟨rfl, rfl, rfl⟩
theorem l_Dset (h : dAt σ c K) (x0 y0 : Nat) (hx0 : x0 < 2 ^ 62) (hy0 : y0 < 2 ^ 62) (hp : 0 < y0) : ∀ (m : Nat) (i x y : Nat) (o10 : Option Value), (i + m ≤ 100) → (eU m x y) → (x < 2 ^ 62) → (y < 2 ^ 62) → (Nat.gcd x y = Nat.gcd x0 y0) → ∀ n, zXB E YD_setFraction 1 n (none) (fun τ => zsm σ τ c (c + 134) ∧ dAt τ c (K.sf (lN (x0 / Nat.gcd x0 y0)) (lN (y0 / Nat.gcd x0 y0)))) (σ) 9 [some (.ref c), some (.long (lN x0)), none, some (.long (lN y0)), none, some (.long (lN x)), none, some (.long (lN y)), none, some (.int (nI i)), o10, none] [] := by
  intro m
  induction m using Nat.strongRecOn with
  | ind m ih =>
  intro i x y o10 hi hu hx hy hg n
  refine zj_iload 6 rfl rfl rfl ?_
  refine zj_bipush 7 (100) rfl rfl (by decide) ?_
  refine zn_icmp_ge 8 (i) (100) rfl rfl rfl rfl (by omega) (by omega) (fun c13 => ?_) (fun c13 => ?_)
  · have hyz : y = 0 := by
      have : m = 0 := by omega
      subst this
      exact hu
    subst hyz
    rw [Nat.gcd_zero_right] at hg
    have hgp : 0 < Nat.gcd x0 y0 := Nat.gcd_pos_of_pos_right _ hp
    have hgl : Nat.gcd x0 y0 ≤ y0 := Nat.le_of_dvd hp (Nat.gcd_dvd_right _ _)
    subst hg
    refine zj_lload 23 rfl rfl rfl ?_
    refine zj_lconst 24 (0) rfl rfl (by decide) ?_
    refine zj_lcmp 25 rfl rfl ?_
    refine zj_if_eq 26 rfl rfl (fun c48 => ?_) (fun c48 => ?_)
    · exact absurd ((pk_lEQ (by omega) (by decide)).mp (show lN _ = lN 0 from (lg_cmp_eq _ _).mp c48)) (by omega)
    · refine zj_aload_n 27 rfl rfl rfl ?_
      refine zj_lload_n 28 rfl rfl rfl ?_
      refine zj_lload 29 rfl rfl rfl ?_
      refine zj_ldiv 30 rfl rfl (by exact fun e => c48 ((lg_cmp_eq _ _).mpr e)) ?_
      refine zn_put 31 rfl rfl h.1 rfl rfl rfl rfl rfl ?_
      refine zj_aload_n 32 rfl rfl rfl ?_
      refine zj_lload_n 33 rfl rfl rfl ?_
      refine zj_lload 34 rfl rfl rfl ?_
      refine zj_ldiv 35 rfl rfl (by exact fun e => c48 ((lg_cmp_eq _ _).mpr e)) ?_
      refine zn_put 36 rfl rfl (zup_eq _ _ _) rfl rfl rfl rfl (zup_zup _ _ _ _) ?_
      refine zj_return 37 rfl rfl rfl ?_
      rw [pk_lDiv (by omega) hgp (by omega), pk_lDiv (by omega) hgp (by omega)]
      exact ⟨rfl, rfl, zsm_zup.wide (by omega) (by omega), h.uf zsm_zup (zup_eq _ _ _)⟩
  · refine zj_lload 9 rfl rfl rfl ?_
    refine zj_lconst 10 (0) rfl rfl (by decide) ?_
    refine zj_lcmp 11 rfl rfl ?_
    refine zj_if_eq 12 rfl rfl (fun c20 => ?_) (fun c20 => ?_)
    · have hyz : y = 0 := by
        exact (pk_lEQ (by omega) (by decide)).mp (show lN y = lN 0 from (lg_cmp_eq _ _).mp c20)
      subst hyz
      rw [Nat.gcd_zero_right] at hg
      have hgp : 0 < Nat.gcd x0 y0 := Nat.gcd_pos_of_pos_right _ hp
      have hgl : Nat.gcd x0 y0 ≤ y0 := Nat.le_of_dvd hp (Nat.gcd_dvd_right _ _)
      subst hg
      refine zj_lload 23 rfl rfl rfl ?_
      refine zj_lconst 24 (0) rfl rfl (by decide) ?_
      refine zj_lcmp 25 rfl rfl ?_
      refine zj_if_eq 26 rfl rfl (fun c48 => ?_) (fun c48 => ?_)
      · exact absurd ((pk_lEQ (by omega) (by decide)).mp (show lN _ = lN 0 from (lg_cmp_eq _ _).mp c48)) (by omega)
      · refine zj_aload_n 27 rfl rfl rfl ?_
        refine zj_lload_n 28 rfl rfl rfl ?_
        refine zj_lload 29 rfl rfl rfl ?_
        refine zj_ldiv 30 rfl rfl (by exact fun e => c48 ((lg_cmp_eq _ _).mpr e)) ?_
        refine zn_put 31 rfl rfl h.1 rfl rfl rfl rfl rfl ?_
        refine zj_aload_n 32 rfl rfl rfl ?_
        refine zj_lload_n 33 rfl rfl rfl ?_
        refine zj_lload 34 rfl rfl rfl ?_
        refine zj_ldiv 35 rfl rfl (by exact fun e => c48 ((lg_cmp_eq _ _).mpr e)) ?_
        refine zn_put 36 rfl rfl (zup_eq _ _ _) rfl rfl rfl rfl (zup_zup _ _ _ _) ?_
        refine zj_return 37 rfl rfl rfl ?_
        rw [pk_lDiv (by omega) hgp (by omega), pk_lDiv (by omega) hgp (by omega)]
        exact ⟨rfl, rfl, zsm_zup.wide (by omega) (by omega), h.uf zsm_zup (zup_eq _ _ _)⟩
    · refine zj_lload 13 rfl rfl rfl ?_
      refine zj_lload 14 rfl rfl rfl ?_
      refine zj_lrem 15 rfl rfl (by exact fun e => c20 ((lg_cmp_eq _ _).mpr e)) ?_
      refine zj_lstore 16 rfl rfl ?_
      refine zj_lload 17 rfl rfl rfl ?_
      refine zj_lstore 18 rfl rfl ?_
      refine zj_lload 19 rfl rfl rfl ?_
      refine zj_lstore 20 rfl rfl ?_
      refine zn_iinc 21 (i) rfl rfl rfl rfl ?_
      refine zj_goto 22 rfl rfl ?_
      have hy0' : 0 < y := by
        rcases Nat.eq_zero_or_pos y with e | e
        · subst e; exact absurd ((lg_cmp_eq (lN 0) 0).mpr rfl) c20
        · exact e
      rw [pk_lRem (by omega) hy0' (by omega)]
      have hlt := Nat.mod_lt x hy0'
      obtain ⟨m', rfl⟩ : ∃ m', m = m' + 1 := by
        cases m with
        | zero => exact absurd (show y = 0 from hu) (by omega)
        | succ m' => exact ⟨m', rfl⟩
      have hu' := (show y = 0 ∨ eU m' y (x % y) from hu).resolve_left (by omega)
      exact ih m' (by omega) (i + 1) y (x % y) _ (by omega) hu' (by omega) (by omega) (by rw [← hg, Nat.gcd_comm y, ← Nat.gcd_rec, Nat.gcd_comm]) n
theorem k_Dset (h : dAt σ c K) (x0 y0 : Nat) (hx0 : x0 < 2 ^ 62) (hy0 : y0 < 2 ^ 40) (hp : 0 < y0) : zX E YD_setFraction 1 [.ref c, .long (lN x0), .long (lN y0)] (σ) (none) (fun τ => zsm σ τ c (c + 134) ∧ dAt τ c (K.sf (lN (x0 / Nat.gcd x0 y0)) (lN (y0 / Nat.gcd x0 y0)))) := by
  refine zX.of oD_setFraction (by decide +kernel) rfl rfl (fun n => ?_)
  refine zj_lload_n 0 rfl rfl rfl ?_
  refine zj_lstore 1 rfl rfl ?_
  refine zj_lload_n 2 rfl rfl rfl ?_
  refine zj_lstore 3 rfl rfl ?_
  refine zj_iconst 4 (0) rfl rfl (by decide) ?_
  refine zj_istore 5 rfl rfl ?_
  exact l_Dset h x0 y0 hx0 (by omega) hp (2 * 40) 0 x0 y0 _ (by omega) (eU_pow 40 _ _ hy0) hx0 (by omega) rfl n
end
