/-! the reference: what is seen, lines, texts -/
def mR (air r : Nat) : Nat := if air = 1 then (if 1 ≤ r then r - 1 else r) else if air = 2 then (if r + 1 < 9 then r + 1 else r) else r
def mX (air x : Nat) : Nat := if air = 3 then (if 1 ≤ x then x - 1 else x) else if air = 4 then (if x + 1 < 9 then x + 1 else x) else x
def mSeen (pic : Nat → Int32) (g air c : Nat) : Int32 := mBlur pic g (mR air (c / 9)) (mX air (c % 9))
theorem zr_m1 {p : Nat} (hp : p < 9) : zr (nI p + (-1)) 9 ↔ 1 ≤ p := by
  match p, hp with
  | 0, _ => simp [zr]; decide
  | p + 1, h =>
    rw [pk_m1]
    refine ⟨fun _ => by omega, fun _ => ?_⟩
    exact zr_of (n := 9) (by omega) (by decide)
theorem zr_lt {p : Nat} (h : p < 2 ^ 31) : zr (nI p) 9 ↔ p < 9 := by
  unfold zr; rw [nI_toInt h]; omega
theorem zlines {p : Nat} (hp : p < 8) : nI (7 * p) - nI p * (nI p - 1) / 2 = nI (7 * p - p * (p - 1) / 2) := by
  match p, hp with
  | 0, _ => decide
  | 1, _ => decide
  | 2, _ => decide
  | 3, _ => decide
  | 4, _ => decide
  | 5, _ => decide
  | 6, _ => decide
  | 7, _ => decide
section
variable {E : zE} {σ : zH} {a : Nat} {M : zMo}
theorem k_seenAt0 (g c : Nat) (hg : g < 4) (hc : c < 81) : zM E YM_seenAt 3 [.ref a, .int (nI g), .int (nI 0), .int (nI c)] (mw σ a M) (some (.int (mSeen M.picture g 0 c))) (mw σ a M) := by
  refine zM.of oM_seenAt (by decide +kernel) rfl rfl (fun n => ?_)
  refine zj_iload_n 0 rfl rfl rfl ?_
  refine zj_bipush 1 (9) rfl rfl (by decide) ?_
  refine zn_idiv 2 (c) (9) rfl rfl rfl rfl (by omega) (by omega) (by omega) ?_
  refine zj_iload_n 3 rfl rfl rfl ?_
  refine zj_iconst 4 (1) rfl rfl (by decide) ?_
  refine zn_icmp_ne 5 (0) (1) rfl rfl rfl rfl (by omega) (by omega) (fun c6 => ?_) (fun c6 => ?_)
  · refine zj_iload_n 8 rfl rfl rfl ?_
    refine zj_iconst 9 (2) rfl rfl (by decide) ?_
    refine zn_icmp_ne 10 (0) (2) rfl rfl rfl rfl (by omega) (by omega) (fun c15 => ?_) (fun c15 => ?_)
    · refine zj_iconst 13 (0) rfl rfl (by decide) ?_
      refine zn_iadd 14 (c / 9) (0) rfl rfl rfl rfl ?_
      refine zj_istore 15 rfl rfl ?_
      refine zj_iload_n 16 rfl rfl rfl ?_
      refine zj_bipush 17 (9) rfl rfl (by decide) ?_
      refine zn_irem 18 (c) (9) rfl rfl rfl rfl (by omega) (by omega) (by omega) ?_
      refine zj_iload_n 19 rfl rfl rfl ?_
      refine zj_iconst 20 (3) rfl rfl (by decide) ?_
      refine zn_icmp_ne 21 (0) (3) rfl rfl rfl rfl (by omega) (by omega) (fun c32 => ?_) (fun c32 => ?_)
      · refine zj_iload_n 24 rfl rfl rfl ?_
        refine zj_iconst 25 (4) rfl rfl (by decide) ?_
        refine zn_icmp_ne 26 (0) (4) rfl rfl rfl rfl (by omega) (by omega) (fun c41 => ?_) (fun c41 => ?_)
        · refine zj_iconst 29 (0) rfl rfl (by decide) ?_
          refine zn_iadd 30 (c % 9) (0) rfl rfl rfl rfl ?_
          refine zj_istore 31 rfl rfl ?_
          refine zj_iload 32 rfl rfl rfl ?_
          refine zj_i2l 33 rfl rfl ?_
          refine zj_lconst 34 (0) rfl rfl (by decide) ?_
          refine zj_ldc2 35 (8) rfl rfl (by decide) ?_
          refine zj_csx 36 rfl rfl lk_8_51 ckM_in (k_in0 _ _ 9 (by decide)) rfl rfl rfl rfl ?_
          refine zj_if_eq 37 rfl rfl (fun c62 => ?_) (fun c62 => ?_)
          · exact absurd (zr_of (n := 9) (by omega) (by decide)) (zo_0.mp c62)
          · refine zj_iload 38 rfl rfl rfl ?_
            refine zj_i2l 39 rfl rfl ?_
            refine zj_lconst 40 (0) rfl rfl (by decide) ?_
            refine zj_ldc2 41 (8) rfl rfl (by decide) ?_
            refine zj_csx 42 rfl rfl lk_8_51 ckM_in (k_in0 _ _ 9 (by decide)) rfl rfl rfl rfl ?_
            refine zj_if_eq 43 rfl rfl (fun c75 => ?_) (fun c75 => ?_)
            · exact absurd (zr_of (n := 9) (by omega) (by decide)) (zo_0.mp c75)
            · refine zj_iconst 44 (1) rfl rfl (by decide) ?_
              refine zj_goto 45 rfl rfl ?_
              refine zj_istore 47 rfl rfl ?_
              refine zj_aload_n 48 rfl rfl rfl ?_
              refine zj_iload_n 49 rfl rfl rfl ?_
              refine zj_iload 50 rfl rfl rfl ?_
              refine zj_if_eq 51 rfl rfl (fun c89 => ?_) (fun c89 => ?_)
              · exact absurd c89 (by decide)
              · refine zj_iload 52 rfl rfl rfl ?_
                refine zj_goto 53 rfl rfl ?_
                refine zj_iload 57 rfl rfl rfl ?_
                refine zj_if_eq 58 rfl rfl (fun c103 => ?_) (fun c103 => ?_)
                · exact absurd c103 (by decide)
                · refine zj_iload 59 rfl rfl rfl ?_
                  refine zj_goto 60 rfl rfl ?_
                  refine zj_cvx 64 rfl rfl lk_8_76 ckM_blurred (k_blurred _ _ _ (by omega) (by omega) (by omega)) rfl mw_0 rfl rfl rfl ?_
                  refine zj_ireturn 65 rfl rfl rfl ?_
                  exact ⟨zrt (by simp [mSeen, mR, mX]), rfl, rfl⟩
        · exact absurd c41 (by decide)
      · exact absurd c32 (by decide)
    · exact absurd c15 (by decide)
  · exact absurd c6 (by decide)
theorem k_seenAt1 (g c : Nat) (hg : g < 4) (hc : c < 81) : zM E YM_seenAt 3 [.ref a, .int (nI g), .int (nI 1), .int (nI c)] (mw σ a M) (some (.int (mSeen M.picture g 1 c))) (mw σ a M) := by
  refine zM.of oM_seenAt (by decide +kernel) rfl rfl (fun n => ?_)
  refine zj_iload_n 0 rfl rfl rfl ?_
  refine zj_bipush 1 (9) rfl rfl (by decide) ?_
  refine zn_idiv 2 (c) (9) rfl rfl rfl rfl (by omega) (by omega) (by omega) ?_
  refine zj_iload_n 3 rfl rfl rfl ?_
  refine zj_iconst 4 (1) rfl rfl (by decide) ?_
  refine zn_icmp_ne 5 (1) (1) rfl rfl rfl rfl (by omega) (by omega) (fun c6 => ?_) (fun c6 => ?_)
  · exact absurd c6 (by decide)
  · refine zj_iconst 6 (-1) rfl rfl (by decide) ?_
    refine zj_goto 7 rfl rfl ?_
    refine zj_iadd 14 rfl rfl ?_
    refine zj_istore 15 rfl rfl ?_
    refine zj_iload_n 16 rfl rfl rfl ?_
    refine zj_bipush 17 (9) rfl rfl (by decide) ?_
    refine zn_irem 18 (c) (9) rfl rfl rfl rfl (by omega) (by omega) (by omega) ?_
    refine zj_iload_n 19 rfl rfl rfl ?_
    refine zj_iconst 20 (3) rfl rfl (by decide) ?_
    refine zn_icmp_ne 21 (1) (3) rfl rfl rfl rfl (by omega) (by omega) (fun c32 => ?_) (fun c32 => ?_)
    · refine zj_iload_n 24 rfl rfl rfl ?_
      refine zj_iconst 25 (4) rfl rfl (by decide) ?_
      refine zn_icmp_ne 26 (1) (4) rfl rfl rfl rfl (by omega) (by omega) (fun c41 => ?_) (fun c41 => ?_)
      · refine zj_iconst 29 (0) rfl rfl (by decide) ?_
        refine zn_iadd 30 (c % 9) (0) rfl rfl rfl rfl ?_
        refine zj_istore 31 rfl rfl ?_
        refine zj_iload 32 rfl rfl rfl ?_
        refine zj_i2l 33 rfl rfl ?_
        refine zj_lconst 34 (0) rfl rfl (by decide) ?_
        refine zj_ldc2 35 (8) rfl rfl (by decide) ?_
        refine zj_csx 36 rfl rfl lk_8_51 ckM_in (k_in0 _ _ 9 (by decide)) rfl rfl rfl rfl ?_
        refine zj_if_eq 37 rfl rfl (fun c62 => ?_) (fun c62 => ?_)
        · have hp := mt (zr_m1 (by omega)).mpr (zo_0.mp c62)
          refine zj_iconst 46 (0) rfl rfl (by decide) ?_
          refine zj_istore 47 rfl rfl ?_
          refine zj_aload_n 48 rfl rfl rfl ?_
          refine zj_iload_n 49 rfl rfl rfl ?_
          refine zj_iload 50 rfl rfl rfl ?_
          refine zj_if_eq 51 rfl rfl (fun c89 => ?_) (fun c89 => ?_)
          · refine zj_iload_n 54 rfl rfl rfl ?_
            refine zj_bipush 55 (9) rfl rfl (by decide) ?_
            refine zn_idiv 56 (c) (9) rfl rfl rfl rfl (by omega) (by omega) (by omega) ?_
            refine zj_iload 57 rfl rfl rfl ?_
            refine zj_if_eq 58 rfl rfl (fun c103 => ?_) (fun c103 => ?_)
            · refine zj_iload_n 61 rfl rfl rfl ?_
              refine zj_bipush 62 (9) rfl rfl (by decide) ?_
              refine zn_irem 63 (c) (9) rfl rfl rfl rfl (by omega) (by omega) (by omega) ?_
              refine zj_cvx 64 rfl rfl lk_8_76 ckM_blurred (k_blurred _ _ _ (by omega) (by omega) (by omega)) rfl mw_0 rfl rfl rfl ?_
              refine zj_ireturn 65 rfl rfl rfl ?_
              exact ⟨zrt (by simp [mSeen, mR, mX, hp]), rfl, rfl⟩
            · exact absurd c103 (by decide)
          · exact absurd c89 (by decide)
        · have hp := (zr_m1 (by omega)).mp (zo_n0.mp c62)
          rw [sb_m1 hp]
          refine zj_iload 38 rfl rfl rfl ?_
          refine zj_i2l 39 rfl rfl ?_
          refine zj_lconst 40 (0) rfl rfl (by decide) ?_
          refine zj_ldc2 41 (8) rfl rfl (by decide) ?_
          refine zj_csx 42 rfl rfl lk_8_51 ckM_in (k_in0 _ _ 9 (by decide)) rfl rfl rfl rfl ?_
          refine zj_if_eq 43 rfl rfl (fun c75 => ?_) (fun c75 => ?_)
          · exact absurd (zr_of (n := 9) (by omega) (by decide)) (zo_0.mp c75)
          · refine zj_iconst 44 (1) rfl rfl (by decide) ?_
            refine zj_goto 45 rfl rfl ?_
            refine zj_istore 47 rfl rfl ?_
            refine zj_aload_n 48 rfl rfl rfl ?_
            refine zj_iload_n 49 rfl rfl rfl ?_
            refine zj_iload 50 rfl rfl rfl ?_
            refine zj_if_eq 51 rfl rfl (fun c89 => ?_) (fun c89 => ?_)
            · exact absurd c89 (by decide)
            · refine zj_iload 52 rfl rfl rfl ?_
              refine zj_goto 53 rfl rfl ?_
              refine zj_iload 57 rfl rfl rfl ?_
              refine zj_if_eq 58 rfl rfl (fun c103 => ?_) (fun c103 => ?_)
              · exact absurd c103 (by decide)
              · refine zj_iload 59 rfl rfl rfl ?_
                refine zj_goto 60 rfl rfl ?_
                refine zj_cvx 64 rfl rfl lk_8_76 ckM_blurred (k_blurred _ _ _ (by omega) (by omega) (by omega)) rfl mw_0 rfl rfl rfl ?_
                refine zj_ireturn 65 rfl rfl rfl ?_
                exact ⟨zrt (by simp [mSeen, mR, mX, hp]), rfl, rfl⟩
      · exact absurd c41 (by decide)
    · exact absurd c32 (by decide)
theorem k_seenAt2 (g c : Nat) (hg : g < 4) (hc : c < 81) : zM E YM_seenAt 3 [.ref a, .int (nI g), .int (nI 2), .int (nI c)] (mw σ a M) (some (.int (mSeen M.picture g 2 c))) (mw σ a M) := by
  refine zM.of oM_seenAt (by decide +kernel) rfl rfl (fun n => ?_)
  refine zj_iload_n 0 rfl rfl rfl ?_
  refine zj_bipush 1 (9) rfl rfl (by decide) ?_
  refine zn_idiv 2 (c) (9) rfl rfl rfl rfl (by omega) (by omega) (by omega) ?_
  refine zj_iload_n 3 rfl rfl rfl ?_
  refine zj_iconst 4 (1) rfl rfl (by decide) ?_
  refine zn_icmp_ne 5 (2) (1) rfl rfl rfl rfl (by omega) (by omega) (fun c6 => ?_) (fun c6 => ?_)
  · refine zj_iload_n 8 rfl rfl rfl ?_
    refine zj_iconst 9 (2) rfl rfl (by decide) ?_
    refine zn_icmp_ne 10 (2) (2) rfl rfl rfl rfl (by omega) (by omega) (fun c15 => ?_) (fun c15 => ?_)
    · exact absurd c15 (by decide)
    · refine zj_iconst 11 (1) rfl rfl (by decide) ?_
      refine zj_goto 12 rfl rfl ?_
      refine zn_iadd 14 (c / 9) (1) rfl rfl rfl rfl ?_
      refine zj_istore 15 rfl rfl ?_
      refine zj_iload_n 16 rfl rfl rfl ?_
      refine zj_bipush 17 (9) rfl rfl (by decide) ?_
      refine zn_irem 18 (c) (9) rfl rfl rfl rfl (by omega) (by omega) (by omega) ?_
      refine zj_iload_n 19 rfl rfl rfl ?_
      refine zj_iconst 20 (3) rfl rfl (by decide) ?_
      refine zn_icmp_ne 21 (2) (3) rfl rfl rfl rfl (by omega) (by omega) (fun c32 => ?_) (fun c32 => ?_)
      · refine zj_iload_n 24 rfl rfl rfl ?_
        refine zj_iconst 25 (4) rfl rfl (by decide) ?_
        refine zn_icmp_ne 26 (2) (4) rfl rfl rfl rfl (by omega) (by omega) (fun c41 => ?_) (fun c41 => ?_)
        · refine zj_iconst 29 (0) rfl rfl (by decide) ?_
          refine zn_iadd 30 (c % 9) (0) rfl rfl rfl rfl ?_
          refine zj_istore 31 rfl rfl ?_
          refine zj_iload 32 rfl rfl rfl ?_
          refine zj_i2l 33 rfl rfl ?_
          refine zj_lconst 34 (0) rfl rfl (by decide) ?_
          refine zj_ldc2 35 (8) rfl rfl (by decide) ?_
          refine zj_csx 36 rfl rfl lk_8_51 ckM_in (k_in0 _ _ 9 (by decide)) rfl rfl rfl rfl ?_
          refine zj_if_eq 37 rfl rfl (fun c62 => ?_) (fun c62 => ?_)
          · have hp := mt (zr_lt (by omega)).mpr (zo_0.mp c62)
            refine zj_iconst 46 (0) rfl rfl (by decide) ?_
            refine zj_istore 47 rfl rfl ?_
            refine zj_aload_n 48 rfl rfl rfl ?_
            refine zj_iload_n 49 rfl rfl rfl ?_
            refine zj_iload 50 rfl rfl rfl ?_
            refine zj_if_eq 51 rfl rfl (fun c89 => ?_) (fun c89 => ?_)
            · refine zj_iload_n 54 rfl rfl rfl ?_
              refine zj_bipush 55 (9) rfl rfl (by decide) ?_
              refine zn_idiv 56 (c) (9) rfl rfl rfl rfl (by omega) (by omega) (by omega) ?_
              refine zj_iload 57 rfl rfl rfl ?_
              refine zj_if_eq 58 rfl rfl (fun c103 => ?_) (fun c103 => ?_)
              · refine zj_iload_n 61 rfl rfl rfl ?_
                refine zj_bipush 62 (9) rfl rfl (by decide) ?_
                refine zn_irem 63 (c) (9) rfl rfl rfl rfl (by omega) (by omega) (by omega) ?_
                refine zj_cvx 64 rfl rfl lk_8_76 ckM_blurred (k_blurred _ _ _ (by omega) (by omega) (by omega)) rfl mw_0 rfl rfl rfl ?_
                refine zj_ireturn 65 rfl rfl rfl ?_
                exact ⟨zrt (by simp [mSeen, mR, mX, hp]), rfl, rfl⟩
              · exact absurd c103 (by decide)
            · exact absurd c89 (by decide)
          · have hp := (zr_lt (by omega)).mp (zo_n0.mp c62)
            refine zj_iload 38 rfl rfl rfl ?_
            refine zj_i2l 39 rfl rfl ?_
            refine zj_lconst 40 (0) rfl rfl (by decide) ?_
            refine zj_ldc2 41 (8) rfl rfl (by decide) ?_
            refine zj_csx 42 rfl rfl lk_8_51 ckM_in (k_in0 _ _ 9 (by decide)) rfl rfl rfl rfl ?_
            refine zj_if_eq 43 rfl rfl (fun c75 => ?_) (fun c75 => ?_)
            · exact absurd (zr_of (n := 9) (by omega) (by decide)) (zo_0.mp c75)
            · refine zj_iconst 44 (1) rfl rfl (by decide) ?_
              refine zj_goto 45 rfl rfl ?_
              refine zj_istore 47 rfl rfl ?_
              refine zj_aload_n 48 rfl rfl rfl ?_
              refine zj_iload_n 49 rfl rfl rfl ?_
              refine zj_iload 50 rfl rfl rfl ?_
              refine zj_if_eq 51 rfl rfl (fun c89 => ?_) (fun c89 => ?_)
              · exact absurd c89 (by decide)
              · refine zj_iload 52 rfl rfl rfl ?_
                refine zj_goto 53 rfl rfl ?_
                refine zj_iload 57 rfl rfl rfl ?_
                refine zj_if_eq 58 rfl rfl (fun c103 => ?_) (fun c103 => ?_)
                · exact absurd c103 (by decide)
                · refine zj_iload 59 rfl rfl rfl ?_
                  refine zj_goto 60 rfl rfl ?_
                  refine zj_cvx 64 rfl rfl lk_8_76 ckM_blurred (k_blurred _ _ _ (by omega) (by omega) (by omega)) rfl mw_0 rfl rfl rfl ?_
                  refine zj_ireturn 65 rfl rfl rfl ?_
                  exact ⟨zrt (by simp [mSeen, mR, mX, hp]), rfl, rfl⟩
        · exact absurd c41 (by decide)
      · exact absurd c32 (by decide)
  · exact absurd c6 (by decide)
theorem k_seenAt3 (g c : Nat) (hg : g < 4) (hc : c < 81) : zM E YM_seenAt 3 [.ref a, .int (nI g), .int (nI 3), .int (nI c)] (mw σ a M) (some (.int (mSeen M.picture g 3 c))) (mw σ a M) := by
  refine zM.of oM_seenAt (by decide +kernel) rfl rfl (fun n => ?_)
  refine zj_iload_n 0 rfl rfl rfl ?_
  refine zj_bipush 1 (9) rfl rfl (by decide) ?_
  refine zn_idiv 2 (c) (9) rfl rfl rfl rfl (by omega) (by omega) (by omega) ?_
  refine zj_iload_n 3 rfl rfl rfl ?_
  refine zj_iconst 4 (1) rfl rfl (by decide) ?_
  refine zn_icmp_ne 5 (3) (1) rfl rfl rfl rfl (by omega) (by omega) (fun c6 => ?_) (fun c6 => ?_)
  · refine zj_iload_n 8 rfl rfl rfl ?_
    refine zj_iconst 9 (2) rfl rfl (by decide) ?_
    refine zn_icmp_ne 10 (3) (2) rfl rfl rfl rfl (by omega) (by omega) (fun c15 => ?_) (fun c15 => ?_)
    · refine zj_iconst 13 (0) rfl rfl (by decide) ?_
      refine zn_iadd 14 (c / 9) (0) rfl rfl rfl rfl ?_
      refine zj_istore 15 rfl rfl ?_
      refine zj_iload_n 16 rfl rfl rfl ?_
      refine zj_bipush 17 (9) rfl rfl (by decide) ?_
      refine zn_irem 18 (c) (9) rfl rfl rfl rfl (by omega) (by omega) (by omega) ?_
      refine zj_iload_n 19 rfl rfl rfl ?_
      refine zj_iconst 20 (3) rfl rfl (by decide) ?_
      refine zn_icmp_ne 21 (3) (3) rfl rfl rfl rfl (by omega) (by omega) (fun c32 => ?_) (fun c32 => ?_)
      · exact absurd c32 (by decide)
      · refine zj_iconst 22 (-1) rfl rfl (by decide) ?_
        refine zj_goto 23 rfl rfl ?_
        refine zj_iadd 30 rfl rfl ?_
        refine zj_istore 31 rfl rfl ?_
        refine zj_iload 32 rfl rfl rfl ?_
        refine zj_i2l 33 rfl rfl ?_
        refine zj_lconst 34 (0) rfl rfl (by decide) ?_
        refine zj_ldc2 35 (8) rfl rfl (by decide) ?_
        refine zj_csx 36 rfl rfl lk_8_51 ckM_in (k_in0 _ _ 9 (by decide)) rfl rfl rfl rfl ?_
        refine zj_if_eq 37 rfl rfl (fun c62 => ?_) (fun c62 => ?_)
        · exact absurd (zr_of (n := 9) (by omega) (by decide)) (zo_0.mp c62)
        · refine zj_iload 38 rfl rfl rfl ?_
          refine zj_i2l 39 rfl rfl ?_
          refine zj_lconst 40 (0) rfl rfl (by decide) ?_
          refine zj_ldc2 41 (8) rfl rfl (by decide) ?_
          refine zj_csx 42 rfl rfl lk_8_51 ckM_in (k_in0 _ _ 9 (by decide)) rfl rfl rfl rfl ?_
          refine zj_if_eq 43 rfl rfl (fun c75 => ?_) (fun c75 => ?_)
          · have hp := mt (zr_m1 (by omega)).mpr (zo_0.mp c75)
            refine zj_iconst 46 (0) rfl rfl (by decide) ?_
            refine zj_istore 47 rfl rfl ?_
            refine zj_aload_n 48 rfl rfl rfl ?_
            refine zj_iload_n 49 rfl rfl rfl ?_
            refine zj_iload 50 rfl rfl rfl ?_
            refine zj_if_eq 51 rfl rfl (fun c89 => ?_) (fun c89 => ?_)
            · refine zj_iload_n 54 rfl rfl rfl ?_
              refine zj_bipush 55 (9) rfl rfl (by decide) ?_
              refine zn_idiv 56 (c) (9) rfl rfl rfl rfl (by omega) (by omega) (by omega) ?_
              refine zj_iload 57 rfl rfl rfl ?_
              refine zj_if_eq 58 rfl rfl (fun c103 => ?_) (fun c103 => ?_)
              · refine zj_iload_n 61 rfl rfl rfl ?_
                refine zj_bipush 62 (9) rfl rfl (by decide) ?_
                refine zn_irem 63 (c) (9) rfl rfl rfl rfl (by omega) (by omega) (by omega) ?_
                refine zj_cvx 64 rfl rfl lk_8_76 ckM_blurred (k_blurred _ _ _ (by omega) (by omega) (by omega)) rfl mw_0 rfl rfl rfl ?_
                refine zj_ireturn 65 rfl rfl rfl ?_
                exact ⟨zrt (by simp [mSeen, mR, mX, hp]), rfl, rfl⟩
              · exact absurd c103 (by decide)
            · exact absurd c89 (by decide)
          · have hp := (zr_m1 (by omega)).mp (zo_n0.mp c75)
            rw [sb_m1 hp]
            refine zj_iconst 44 (1) rfl rfl (by decide) ?_
            refine zj_goto 45 rfl rfl ?_
            refine zj_istore 47 rfl rfl ?_
            refine zj_aload_n 48 rfl rfl rfl ?_
            refine zj_iload_n 49 rfl rfl rfl ?_
            refine zj_iload 50 rfl rfl rfl ?_
            refine zj_if_eq 51 rfl rfl (fun c89 => ?_) (fun c89 => ?_)
            · exact absurd c89 (by decide)
            · refine zj_iload 52 rfl rfl rfl ?_
              refine zj_goto 53 rfl rfl ?_
              refine zj_iload 57 rfl rfl rfl ?_
              refine zj_if_eq 58 rfl rfl (fun c103 => ?_) (fun c103 => ?_)
              · exact absurd c103 (by decide)
              · refine zj_iload 59 rfl rfl rfl ?_
                refine zj_goto 60 rfl rfl ?_
                refine zj_cvx 64 rfl rfl lk_8_76 ckM_blurred (k_blurred _ _ _ (by omega) (by omega) (by omega)) rfl mw_0 rfl rfl rfl ?_
                refine zj_ireturn 65 rfl rfl rfl ?_
                exact ⟨zrt (by simp [mSeen, mR, mX, hp]), rfl, rfl⟩
    · exact absurd c15 (by decide)
  · exact absurd c6 (by decide)
theorem k_seenAt4 (g c : Nat) (hg : g < 4) (hc : c < 81) : zM E YM_seenAt 3 [.ref a, .int (nI g), .int (nI 4), .int (nI c)] (mw σ a M) (some (.int (mSeen M.picture g 4 c))) (mw σ a M) := by
  refine zM.of oM_seenAt (by decide +kernel) rfl rfl (fun n => ?_)
  refine zj_iload_n 0 rfl rfl rfl ?_
  refine zj_bipush 1 (9) rfl rfl (by decide) ?_
  refine zn_idiv 2 (c) (9) rfl rfl rfl rfl (by omega) (by omega) (by omega) ?_
  refine zj_iload_n 3 rfl rfl rfl ?_
  refine zj_iconst 4 (1) rfl rfl (by decide) ?_
  refine zn_icmp_ne 5 (4) (1) rfl rfl rfl rfl (by omega) (by omega) (fun c6 => ?_) (fun c6 => ?_)
  · refine zj_iload_n 8 rfl rfl rfl ?_
    refine zj_iconst 9 (2) rfl rfl (by decide) ?_
    refine zn_icmp_ne 10 (4) (2) rfl rfl rfl rfl (by omega) (by omega) (fun c15 => ?_) (fun c15 => ?_)
    · refine zj_iconst 13 (0) rfl rfl (by decide) ?_
      refine zn_iadd 14 (c / 9) (0) rfl rfl rfl rfl ?_
      refine zj_istore 15 rfl rfl ?_
      refine zj_iload_n 16 rfl rfl rfl ?_
      refine zj_bipush 17 (9) rfl rfl (by decide) ?_
      refine zn_irem 18 (c) (9) rfl rfl rfl rfl (by omega) (by omega) (by omega) ?_
      refine zj_iload_n 19 rfl rfl rfl ?_
      refine zj_iconst 20 (3) rfl rfl (by decide) ?_
      refine zn_icmp_ne 21 (4) (3) rfl rfl rfl rfl (by omega) (by omega) (fun c32 => ?_) (fun c32 => ?_)
      · refine zj_iload_n 24 rfl rfl rfl ?_
        refine zj_iconst 25 (4) rfl rfl (by decide) ?_
        refine zn_icmp_ne 26 (4) (4) rfl rfl rfl rfl (by omega) (by omega) (fun c41 => ?_) (fun c41 => ?_)
        · exact absurd c41 (by decide)
        · refine zj_iconst 27 (1) rfl rfl (by decide) ?_
          refine zj_goto 28 rfl rfl ?_
          refine zn_iadd 30 (c % 9) (1) rfl rfl rfl rfl ?_
          refine zj_istore 31 rfl rfl ?_
          refine zj_iload 32 rfl rfl rfl ?_
          refine zj_i2l 33 rfl rfl ?_
          refine zj_lconst 34 (0) rfl rfl (by decide) ?_
          refine zj_ldc2 35 (8) rfl rfl (by decide) ?_
          refine zj_csx 36 rfl rfl lk_8_51 ckM_in (k_in0 _ _ 9 (by decide)) rfl rfl rfl rfl ?_
          refine zj_if_eq 37 rfl rfl (fun c62 => ?_) (fun c62 => ?_)
          · exact absurd (zr_of (n := 9) (by omega) (by decide)) (zo_0.mp c62)
          · refine zj_iload 38 rfl rfl rfl ?_
            refine zj_i2l 39 rfl rfl ?_
            refine zj_lconst 40 (0) rfl rfl (by decide) ?_
            refine zj_ldc2 41 (8) rfl rfl (by decide) ?_
            refine zj_csx 42 rfl rfl lk_8_51 ckM_in (k_in0 _ _ 9 (by decide)) rfl rfl rfl rfl ?_
            refine zj_if_eq 43 rfl rfl (fun c75 => ?_) (fun c75 => ?_)
            · have hp := mt (zr_lt (by omega)).mpr (zo_0.mp c75)
              refine zj_iconst 46 (0) rfl rfl (by decide) ?_
              refine zj_istore 47 rfl rfl ?_
              refine zj_aload_n 48 rfl rfl rfl ?_
              refine zj_iload_n 49 rfl rfl rfl ?_
              refine zj_iload 50 rfl rfl rfl ?_
              refine zj_if_eq 51 rfl rfl (fun c89 => ?_) (fun c89 => ?_)
              · refine zj_iload_n 54 rfl rfl rfl ?_
                refine zj_bipush 55 (9) rfl rfl (by decide) ?_
                refine zn_idiv 56 (c) (9) rfl rfl rfl rfl (by omega) (by omega) (by omega) ?_
                refine zj_iload 57 rfl rfl rfl ?_
                refine zj_if_eq 58 rfl rfl (fun c103 => ?_) (fun c103 => ?_)
                · refine zj_iload_n 61 rfl rfl rfl ?_
                  refine zj_bipush 62 (9) rfl rfl (by decide) ?_
                  refine zn_irem 63 (c) (9) rfl rfl rfl rfl (by omega) (by omega) (by omega) ?_
                  refine zj_cvx 64 rfl rfl lk_8_76 ckM_blurred (k_blurred _ _ _ (by omega) (by omega) (by omega)) rfl mw_0 rfl rfl rfl ?_
                  refine zj_ireturn 65 rfl rfl rfl ?_
                  exact ⟨zrt (by simp [mSeen, mR, mX, hp]), rfl, rfl⟩
                · exact absurd c103 (by decide)
              · exact absurd c89 (by decide)
            · have hp := (zr_lt (by omega)).mp (zo_n0.mp c75)
              refine zj_iconst 44 (1) rfl rfl (by decide) ?_
              refine zj_goto 45 rfl rfl ?_
              refine zj_istore 47 rfl rfl ?_
              refine zj_aload_n 48 rfl rfl rfl ?_
              refine zj_iload_n 49 rfl rfl rfl ?_
              refine zj_iload 50 rfl rfl rfl ?_
              refine zj_if_eq 51 rfl rfl (fun c89 => ?_) (fun c89 => ?_)
              · exact absurd c89 (by decide)
              · refine zj_iload 52 rfl rfl rfl ?_
                refine zj_goto 53 rfl rfl ?_
                refine zj_iload 57 rfl rfl rfl ?_
                refine zj_if_eq 58 rfl rfl (fun c103 => ?_) (fun c103 => ?_)
                · exact absurd c103 (by decide)
                · refine zj_iload 59 rfl rfl rfl ?_
                  refine zj_goto 60 rfl rfl ?_
                  refine zj_cvx 64 rfl rfl lk_8_76 ckM_blurred (k_blurred _ _ _ (by omega) (by omega) (by omega)) rfl mw_0 rfl rfl rfl ?_
                  refine zj_ireturn 65 rfl rfl rfl ?_
                  exact ⟨zrt (by simp [mSeen, mR, mX, hp]), rfl, rfl⟩
      · exact absurd c32 (by decide)
    · exact absurd c15 (by decide)
  · exact absurd c6 (by decide)
theorem k_seenAt (g air c : Nat) (hg : g < 4) (ha : air < 5) (hc : c < 81) : zM E YM_seenAt 3 [.ref a, .int (nI g), .int (nI air), .int (nI c)] (mw σ a M) (some (.int (mSeen M.picture g air c))) (mw σ a M) := by
  match air, ha with
  | 0, _ => exact k_seenAt0 g c hg hc
  | 1, _ => exact k_seenAt1 g c hg hc
  | 2, _ => exact k_seenAt2 g c hg hc
  | 3, _ => exact k_seenAt3 g c hg hc
  | 4, _ => exact k_seenAt4 g c hg hc
theorem k_Mseen (w dk g air c : Nat) (hw : w < 4) (hd : dk < 16) (hg : g < 4) (ha : air < 5) (hc : c < 81) : zM E YM_seen 4 [.ref a, .int (nI w), .int (nI dk), .int (nI g), .int (nI air), .int (nI c)] (mw σ a M) (some (.int (mSeen (zfl (mPic M.row w (nI dk)) M.picture 81) g air c))) (mw σ a (M.sA 3 (zfl (mPic M.row w (nI dk)) M.picture 81))) := by
  refine zM.of oM_seen (by decide +kernel) rfl rfl (fun n => ?_)
  refine zj_iload_n 0 rfl rfl rfl ?_
  refine zj_iload_n 1 rfl rfl rfl ?_
  refine zj_iload_n 2 rfl rfl rfl ?_
  refine zj_iload 3 rfl rfl rfl ?_
  refine zj_csx 4 rfl rfl lk_8_82 ckM_isLook (k_isLook _ _ _ _) rfl rfl rfl rfl ?_
  refine zj_if_eq 5 rfl rfl (fun c8 => ?_) (fun c8 => ?_)
  · exact absurd ⟨zr_of (by omega) (by decide), zr_of (by omega) (by decide), zr_of (by omega) (by decide), zr_of (by omega) (by decide)⟩ (zo_0.mp c8)
  · refine zj_iload 6 rfl rfl rfl ?_
    refine zj_csx 7 rfl rfl lk_8_61 ckM_isCell (k_isCell _) rfl rfl rfl rfl ?_
    refine zj_if_ne 8 rfl rfl (fun c16 => ?_) (fun c16 => ?_)
    · refine zj_aload_n 11 rfl rfl rfl ?_
      refine zj_iload_n 12 rfl rfl rfl ?_
      refine zj_iload_n 13 rfl rfl rfl ?_
      refine zj_cvv 14 rfl rfl lk_8_86 ckM_layWorld (k_layWorld _ _ (by omega)) rfl mw_0 rfl rfl rfl ?_
      refine zj_aload_n 15 rfl rfl rfl ?_
      refine zj_iload_n 16 rfl rfl rfl ?_
      refine zj_iload 17 rfl rfl rfl ?_
      refine zj_iload 18 rfl rfl rfl ?_
      refine zj_cvx 19 rfl rfl lk_8_90 ckM_seenAt (k_seenAt _ _ _ (by omega) (by omega) (by omega)) rfl mw_0 rfl rfl rfl ?_
      refine zj_ireturn 20 rfl rfl rfl ?_
      exact ⟨rfl, rfl, rfl⟩
    · exact absurd (zr_of (by omega) (by decide)) (zo_0.mp c16)
theorem k_Mseen_bad (w dk g air c : Int32) (hb : ¬ ((zr w 4 ∧ zr dk 16 ∧ zr g 4 ∧ zr air 5) ∧ zr c 81)) : zM E YM_seen 4 [.ref a, .int w, .int dk, .int g, .int air, .int c] (mw σ a M) (some (.int (-2))) (mw σ a M) := by
  refine zM.of oM_seen (by decide +kernel) rfl rfl (fun n => ?_)
  refine zj_iload_n 0 rfl rfl rfl ?_
  refine zj_iload_n 1 rfl rfl rfl ?_
  refine zj_iload_n 2 rfl rfl rfl ?_
  refine zj_iload 3 rfl rfl rfl ?_
  refine zj_csx 4 rfl rfl lk_8_82 ckM_isLook (k_isLook _ _ _ _) rfl rfl rfl rfl ?_
  refine zj_if_eq 5 rfl rfl (fun c8 => ?_) (fun c8 => ?_)
  · refine zj_bipush 9 (-2) rfl rfl (by decide) ?_
    refine zj_ireturn 10 rfl rfl rfl ?_
    exact ⟨rfl, rfl, rfl⟩
  · refine zj_iload 6 rfl rfl rfl ?_
    refine zj_csx 7 rfl rfl lk_8_61 ckM_isCell (k_isCell _) rfl rfl rfl rfl ?_
    refine zj_if_ne 8 rfl rfl (fun c16 => ?_) (fun c16 => ?_)
    · exact absurd ⟨zo_n0.mp c8, zo_n0.mp c16⟩ hb
    · refine zj_bipush 9 (-2) rfl rfl (by decide) ?_
      refine zj_ireturn 10 rfl rfl rfl ?_
      exact ⟨rfl, rfl, rfl⟩
theorem k_linesAhead (p : Nat) (hp : p < 8) : zM E YM_linesAhead 1 [.int (nI p)] (σ) (some (.int (nI (7 * p - p * (p - 1) / 2)))) (σ) := by
  refine zM.of oM_linesAhead (by decide +kernel) rfl rfl (fun n => ?_)
  refine zj_bipush 0 (7) rfl rfl (by decide) ?_
  refine zj_iload_n 1 rfl rfl rfl ?_
  refine zn_imul 2 (7) (p) rfl rfl rfl rfl ?_
  refine zj_iload_n 3 rfl rfl rfl ?_
  refine zj_iload_n 4 rfl rfl rfl ?_
  refine zj_iconst 5 (1) rfl rfl (by decide) ?_
  refine zj_isub 6 rfl rfl ?_
  refine zj_imul 7 rfl rfl ?_
  refine zj_iconst 8 (2) rfl rfl (by decide) ?_
  refine zj_idiv 9 rfl rfl (by decide) ?_
  refine zj_isub 10 rfl rfl ?_
  refine zj_ireturn 11 rfl rfl rfl ?_
  exact ⟨zrt (zlines hp), rfl, rfl⟩
theorem k_Mline (p r : Nat) (hp : p < 8) (hr : r < 8) (hne : p ≠ r) : zM E YM_line 2 [.ref a, .int (nI p), .int (nI r)] (mw σ a M) (some (.int (nI (7 * min p r - min p r * (min p r - 1) / 2) + nI (max p r) - nI (min p r) - 1))) (mw σ a M) := by
  refine zM.of oM_line (by decide +kernel) rfl rfl (fun n => ?_)
  refine zj_iload_n 0 rfl rfl rfl ?_
  refine zj_i2l 1 rfl rfl ?_
  refine zj_lconst 2 (0) rfl rfl (by decide) ?_
  refine zj_ldc2 3 (7) rfl rfl (by decide) ?_
  refine zj_csx 4 rfl rfl lk_8_51 ckM_in (k_in0 _ _ 8 (by decide)) rfl rfl rfl rfl ?_
  refine zj_if_eq 5 rfl rfl (fun c9 => ?_) (fun c9 => ?_)
  · exact absurd (zr_of (by omega) (by decide)) (zo_0.mp c9)
  · refine zj_iload_n 6 rfl rfl rfl ?_
    refine zj_i2l 7 rfl rfl ?_
    refine zj_lconst 8 (0) rfl rfl (by decide) ?_
    refine zj_ldc2 9 (7) rfl rfl (by decide) ?_
    refine zj_csx 10 rfl rfl lk_8_51 ckM_in (k_in0 _ _ 8 (by decide)) rfl rfl rfl rfl ?_
    refine zj_if_eq 11 rfl rfl (fun c21 => ?_) (fun c21 => ?_)
    · exact absurd (zr_of (by omega) (by decide)) (zo_0.mp c21)
    · refine zj_iload_n 12 rfl rfl rfl ?_
      refine zj_iload_n 13 rfl rfl rfl ?_
      refine zn_icmp_ne 14 (p) (r) rfl rfl rfl rfl (by omega) (by omega) (fun c26 => ?_) (fun c26 => ?_)
      · refine zj_iload_n 17 rfl rfl rfl ?_
        refine zj_iload_n 18 rfl rfl rfl ?_
        refine zn_icmp_ge 19 (p) (r) rfl rfl rfl rfl (by omega) (by omega) (fun c34 => ?_) (fun c34 => ?_)
        · refine zj_iload_n 22 rfl rfl rfl ?_
          refine zj_istore_n 23 rfl rfl ?_
          refine zj_iload_n 24 rfl rfl rfl ?_
          refine zj_iload_n 25 rfl rfl rfl ?_
          refine zn_icmp_ge 26 (p) (r) rfl rfl rfl rfl (by omega) (by omega) (fun c45 => ?_) (fun c45 => ?_)
          · refine zj_iload_n 29 rfl rfl rfl ?_
            refine zj_istore 30 rfl rfl ?_
            refine zj_iload_n 31 rfl rfl rfl ?_
            refine zj_csx 32 rfl rfl lk_8_93 ckM_linesAhead (k_linesAhead _ (by omega)) rfl rfl rfl rfl ?_
            refine zj_iload 33 rfl rfl rfl ?_
            refine zj_iadd 34 rfl rfl ?_
            refine zj_iload_n 35 rfl rfl rfl ?_
            refine zj_isub 36 rfl rfl ?_
            refine zj_iconst 37 (1) rfl rfl (by decide) ?_
            refine zj_isub 38 rfl rfl ?_
            refine zj_ireturn 39 rfl rfl rfl ?_
            first
              | (exfalso; omega)
              | (refine ⟨zrt ?_, rfl, rfl⟩; rw [Nat.min_eq_left (show p ≤ r by omega), Nat.max_eq_right (show p ≤ r by omega)])
              | (refine ⟨zrt ?_, rfl, rfl⟩; rw [Nat.min_eq_right (show r ≤ p by omega), Nat.max_eq_left (show r ≤ p by omega)])
          · refine zj_iload_n 27 rfl rfl rfl ?_
            refine zj_goto 28 rfl rfl ?_
            refine zj_istore 30 rfl rfl ?_
            refine zj_iload_n 31 rfl rfl rfl ?_
            refine zj_csx 32 rfl rfl lk_8_93 ckM_linesAhead (k_linesAhead _ (by omega)) rfl rfl rfl rfl ?_
            refine zj_iload 33 rfl rfl rfl ?_
            refine zj_iadd 34 rfl rfl ?_
            refine zj_iload_n 35 rfl rfl rfl ?_
            refine zj_isub 36 rfl rfl ?_
            refine zj_iconst 37 (1) rfl rfl (by decide) ?_
            refine zj_isub 38 rfl rfl ?_
            refine zj_ireturn 39 rfl rfl rfl ?_
            first
              | (exfalso; omega)
              | (refine ⟨zrt ?_, rfl, rfl⟩; rw [Nat.min_eq_left (show p ≤ r by omega), Nat.max_eq_right (show p ≤ r by omega)])
              | (refine ⟨zrt ?_, rfl, rfl⟩; rw [Nat.min_eq_right (show r ≤ p by omega), Nat.max_eq_left (show r ≤ p by omega)])
        · refine zj_iload_n 20 rfl rfl rfl ?_
          refine zj_goto 21 rfl rfl ?_
          refine zj_istore_n 23 rfl rfl ?_
          refine zj_iload_n 24 rfl rfl rfl ?_
          refine zj_iload_n 25 rfl rfl rfl ?_
          refine zn_icmp_ge 26 (p) (r) rfl rfl rfl rfl (by omega) (by omega) (fun c45 => ?_) (fun c45 => ?_)
          · refine zj_iload_n 29 rfl rfl rfl ?_
            refine zj_istore 30 rfl rfl ?_
            refine zj_iload_n 31 rfl rfl rfl ?_
            refine zj_csx 32 rfl rfl lk_8_93 ckM_linesAhead (k_linesAhead _ (by omega)) rfl rfl rfl rfl ?_
            refine zj_iload 33 rfl rfl rfl ?_
            refine zj_iadd 34 rfl rfl ?_
            refine zj_iload_n 35 rfl rfl rfl ?_
            refine zj_isub 36 rfl rfl ?_
            refine zj_iconst 37 (1) rfl rfl (by decide) ?_
            refine zj_isub 38 rfl rfl ?_
            refine zj_ireturn 39 rfl rfl rfl ?_
            first
              | (exfalso; omega)
              | (refine ⟨zrt ?_, rfl, rfl⟩; rw [Nat.min_eq_left (show p ≤ r by omega), Nat.max_eq_right (show p ≤ r by omega)])
              | (refine ⟨zrt ?_, rfl, rfl⟩; rw [Nat.min_eq_right (show r ≤ p by omega), Nat.max_eq_left (show r ≤ p by omega)])
          · refine zj_iload_n 27 rfl rfl rfl ?_
            refine zj_goto 28 rfl rfl ?_
            refine zj_istore 30 rfl rfl ?_
            refine zj_iload_n 31 rfl rfl rfl ?_
            refine zj_csx 32 rfl rfl lk_8_93 ckM_linesAhead (k_linesAhead _ (by omega)) rfl rfl rfl rfl ?_
            refine zj_iload 33 rfl rfl rfl ?_
            refine zj_iadd 34 rfl rfl ?_
            refine zj_iload_n 35 rfl rfl rfl ?_
            refine zj_isub 36 rfl rfl ?_
            refine zj_iconst 37 (1) rfl rfl (by decide) ?_
            refine zj_isub 38 rfl rfl ?_
            refine zj_ireturn 39 rfl rfl rfl ?_
            first
              | (exfalso; omega)
              | (refine ⟨zrt ?_, rfl, rfl⟩; rw [Nat.min_eq_left (show p ≤ r by omega), Nat.max_eq_right (show p ≤ r by omega)])
              | (refine ⟨zrt ?_, rfl, rfl⟩; rw [Nat.min_eq_right (show r ≤ p by omega), Nat.max_eq_left (show r ≤ p by omega)])
      · exact absurd c26 hne
theorem k_Mline_bad (p r : Int32) (hb : ¬ (zr p 8 ∧ zr r 8 ∧ p ≠ r)) : zM E YM_line 2 [.ref a, .int p, .int r] (mw σ a M) (some (.int (-2))) (mw σ a M) := by
  refine zM.of oM_line (by decide +kernel) rfl rfl (fun n => ?_)
  refine zj_iload_n 0 rfl rfl rfl ?_
  refine zj_i2l 1 rfl rfl ?_
  refine zj_lconst 2 (0) rfl rfl (by decide) ?_
  refine zj_ldc2 3 (7) rfl rfl (by decide) ?_
  refine zj_csx 4 rfl rfl lk_8_51 ckM_in (k_in0 _ _ 8 (by decide)) rfl rfl rfl rfl ?_
  refine zj_if_eq 5 rfl rfl (fun c9 => ?_) (fun c9 => ?_)
  · refine zj_bipush 15 (-2) rfl rfl (by decide) ?_
    refine zj_ireturn 16 rfl rfl rfl ?_
    exact ⟨rfl, rfl, rfl⟩
  · refine zj_iload_n 6 rfl rfl rfl ?_
    refine zj_i2l 7 rfl rfl ?_
    refine zj_lconst 8 (0) rfl rfl (by decide) ?_
    refine zj_ldc2 9 (7) rfl rfl (by decide) ?_
    refine zj_csx 10 rfl rfl lk_8_51 ckM_in (k_in0 _ _ 8 (by decide)) rfl rfl rfl rfl ?_
    refine zj_if_eq 11 rfl rfl (fun c21 => ?_) (fun c21 => ?_)
    · refine zj_bipush 15 (-2) rfl rfl (by decide) ?_
      refine zj_ireturn 16 rfl rfl rfl ?_
      exact ⟨rfl, rfl, rfl⟩
    · refine zj_iload_n 12 rfl rfl rfl ?_
      refine zj_iload_n 13 rfl rfl rfl ?_
      refine zj_icmp_ne 14 rfl rfl (fun c26 => ?_) (fun c26 => ?_)
      · exact absurd ⟨zo_n0.mp c9, zo_n0.mp c21, c26⟩ hb
      · refine zj_bipush 15 (-2) rfl rfl (by decide) ?_
        refine zj_ireturn 16 rfl rfl rfl ?_
        exact ⟨rfl, rfl, rfl⟩
theorem k_Mwrite (l c k : Nat) (hl : l < 4) (hc : c < 128) (hk : M.row (368 + l) = nI k) (hk40 : k < 40) : zM E YM_write 3 [.ref a, .int (nI l), .int (nI c)] (mw σ a M) (some (.int (nI (k + 1)))) (mw σ a (M.sA 0 (va_up (va_up M.row (372 + 40 * l + k) (nI c)) (368 + l) (nI (k + 1))))) := by
  refine zM.of oM_write (by decide +kernel) rfl rfl (fun n => ?_)
  refine zj_iload_n 0 rfl rfl rfl ?_
  refine zj_csx 1 rfl rfl lk_8_57 ckM_isFour (k_isFour _) rfl rfl rfl rfl ?_
  refine zj_if_eq 2 rfl rfl (fun c4 => ?_) (fun c4 => ?_)
  · exact absurd (zr_of (by omega) (by decide)) (zo_0.mp c4)
  · refine zj_iload_n 3 rfl rfl rfl ?_
    refine zj_i2l 4 rfl rfl ?_
    refine zj_lconst 5 (0) rfl rfl (by decide) ?_
    refine zj_ldc2 6 (127) rfl rfl (by decide) ?_
    refine zj_csx 7 rfl rfl lk_8_51 ckM_in (k_in0 _ _ 128 (by decide)) rfl rfl rfl rfl ?_
    refine zj_if_ne 8 rfl rfl (fun c16 => ?_) (fun c16 => ?_)
    · refine zj_aload_n 11 rfl rfl rfl ?_
      refine zj_get 12 rfl rfl mw_0 rfl ?_
      refine zj_sipush 13 (368) rfl rfl (by decide) ?_
      refine zj_iload_n 14 rfl rfl rfl ?_
      refine zn_iadd 15 (368) (l) rfl rfl rfl rfl ?_
      refine zn_iald 16 (368 + l) rfl rfl mw_1 rfl (by omega) (by decide) ?_
      refine zj_istore_n 17 rfl rfl ?_
      refine zj_iload_n 18 rfl rfl rfl ?_
      refine zj_bipush 19 (40) rfl rfl (by decide) ?_
      refine zn_icmp_ne 20 (k) (40) rfl rfl hk rfl (by omega) (by omega) (fun c36 => ?_) (fun c36 => ?_)
      · refine zj_aload_n 23 rfl rfl rfl ?_
        refine zj_get 24 rfl rfl mw_0 rfl ?_
        refine zj_sipush 25 (372) rfl rfl (by decide) ?_
        refine zj_bipush 26 (40) rfl rfl (by decide) ?_
        refine zj_iload_n 27 rfl rfl rfl ?_
        refine zn_imul 28 (40) (l) rfl rfl rfl rfl ?_
        refine zn_iadd 29 (372) (40 * l) rfl rfl rfl rfl ?_
        refine zj_iload_n 30 rfl rfl rfl ?_
        refine zn_iadd 31 ((372) + (40 * l)) (k) rfl rfl rfl hk ?_
        refine zj_iload_n 32 rfl rfl rfl ?_
        refine zn_iast 33 (((372) + (40 * l)) + (k)) rfl rfl mw_1 rfl (by omega) (by decide) mw_u1 ?_
        refine zj_aload_n 34 rfl rfl rfl ?_
        refine zj_get 35 rfl rfl mw_0 rfl ?_
        refine zj_sipush 36 (368) rfl rfl (by decide) ?_
        refine zj_iload_n 37 rfl rfl rfl ?_
        refine zn_iadd 38 (368) (l) rfl rfl rfl rfl ?_
        refine zj_dup2 39 rfl rfl rfl rfl ?_
        refine zn_iald 40 (368 + l) rfl rfl mw_1 rfl (by omega) (by decide) ?_
        refine zj_iconst 41 (1) rfl rfl (by decide) ?_
        refine zn_iadd 42 (k) (1) rfl rfl (by rw [← hk]; simp [va_up]; omega) rfl ?_
        refine zn_iast 43 (368 + l) rfl rfl mw_1 rfl (by omega) (by decide) mw_u1 ?_
        refine zj_iload_n 44 rfl rfl rfl ?_
        refine zj_iconst 45 (1) rfl rfl (by decide) ?_
        refine zn_iadd 46 (k) (1) rfl rfl hk rfl ?_
        refine zj_ireturn 47 rfl rfl rfl ?_
        exact ⟨rfl, rfl, by rw [zMo.sA_sA]; rfl⟩
      · exact absurd c36 (by omega)
    · exact absurd (zr_of (by omega) (by decide)) (zo_0.mp c16)
theorem k_Mwrite_full (l c : Nat) (hl : l < 4) (hc : c < 128) (hk : M.row (368 + l) = nI 40) : zM E YM_write 3 [.ref a, .int (nI l), .int (nI c)] (mw σ a M) (some (.int (-4))) (mw σ a M) := by
  refine zM.of oM_write (by decide +kernel) rfl rfl (fun n => ?_)
  refine zj_iload_n 0 rfl rfl rfl ?_
  refine zj_csx 1 rfl rfl lk_8_57 ckM_isFour (k_isFour _) rfl rfl rfl rfl ?_
  refine zj_if_eq 2 rfl rfl (fun c4 => ?_) (fun c4 => ?_)
  · exact absurd (zr_of (by omega) (by decide)) (zo_0.mp c4)
  · refine zj_iload_n 3 rfl rfl rfl ?_
    refine zj_i2l 4 rfl rfl ?_
    refine zj_lconst 5 (0) rfl rfl (by decide) ?_
    refine zj_ldc2 6 (127) rfl rfl (by decide) ?_
    refine zj_csx 7 rfl rfl lk_8_51 ckM_in (k_in0 _ _ 128 (by decide)) rfl rfl rfl rfl ?_
    refine zj_if_ne 8 rfl rfl (fun c16 => ?_) (fun c16 => ?_)
    · refine zj_aload_n 11 rfl rfl rfl ?_
      refine zj_get 12 rfl rfl mw_0 rfl ?_
      refine zj_sipush 13 (368) rfl rfl (by decide) ?_
      refine zj_iload_n 14 rfl rfl rfl ?_
      refine zn_iadd 15 (368) (l) rfl rfl rfl rfl ?_
      refine zn_iald 16 (368 + l) rfl rfl mw_1 rfl (by omega) (by decide) ?_
      refine zj_istore_n 17 rfl rfl ?_
      refine zj_iload_n 18 rfl rfl rfl ?_
      refine zj_bipush 19 (40) rfl rfl (by decide) ?_
      refine zn_icmp_ne 20 (40) (40) rfl rfl hk rfl (by omega) (by omega) (fun c36 => ?_) (fun c36 => ?_)
      · exact absurd c36 (by decide)
      · refine zj_bipush 21 (-4) rfl rfl (by decide) ?_
        refine zj_ireturn 22 rfl rfl rfl ?_
        exact ⟨rfl, rfl, rfl⟩
    · exact absurd (zr_of (by omega) (by decide)) (zo_0.mp c16)
theorem k_Mwrite_bad (l c : Int32) (hb : ¬ (zr l 4 ∧ zr c 128)) : zM E YM_write 3 [.ref a, .int l, .int c] (mw σ a M) (some (.int (-2))) (mw σ a M) := by
  refine zM.of oM_write (by decide +kernel) rfl rfl (fun n => ?_)
  refine zj_iload_n 0 rfl rfl rfl ?_
  refine zj_csx 1 rfl rfl lk_8_57 ckM_isFour (k_isFour _) rfl rfl rfl rfl ?_
  refine zj_if_eq 2 rfl rfl (fun c4 => ?_) (fun c4 => ?_)
  · refine zj_bipush 9 (-2) rfl rfl (by decide) ?_
    refine zj_ireturn 10 rfl rfl rfl ?_
    exact ⟨rfl, rfl, rfl⟩
  · refine zj_iload_n 3 rfl rfl rfl ?_
    refine zj_i2l 4 rfl rfl ?_
    refine zj_lconst 5 (0) rfl rfl (by decide) ?_
    refine zj_ldc2 6 (127) rfl rfl (by decide) ?_
    refine zj_csx 7 rfl rfl lk_8_51 ckM_in (k_in0 _ _ 128 (by decide)) rfl rfl rfl rfl ?_
    refine zj_if_ne 8 rfl rfl (fun c16 => ?_) (fun c16 => ?_)
    · exact absurd ⟨zo_n0.mp c4, zo_n0.mp c16⟩ hb
    · refine zj_bipush 9 (-2) rfl rfl (by decide) ?_
      refine zj_ireturn 10 rfl rfl rfl ?_
      exact ⟨rfl, rfl, rfl⟩
theorem k_Merase (l : Nat) (hl : l < 4) : zM E YM_erase 3 [.ref a, .int (nI l)] (mw σ a M) (some (.int (M.row (368 + l)))) (mw σ a (M.sA 0 (va_up M.row (368 + l) 0))) := by
  refine zM.of oM_erase (by decide +kernel) rfl rfl (fun n => ?_)
  refine zj_iload_n 0 rfl rfl rfl ?_
  refine zj_csx 1 rfl rfl lk_8_57 ckM_isFour (k_isFour _) rfl rfl rfl rfl ?_
  refine zj_if_eq 2 rfl rfl (fun c4 => ?_) (fun c4 => ?_)
  · exact absurd (zr_of (by omega) (by decide)) (zo_0.mp c4)
  · refine zj_aload_n 3 rfl rfl rfl ?_
    refine zj_sipush 4 (368) rfl rfl (by decide) ?_
    refine zj_iload_n 5 rfl rfl rfl ?_
    refine zn_iadd 6 (368) (l) rfl rfl rfl rfl ?_
    refine zj_iconst 7 (0) rfl rfl (by decide) ?_
    refine zj_cvx 8 rfl rfl lk_8_66 ckM_change (k_change _ _ (by omega)) rfl mw_0 rfl rfl rfl ?_
    refine zj_goto 9 rfl rfl ?_
    refine zj_ireturn 11 rfl rfl rfl ?_
    exact ⟨rfl, rfl, rfl⟩
theorem k_Merase_bad (l : Int32) (hb : ¬ zr l 4) : zM E YM_erase 3 [.ref a, .int l] (mw σ a M) (some (.int (-2))) (mw σ a M) := by
  refine zM.of oM_erase (by decide +kernel) rfl rfl (fun n => ?_)
  refine zj_iload_n 0 rfl rfl rfl ?_
  refine zj_csx 1 rfl rfl lk_8_57 ckM_isFour (k_isFour _) rfl rfl rfl rfl ?_
  refine zj_if_eq 2 rfl rfl (fun c4 => ?_) (fun c4 => ?_)
  · refine zj_bipush 10 (-2) rfl rfl (by decide) ?_
    refine zj_ireturn 11 rfl rfl rfl ?_
    exact ⟨rfl, rfl, rfl⟩
  · exact absurd (zo_n0.mp c4) hb
end
