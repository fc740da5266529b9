theorem zj_norm {E : zE} {Y : zY} {R : Room} {fin : zF} {n cells slots : Nat} {σ : zH} {pc : Nat} {L : List (Option Value)} {st : List Value} (L' : List (Option Value)) (h : L = L') (kk : zJ E Y R fin n cells slots σ pc L' st) : zJ E Y R fin n cells slots σ pc L st := h ▸ kk
/-! the reference: chance, the digest, ways -/
def pB (x : Int32) : Nat → Nat
  | 0 => 0
  | k + 1 => pB x k + (if zhas x (nI k) then 1 else 0)
theorem pB_le (x : Int32) : ∀ k, pB x k ≤ k
  | 0 => Nat.le_refl _
  | k + 1 => by have := pB_le x k; simp only [pB]; split <;> omega
theorem zb28_nat (x : Int32) : ∀ k, zb28 x k = nI (pB x k)
  | 0 => rfl
  | k + 1 => by
    simp only [zb28, pB]
    rw [zb28_nat x k, ← nI_add]
    congr 1
    by_cases h : zhas x (nI k)
    · rw [if_pos h, (zhas1_iff _ _).mpr h]; rfl
    · rw [if_neg h]
      exact Decidable.of_not_not h
def mDig (r : Nat → Int32) (u l : Int64) (no ns nh ng : Nat) (len : Nat → Nat) : Int64 :=
  let t := fun (h : Int64) (v : Int32) => 31 * h + v.toInt64
  let R := fun (b n : Nat) (h : Int64) => pTR (fun j => r (b + j)) h n
  let h1 := t (t (t (t 431 (r 532)) (r 549)) (r 598)) (r 780)
  let h2 := R (324 + 27) 9 (R 243 81 (R (324 + 18) 9 (R 162 81 (R (324 + 9) 9 (R 81 81 (R (324 + 0) 9 (R 0 81 h1)))))))
  let h3 := R 360 8 h2
  let h4 := R (372 + 120) (len 3) (t (R (372 + 80) (len 2) (t (R (372 + 40) (len 1) (t (R (372 + 0) (len 0) (t h3 (r (368 + 0)))) (r (368 + 1)))) (r (368 + 2)))) (r (368 + 3)))
  let h5 := R 599 (3 * nh) (R 550 (3 * ns) (R 533 (2 * no) h4))
  let h6 := t (R 781 (3 * ng) (t h5 (r 779))) (r 817)
  31 * (31 * h6 + u) + l
section
variable {E : zE} {σ : zH} {a : Nat} {M : zMo}
theorem k_tell' (h v : Int64) : zM E YM_tell 1 [.ref a, .long v] (mw σ a (M.sL 2 h)) none (mw σ a (M.sL 2 (31 * h + v))) := by
  have e := k_tell (E := E) (σ := σ) (a := a) (M := M.sL 2 h) v
  rw [sL_sL] at e
  exact e
theorem k_tellRow_x (b mm : Nat) (y x : Int32) (hy : y = nI b) (hx : x = nI mm) (hb : b + mm ≤ 818) (h0 : Int64) : zM E YM_tellRow 2 [.ref a, .int y, .int x] (mw σ a (M.sL 2 h0)) none (mw σ a (M.sL 2 (pTR (fun j => M.1 0 (b + j)) h0 mm))) := by
  subst hy; subst hx
  exact k_tellRow b mm hb h0
theorem k_countOfh0 (h : Int64) : zM E YM_countOf 1 [.ref a, .int (nI 0)] (mw σ a (M.sL 2 h)) (some (.int (M.1 0 532))) (mw σ a (M.sL 2 h)) := k_countOf0
theorem k_countOfh1 (h : Int64) : zM E YM_countOf 1 [.ref a, .int (nI 1)] (mw σ a (M.sL 2 h)) (some (.int (M.1 0 549))) (mw σ a (M.sL 2 h)) := k_countOf1
theorem k_countOfh2 (h : Int64) : zM E YM_countOf 1 [.ref a, .int (nI 2)] (mw σ a (M.sL 2 h)) (some (.int (M.1 0 598))) (mw σ a (M.sL 2 h)) := k_countOf2
theorem k_countOfh3 (h : Int64) : zM E YM_countOf 1 [.ref a, .int (nI 3)] (mw σ a (M.sL 2 h)) (some (.int (M.1 0 780))) (mw σ a (M.sL 2 h)) := k_countOf3
theorem k_Mdigest (no ns nh ng : Nat) (len : Nat → Nat) (h : M.1 0 532 = nI no) (hb : no ≤ 8) (h2 : M.1 0 549 = nI ns) (hb2 : ns ≤ 16) (h3 : M.1 0 598 = nI nh) (hb3 : nh ≤ 60) (h4 : M.1 0 780 = nI ng) (hb4 : ng ≤ 12) (hl : ∀ l, l < 4 → M.1 0 (368 + l) = nI (len l)) (hl2 : ∀ l, l < 4 → len l ≤ 40) : zM E YM_digest 3 [.ref a] (mw σ a M) (some (.long (mDig (M.1 0) (M.2.2.2 0) (M.2.2.2 1) no ns nh ng len))) (mw σ a (M.sL 2 (mDig (M.1 0) (M.2.2.2 0) (M.2.2.2 1) no ns nh ng len))) := by
  refine zM.of oM_digest (by decide +kernel) rfl rfl (fun n => ?_)
  refine zj_aload_n 0 rfl rfl rfl ?_
  refine zj_ldc2 1 (431) rfl rfl (by decide) ?_
  refine zn_put 2 rfl rfl mw_0 rfl rfl rfl rfl mw_p_hash ?_
  refine zj_iconst 3 (0) rfl rfl (by decide) ?_
  refine zj_istore_n 4 rfl rfl ?_
  refine zj_iload_n 5 rfl rfl rfl ?_
  refine zj_iconst 6 (4) rfl rfl (by decide) ?_
  refine zn_icmp_ge 7 (0) (4) rfl rfl rfl rfl (by omega) (by omega) (fun c11 => ?_) (fun c11 => ?_)
  · exact absurd c11 (by decide)
  · refine zj_aload_n 8 rfl rfl rfl ?_
    refine zj_aload_n 9 rfl rfl rfl ?_
    refine zj_iload_n 10 rfl rfl rfl ?_
    refine zj_cvx 11 rfl rfl lk_8_277 ckM_countOf (k_countOfh0 _) rfl mw_0 rfl rfl rfl ?_
    refine zj_i2l 12 rfl rfl ?_
    refine zj_cvv 13 rfl rfl lk_8_285 ckM_tell (k_tell' _ _) rfl mw_0 rfl rfl rfl ?_
    refine zn_iinc 14 (0) rfl rfl rfl rfl ?_
    refine zj_norm [_, _] rfl ?_
    refine zj_goto 15 rfl rfl ?_
    refine zj_iload_n 5 rfl rfl rfl ?_
    refine zj_iconst 6 (4) rfl rfl (by decide) ?_
    refine zn_icmp_ge 7 (1) (4) rfl rfl rfl rfl (by omega) (by omega) (fun c11 => ?_) (fun c11 => ?_)
    · exact absurd c11 (by decide)
    · refine zj_aload_n 8 rfl rfl rfl ?_
      refine zj_aload_n 9 rfl rfl rfl ?_
      refine zj_iload_n 10 rfl rfl rfl ?_
      refine zj_cvx 11 rfl rfl lk_8_277 ckM_countOf (k_countOfh1 _) rfl mw_0 rfl rfl rfl ?_
      refine zj_i2l 12 rfl rfl ?_
      refine zj_cvv 13 rfl rfl lk_8_285 ckM_tell (k_tell' _ _) rfl mw_0 rfl rfl rfl ?_
      refine zn_iinc 14 (1) rfl rfl rfl rfl ?_
      refine zj_goto 15 rfl rfl ?_
      refine zj_iload_n 5 rfl rfl rfl ?_
      refine zj_iconst 6 (4) rfl rfl (by decide) ?_
      refine zn_icmp_ge 7 (2) (4) rfl rfl rfl rfl (by omega) (by omega) (fun c11 => ?_) (fun c11 => ?_)
      · exact absurd c11 (by decide)
      · refine zj_aload_n 8 rfl rfl rfl ?_
        refine zj_aload_n 9 rfl rfl rfl ?_
        refine zj_iload_n 10 rfl rfl rfl ?_
        refine zj_cvx 11 rfl rfl lk_8_277 ckM_countOf (k_countOfh2 _) rfl mw_0 rfl rfl rfl ?_
        refine zj_i2l 12 rfl rfl ?_
        refine zj_cvv 13 rfl rfl lk_8_285 ckM_tell (k_tell' _ _) rfl mw_0 rfl rfl rfl ?_
        refine zn_iinc 14 (2) rfl rfl rfl rfl ?_
        refine zj_norm [_, _] rfl ?_
        refine zj_goto 15 rfl rfl ?_
        refine zj_iload_n 5 rfl rfl rfl ?_
        refine zj_iconst 6 (4) rfl rfl (by decide) ?_
        refine zn_icmp_ge 7 (3) (4) rfl rfl rfl rfl (by omega) (by omega) (fun c11 => ?_) (fun c11 => ?_)
        · exact absurd c11 (by decide)
        · refine zj_aload_n 8 rfl rfl rfl ?_
          refine zj_aload_n 9 rfl rfl rfl ?_
          refine zj_iload_n 10 rfl rfl rfl ?_
          refine zj_cvx 11 rfl rfl lk_8_277 ckM_countOf (k_countOfh3 _) rfl mw_0 rfl rfl rfl ?_
          refine zj_i2l 12 rfl rfl ?_
          refine zj_cvv 13 rfl rfl lk_8_285 ckM_tell (k_tell' _ _) rfl mw_0 rfl rfl rfl ?_
          refine zn_iinc 14 (3) rfl rfl rfl rfl ?_
          refine zj_goto 15 rfl rfl ?_
          refine zj_iload_n 5 rfl rfl rfl ?_
          refine zj_iconst 6 (4) rfl rfl (by decide) ?_
          refine zn_icmp_ge 7 (4) (4) rfl rfl rfl rfl (by omega) (by omega) (fun c11 => ?_) (fun c11 => ?_)
          · refine zj_iconst 16 (0) rfl rfl (by decide) ?_
            refine zj_istore_n 17 rfl rfl ?_
            refine zj_norm [_, _] rfl ?_
            refine zj_iload_n 18 rfl rfl rfl ?_
            refine zj_iconst 19 (4) rfl rfl (by decide) ?_
            refine zn_icmp_ge 20 (0) (4) rfl rfl rfl rfl (by omega) (by omega) (fun c34 => ?_) (fun c34 => ?_)
            · exact absurd c34 (by decide)
            · refine zj_aload_n 21 rfl rfl rfl ?_
              refine zj_bipush 22 (81) rfl rfl (by decide) ?_
              refine zj_iload_n 23 rfl rfl rfl ?_
              refine zn_imul 24 (81) (0) rfl rfl rfl rfl ?_
              refine zj_bipush 25 (81) rfl rfl (by decide) ?_
              refine zj_cvv 26 rfl rfl lk_8_291 ckM_tellRow (k_tellRow_x (0) (81) _ _ rfl rfl (by first | omega | (have := hl2 0 (by decide); have := hl2 1 (by decide); have := hl2 2 (by decide); have := hl2 3 (by decide); omega)) _) rfl mw_0 rfl rfl rfl ?_
              refine zj_aload_n 27 rfl rfl rfl ?_
              refine zj_sipush 28 (324) rfl rfl (by decide) ?_
              refine zj_bipush 29 (9) rfl rfl (by decide) ?_
              refine zj_iload_n 30 rfl rfl rfl ?_
              refine zn_imul 31 (9) (0) rfl rfl rfl rfl ?_
              refine zn_iadd 32 (324) (0) rfl rfl rfl rfl ?_
              refine zj_bipush 33 (9) rfl rfl (by decide) ?_
              refine zj_cvv 34 rfl rfl lk_8_291 ckM_tellRow (k_tellRow_x (324) (9) _ _ rfl rfl (by first | omega | (have := hl2 0 (by decide); have := hl2 1 (by decide); have := hl2 2 (by decide); have := hl2 3 (by decide); omega)) _) rfl mw_0 rfl rfl rfl ?_
              refine zn_iinc 35 (0) rfl rfl rfl rfl ?_
              refine zj_goto 36 rfl rfl ?_
              refine zj_iload_n 18 rfl rfl rfl ?_
              refine zj_iconst 19 (4) rfl rfl (by decide) ?_
              refine zn_icmp_ge 20 (1) (4) rfl rfl rfl rfl (by omega) (by omega) (fun c34 => ?_) (fun c34 => ?_)
              · exact absurd c34 (by decide)
              · refine zj_aload_n 21 rfl rfl rfl ?_
                refine zj_bipush 22 (81) rfl rfl (by decide) ?_
                refine zj_iload_n 23 rfl rfl rfl ?_
                refine zn_imul 24 (81) (1) rfl rfl rfl rfl ?_
                refine zj_bipush 25 (81) rfl rfl (by decide) ?_
                refine zj_cvv 26 rfl rfl lk_8_291 ckM_tellRow (k_tellRow_x (81) (81) _ _ rfl rfl (by first | omega | (have := hl2 0 (by decide); have := hl2 1 (by decide); have := hl2 2 (by decide); have := hl2 3 (by decide); omega)) _) rfl mw_0 rfl rfl rfl ?_
                refine zj_aload_n 27 rfl rfl rfl ?_
                refine zj_sipush 28 (324) rfl rfl (by decide) ?_
                refine zj_bipush 29 (9) rfl rfl (by decide) ?_
                refine zj_iload_n 30 rfl rfl rfl ?_
                refine zn_imul 31 (9) (1) rfl rfl rfl rfl ?_
                refine zn_iadd 32 (324) (9) rfl rfl rfl rfl ?_
                refine zj_bipush 33 (9) rfl rfl (by decide) ?_
                refine zj_cvv 34 rfl rfl lk_8_291 ckM_tellRow (k_tellRow_x (333) (9) _ _ rfl rfl (by first | omega | (have := hl2 0 (by decide); have := hl2 1 (by decide); have := hl2 2 (by decide); have := hl2 3 (by decide); omega)) _) rfl mw_0 rfl rfl rfl ?_
                refine zn_iinc 35 (1) rfl rfl rfl rfl ?_
                refine zj_norm [_, _] rfl ?_
                refine zj_goto 36 rfl rfl ?_
                refine zj_iload_n 18 rfl rfl rfl ?_
                refine zj_iconst 19 (4) rfl rfl (by decide) ?_
                refine zn_icmp_ge 20 (2) (4) rfl rfl rfl rfl (by omega) (by omega) (fun c34 => ?_) (fun c34 => ?_)
                · exact absurd c34 (by decide)
                · refine zj_aload_n 21 rfl rfl rfl ?_
                  refine zj_bipush 22 (81) rfl rfl (by decide) ?_
                  refine zj_iload_n 23 rfl rfl rfl ?_
                  refine zn_imul 24 (81) (2) rfl rfl rfl rfl ?_
                  refine zj_bipush 25 (81) rfl rfl (by decide) ?_
                  refine zj_cvv 26 rfl rfl lk_8_291 ckM_tellRow (k_tellRow_x (162) (81) _ _ rfl rfl (by first | omega | (have := hl2 0 (by decide); have := hl2 1 (by decide); have := hl2 2 (by decide); have := hl2 3 (by decide); omega)) _) rfl mw_0 rfl rfl rfl ?_
                  refine zj_aload_n 27 rfl rfl rfl ?_
                  refine zj_sipush 28 (324) rfl rfl (by decide) ?_
                  refine zj_bipush 29 (9) rfl rfl (by decide) ?_
                  refine zj_iload_n 30 rfl rfl rfl ?_
                  refine zn_imul 31 (9) (2) rfl rfl rfl rfl ?_
                  refine zn_iadd 32 (324) (18) rfl rfl rfl rfl ?_
                  refine zj_bipush 33 (9) rfl rfl (by decide) ?_
                  refine zj_cvv 34 rfl rfl lk_8_291 ckM_tellRow (k_tellRow_x (342) (9) _ _ rfl rfl (by first | omega | (have := hl2 0 (by decide); have := hl2 1 (by decide); have := hl2 2 (by decide); have := hl2 3 (by decide); omega)) _) rfl mw_0 rfl rfl rfl ?_
                  refine zn_iinc 35 (2) rfl rfl rfl rfl ?_
                  refine zj_goto 36 rfl rfl ?_
                  refine zj_iload_n 18 rfl rfl rfl ?_
                  refine zj_iconst 19 (4) rfl rfl (by decide) ?_
                  refine zn_icmp_ge 20 (3) (4) rfl rfl rfl rfl (by omega) (by omega) (fun c34 => ?_) (fun c34 => ?_)
                  · exact absurd c34 (by decide)
                  · refine zj_aload_n 21 rfl rfl rfl ?_
                    refine zj_bipush 22 (81) rfl rfl (by decide) ?_
                    refine zj_iload_n 23 rfl rfl rfl ?_
                    refine zn_imul 24 (81) (3) rfl rfl rfl rfl ?_
                    refine zj_bipush 25 (81) rfl rfl (by decide) ?_
                    refine zj_cvv 26 rfl rfl lk_8_291 ckM_tellRow (k_tellRow_x (243) (81) _ _ rfl rfl (by first | omega | (have := hl2 0 (by decide); have := hl2 1 (by decide); have := hl2 2 (by decide); have := hl2 3 (by decide); omega)) _) rfl mw_0 rfl rfl rfl ?_
                    refine zj_aload_n 27 rfl rfl rfl ?_
                    refine zj_sipush 28 (324) rfl rfl (by decide) ?_
                    refine zj_bipush 29 (9) rfl rfl (by decide) ?_
                    refine zj_iload_n 30 rfl rfl rfl ?_
                    refine zn_imul 31 (9) (3) rfl rfl rfl rfl ?_
                    refine zn_iadd 32 (324) (27) rfl rfl rfl rfl ?_
                    refine zj_bipush 33 (9) rfl rfl (by decide) ?_
                    refine zj_cvv 34 rfl rfl lk_8_291 ckM_tellRow (k_tellRow_x (351) (9) _ _ rfl rfl (by first | omega | (have := hl2 0 (by decide); have := hl2 1 (by decide); have := hl2 2 (by decide); have := hl2 3 (by decide); omega)) _) rfl mw_0 rfl rfl rfl ?_
                    refine zn_iinc 35 (3) rfl rfl rfl rfl ?_
                    refine zj_norm [_, _] rfl ?_
                    refine zj_goto 36 rfl rfl ?_
                    refine zj_iload_n 18 rfl rfl rfl ?_
                    refine zj_iconst 19 (4) rfl rfl (by decide) ?_
                    refine zn_icmp_ge 20 (4) (4) rfl rfl rfl rfl (by omega) (by omega) (fun c34 => ?_) (fun c34 => ?_)
                    · refine zj_aload_n 37 rfl rfl rfl ?_
                      refine zj_sipush 38 (360) rfl rfl (by decide) ?_
                      refine zj_bipush 39 (8) rfl rfl (by decide) ?_
                      refine zj_cvv 40 rfl rfl lk_8_291 ckM_tellRow (k_tellRow_x (360) (8) _ _ rfl rfl (by first | omega | (have := hl2 0 (by decide); have := hl2 1 (by decide); have := hl2 2 (by decide); have := hl2 3 (by decide); omega)) _) rfl mw_0 rfl rfl rfl ?_
                      refine zj_iconst 41 (0) rfl rfl (by decide) ?_
                      refine zj_istore_n 42 rfl rfl ?_
                      refine zj_iload_n 43 rfl rfl rfl ?_
                      refine zj_iconst 44 (4) rfl rfl (by decide) ?_
                      refine zn_icmp_ge 45 (0) (4) rfl rfl rfl rfl (by omega) (by omega) (fun c80 => ?_) (fun c80 => ?_)
                      · exact absurd c80 (by decide)
                      · refine zj_aload_n 46 rfl rfl rfl ?_
                        refine zj_aload_n 47 rfl rfl rfl ?_
                        refine zj_get 48 rfl rfl mw_0 rfl ?_
                        refine zj_sipush 49 (368) rfl rfl (by decide) ?_
                        refine zj_iload_n 50 rfl rfl rfl ?_
                        refine zn_iadd 51 (368) (0) rfl rfl rfl rfl ?_
                        refine zn_iald 52 (368) rfl rfl (show mw σ a (M.sL 2 _) (a + 1) = some (.inl (0, 818, .inl (M.1 0))) from mw_1) rfl (by omega) (by decide) ?_
                        refine zj_i2l 53 rfl rfl ?_
                        refine zj_cvv 54 rfl rfl lk_8_285 ckM_tell (k_tell' _ _) rfl mw_0 rfl rfl rfl ?_
                        refine zj_aload_n 55 rfl rfl rfl ?_
                        refine zj_sipush 56 (372) rfl rfl (by decide) ?_
                        refine zj_bipush 57 (40) rfl rfl (by decide) ?_
                        refine zj_iload_n 58 rfl rfl rfl ?_
                        refine zn_imul 59 (40) (0) rfl rfl rfl rfl ?_
                        refine zn_iadd 60 (372) (0) rfl rfl rfl rfl ?_
                        refine zj_aload_n 61 rfl rfl rfl ?_
                        refine zj_get 62 rfl rfl mw_0 rfl ?_
                        refine zj_sipush 63 (368) rfl rfl (by decide) ?_
                        refine zj_iload_n 64 rfl rfl rfl ?_
                        refine zn_iadd 65 (368) (0) rfl rfl rfl rfl ?_
                        refine zn_iald 66 (368) rfl rfl (show mw σ a (M.sL 2 _) (a + 1) = some (.inl (0, 818, .inl (M.1 0))) from mw_1) rfl (by omega) (by decide) ?_
                        refine zj_cvv 67 rfl rfl lk_8_291 ckM_tellRow (k_tellRow_x (372) (len 0) _ _ rfl (hl 0 (by decide)) (by first | omega | (have := hl2 0 (by decide); have := hl2 1 (by decide); have := hl2 2 (by decide); have := hl2 3 (by decide); omega)) _) rfl mw_0 rfl rfl rfl ?_
                        refine zn_iinc 68 (0) rfl rfl rfl rfl ?_
                        refine zj_norm [_, _] rfl ?_
                        refine zj_goto 69 rfl rfl ?_
                        refine zj_iload_n 43 rfl rfl rfl ?_
                        refine zj_iconst 44 (4) rfl rfl (by decide) ?_
                        refine zn_icmp_ge 45 (1) (4) rfl rfl rfl rfl (by omega) (by omega) (fun c80 => ?_) (fun c80 => ?_)
                        · exact absurd c80 (by decide)
                        · refine zj_aload_n 46 rfl rfl rfl ?_
                          refine zj_aload_n 47 rfl rfl rfl ?_
                          refine zj_get 48 rfl rfl mw_0 rfl ?_
                          refine zj_sipush 49 (368) rfl rfl (by decide) ?_
                          refine zj_iload_n 50 rfl rfl rfl ?_
                          refine zn_iadd 51 (368) (1) rfl rfl rfl rfl ?_
                          refine zn_iald 52 (369) rfl rfl (show mw σ a (M.sL 2 _) (a + 1) = some (.inl (0, 818, .inl (M.1 0))) from mw_1) rfl (by omega) (by decide) ?_
                          refine zj_i2l 53 rfl rfl ?_
                          refine zj_cvv 54 rfl rfl lk_8_285 ckM_tell (k_tell' _ _) rfl mw_0 rfl rfl rfl ?_
                          refine zj_aload_n 55 rfl rfl rfl ?_
                          refine zj_sipush 56 (372) rfl rfl (by decide) ?_
                          refine zj_bipush 57 (40) rfl rfl (by decide) ?_
                          refine zj_iload_n 58 rfl rfl rfl ?_
                          refine zn_imul 59 (40) (1) rfl rfl rfl rfl ?_
                          refine zn_iadd 60 (372) (40) rfl rfl rfl rfl ?_
                          refine zj_aload_n 61 rfl rfl rfl ?_
                          refine zj_get 62 rfl rfl mw_0 rfl ?_
                          refine zj_sipush 63 (368) rfl rfl (by decide) ?_
                          refine zj_iload_n 64 rfl rfl rfl ?_
                          refine zn_iadd 65 (368) (1) rfl rfl rfl rfl ?_
                          refine zn_iald 66 (369) rfl rfl (show mw σ a (M.sL 2 _) (a + 1) = some (.inl (0, 818, .inl (M.1 0))) from mw_1) rfl (by omega) (by decide) ?_
                          refine zj_cvv 67 rfl rfl lk_8_291 ckM_tellRow (k_tellRow_x (412) (len 1) _ _ rfl (hl 1 (by decide)) (by first | omega | (have := hl2 0 (by decide); have := hl2 1 (by decide); have := hl2 2 (by decide); have := hl2 3 (by decide); omega)) _) rfl mw_0 rfl rfl rfl ?_
                          refine zn_iinc 68 (1) rfl rfl rfl rfl ?_
                          refine zj_goto 69 rfl rfl ?_
                          refine zj_iload_n 43 rfl rfl rfl ?_
                          refine zj_iconst 44 (4) rfl rfl (by decide) ?_
                          refine zn_icmp_ge 45 (2) (4) rfl rfl rfl rfl (by omega) (by omega) (fun c80 => ?_) (fun c80 => ?_)
                          · exact absurd c80 (by decide)
                          · refine zj_aload_n 46 rfl rfl rfl ?_
                            refine zj_aload_n 47 rfl rfl rfl ?_
                            refine zj_get 48 rfl rfl mw_0 rfl ?_
                            refine zj_sipush 49 (368) rfl rfl (by decide) ?_
                            refine zj_iload_n 50 rfl rfl rfl ?_
                            refine zn_iadd 51 (368) (2) rfl rfl rfl rfl ?_
                            refine zn_iald 52 (370) rfl rfl (show mw σ a (M.sL 2 _) (a + 1) = some (.inl (0, 818, .inl (M.1 0))) from mw_1) rfl (by omega) (by decide) ?_
                            refine zj_i2l 53 rfl rfl ?_
                            refine zj_cvv 54 rfl rfl lk_8_285 ckM_tell (k_tell' _ _) rfl mw_0 rfl rfl rfl ?_
                            refine zj_aload_n 55 rfl rfl rfl ?_
                            refine zj_sipush 56 (372) rfl rfl (by decide) ?_
                            refine zj_bipush 57 (40) rfl rfl (by decide) ?_
                            refine zj_iload_n 58 rfl rfl rfl ?_
                            refine zn_imul 59 (40) (2) rfl rfl rfl rfl ?_
                            refine zn_iadd 60 (372) (80) rfl rfl rfl rfl ?_
                            refine zj_aload_n 61 rfl rfl rfl ?_
                            refine zj_get 62 rfl rfl mw_0 rfl ?_
                            refine zj_sipush 63 (368) rfl rfl (by decide) ?_
                            refine zj_iload_n 64 rfl rfl rfl ?_
                            refine zn_iadd 65 (368) (2) rfl rfl rfl rfl ?_
                            refine zn_iald 66 (370) rfl rfl (show mw σ a (M.sL 2 _) (a + 1) = some (.inl (0, 818, .inl (M.1 0))) from mw_1) rfl (by omega) (by decide) ?_
                            refine zj_cvv 67 rfl rfl lk_8_291 ckM_tellRow (k_tellRow_x (452) (len 2) _ _ rfl (hl 2 (by decide)) (by first | omega | (have := hl2 0 (by decide); have := hl2 1 (by decide); have := hl2 2 (by decide); have := hl2 3 (by decide); omega)) _) rfl mw_0 rfl rfl rfl ?_
                            refine zn_iinc 68 (2) rfl rfl rfl rfl ?_
                            refine zj_norm [_, _] rfl ?_
                            refine zj_goto 69 rfl rfl ?_
                            refine zj_iload_n 43 rfl rfl rfl ?_
                            refine zj_iconst 44 (4) rfl rfl (by decide) ?_
                            refine zn_icmp_ge 45 (3) (4) rfl rfl rfl rfl (by omega) (by omega) (fun c80 => ?_) (fun c80 => ?_)
                            · exact absurd c80 (by decide)
                            · refine zj_aload_n 46 rfl rfl rfl ?_
                              refine zj_aload_n 47 rfl rfl rfl ?_
                              refine zj_get 48 rfl rfl mw_0 rfl ?_
                              refine zj_sipush 49 (368) rfl rfl (by decide) ?_
                              refine zj_iload_n 50 rfl rfl rfl ?_
                              refine zn_iadd 51 (368) (3) rfl rfl rfl rfl ?_
                              refine zn_iald 52 (371) rfl rfl (show mw σ a (M.sL 2 _) (a + 1) = some (.inl (0, 818, .inl (M.1 0))) from mw_1) rfl (by omega) (by decide) ?_
                              refine zj_i2l 53 rfl rfl ?_
                              refine zj_cvv 54 rfl rfl lk_8_285 ckM_tell (k_tell' _ _) rfl mw_0 rfl rfl rfl ?_
                              refine zj_aload_n 55 rfl rfl rfl ?_
                              refine zj_sipush 56 (372) rfl rfl (by decide) ?_
                              refine zj_bipush 57 (40) rfl rfl (by decide) ?_
                              refine zj_iload_n 58 rfl rfl rfl ?_
                              refine zn_imul 59 (40) (3) rfl rfl rfl rfl ?_
                              refine zn_iadd 60 (372) (120) rfl rfl rfl rfl ?_
                              refine zj_aload_n 61 rfl rfl rfl ?_
                              refine zj_get 62 rfl rfl mw_0 rfl ?_
                              refine zj_sipush 63 (368) rfl rfl (by decide) ?_
                              refine zj_iload_n 64 rfl rfl rfl ?_
                              refine zn_iadd 65 (368) (3) rfl rfl rfl rfl ?_
                              refine zn_iald 66 (371) rfl rfl (show mw σ a (M.sL 2 _) (a + 1) = some (.inl (0, 818, .inl (M.1 0))) from mw_1) rfl (by omega) (by decide) ?_
                              refine zj_cvv 67 rfl rfl lk_8_291 ckM_tellRow (k_tellRow_x (492) (len 3) _ _ rfl (hl 3 (by decide)) (by first | omega | (have := hl2 0 (by decide); have := hl2 1 (by decide); have := hl2 2 (by decide); have := hl2 3 (by decide); omega)) _) rfl mw_0 rfl rfl rfl ?_
                              refine zn_iinc 68 (3) rfl rfl rfl rfl ?_
                              refine zj_goto 69 rfl rfl ?_
                              refine zj_iload_n 43 rfl rfl rfl ?_
                              refine zj_iconst 44 (4) rfl rfl (by decide) ?_
                              refine zn_icmp_ge 45 (4) (4) rfl rfl rfl rfl (by omega) (by omega) (fun c80 => ?_) (fun c80 => ?_)
                              · refine zj_aload_n 70 rfl rfl rfl ?_
                                refine zj_sipush 71 (533) rfl rfl (by decide) ?_
                                refine zj_iconst 72 (2) rfl rfl (by decide) ?_
                                refine zj_aload_n 73 rfl rfl rfl ?_
                                refine zj_get 74 rfl rfl mw_0 rfl ?_
                                refine zj_sipush 75 (532) rfl rfl (by decide) ?_
                                refine zn_iald 76 (532) rfl rfl (show mw σ a (M.sL 2 _) (a + 1) = some (.inl (0, 818, .inl (M.1 0))) from mw_1) rfl (by omega) (by decide) ?_
                                refine zn_imul 77 (2) (no) rfl rfl rfl h ?_
                                refine zj_cvv 78 rfl rfl lk_8_291 ckM_tellRow (k_tellRow_x (533) (2 * no) _ _ rfl rfl (by first | omega | (have := hl2 0 (by decide); have := hl2 1 (by decide); have := hl2 2 (by decide); have := hl2 3 (by decide); omega)) _) rfl mw_0 rfl rfl rfl ?_
                                refine zj_aload_n 79 rfl rfl rfl ?_
                                refine zj_sipush 80 (550) rfl rfl (by decide) ?_
                                refine zj_iconst 81 (3) rfl rfl (by decide) ?_
                                refine zj_aload_n 82 rfl rfl rfl ?_
                                refine zj_get 83 rfl rfl mw_0 rfl ?_
                                refine zj_sipush 84 (549) rfl rfl (by decide) ?_
                                refine zn_iald 85 (549) rfl rfl (show mw σ a (M.sL 2 _) (a + 1) = some (.inl (0, 818, .inl (M.1 0))) from mw_1) rfl (by omega) (by decide) ?_
                                refine zn_imul 86 (3) (ns) rfl rfl rfl h2 ?_
                                refine zj_cvv 87 rfl rfl lk_8_291 ckM_tellRow (k_tellRow_x (550) (3 * ns) _ _ rfl rfl (by first | omega | (have := hl2 0 (by decide); have := hl2 1 (by decide); have := hl2 2 (by decide); have := hl2 3 (by decide); omega)) _) rfl mw_0 rfl rfl rfl ?_
                                refine zj_aload_n 88 rfl rfl rfl ?_
                                refine zj_sipush 89 (599) rfl rfl (by decide) ?_
                                refine zj_iconst 90 (3) rfl rfl (by decide) ?_
                                refine zj_aload_n 91 rfl rfl rfl ?_
                                refine zj_get 92 rfl rfl mw_0 rfl ?_
                                refine zj_sipush 93 (598) rfl rfl (by decide) ?_
                                refine zn_iald 94 (598) rfl rfl (show mw σ a (M.sL 2 _) (a + 1) = some (.inl (0, 818, .inl (M.1 0))) from mw_1) rfl (by omega) (by decide) ?_
                                refine zn_imul 95 (3) (nh) rfl rfl rfl h3 ?_
                                refine zj_cvv 96 rfl rfl lk_8_291 ckM_tellRow (k_tellRow_x (599) (3 * nh) _ _ rfl rfl (by first | omega | (have := hl2 0 (by decide); have := hl2 1 (by decide); have := hl2 2 (by decide); have := hl2 3 (by decide); omega)) _) rfl mw_0 rfl rfl rfl ?_
                                refine zj_aload_n 97 rfl rfl rfl ?_
                                refine zj_aload_n 98 rfl rfl rfl ?_
                                refine zj_get 99 rfl rfl mw_0 rfl ?_
                                refine zj_sipush 100 (779) rfl rfl (by decide) ?_
                                refine zn_iald 101 (779) rfl rfl (show mw σ a (M.sL 2 _) (a + 1) = some (.inl (0, 818, .inl (M.1 0))) from mw_1) rfl (by omega) (by decide) ?_
                                refine zj_i2l 102 rfl rfl ?_
                                refine zj_cvv 103 rfl rfl lk_8_285 ckM_tell (k_tell' _ _) rfl mw_0 rfl rfl rfl ?_
                                refine zj_aload_n 104 rfl rfl rfl ?_
                                refine zj_sipush 105 (781) rfl rfl (by decide) ?_
                                refine zj_iconst 106 (3) rfl rfl (by decide) ?_
                                refine zj_aload_n 107 rfl rfl rfl ?_
                                refine zj_get 108 rfl rfl mw_0 rfl ?_
                                refine zj_sipush 109 (780) rfl rfl (by decide) ?_
                                refine zn_iald 110 (780) rfl rfl (show mw σ a (M.sL 2 _) (a + 1) = some (.inl (0, 818, .inl (M.1 0))) from mw_1) rfl (by omega) (by decide) ?_
                                refine zn_imul 111 (3) (ng) rfl rfl rfl h4 ?_
                                refine zj_cvv 112 rfl rfl lk_8_291 ckM_tellRow (k_tellRow_x (781) (3 * ng) _ _ rfl rfl (by first | omega | (have := hl2 0 (by decide); have := hl2 1 (by decide); have := hl2 2 (by decide); have := hl2 3 (by decide); omega)) _) rfl mw_0 rfl rfl rfl ?_
                                refine zj_aload_n 113 rfl rfl rfl ?_
                                refine zj_aload_n 114 rfl rfl rfl ?_
                                refine zj_get 115 rfl rfl mw_0 rfl ?_
                                refine zj_sipush 116 (817) rfl rfl (by decide) ?_
                                refine zn_iald 117 (817) rfl rfl (show mw σ a (M.sL 2 _) (a + 1) = some (.inl (0, 818, .inl (M.1 0))) from mw_1) rfl (by omega) (by decide) ?_
                                refine zj_i2l 118 rfl rfl ?_
                                refine zj_cvv 119 rfl rfl lk_8_285 ckM_tell (k_tell' _ _) rfl mw_0 rfl rfl rfl ?_
                                refine zj_aload_n 120 rfl rfl rfl ?_
                                refine zj_aload_n 121 rfl rfl rfl ?_
                                refine zj_get 122 rfl rfl mw_0 rfl ?_
                                refine zj_cvv 123 rfl rfl lk_8_285 ckM_tell (k_tell' _ _) rfl mw_0 rfl rfl rfl ?_
                                refine zj_aload_n 124 rfl rfl rfl ?_
                                refine zj_aload_n 125 rfl rfl rfl ?_
                                refine zj_get 126 rfl rfl mw_0 rfl ?_
                                refine zj_cvv 127 rfl rfl lk_8_285 ckM_tell (k_tell' _ _) rfl mw_0 rfl rfl rfl ?_
                                refine zj_aload_n 128 rfl rfl rfl ?_
                                refine zj_get 129 rfl rfl mw_0 rfl ?_
                                refine zj_lreturn 130 rfl rfl rfl ?_
                                exact ⟨rfl, rfl, rfl⟩
                              · exact absurd c80 (by decide)
                    · exact absurd c34 (by decide)
          · exact absurd c11 (by decide)
def mOver (x y : Int32) : Nat := pShare (pB x 28) (pB y 28) (pB (x &&& y) 28) (pB x 28 + 1 - pB (x &&& y) 28)
def mUnder (x : Int32) : Nat := pCh 28 (pB x 28)
def mUp (x y : Int32) : Int64 := lN (mOver x y / Nat.gcd (mOver x y) (mUnder x))
def mLow (x y : Int32) : Int64 := lN (mUnder x / Nat.gcd (mOver x y) (mUnder x))
theorem mOver_lt (x y : Int32) : mOver x y < 2 ^ 60 := by
  have h1 := pB_le x 28
  have h2 := pB_le y 28
  have h3 := pShare_lt (pB x 28) (pB y 28) (pB (x &&& y) 28) (by omega) (pB x 28 + 1 - pB (x &&& y) 28)
  have h4 : (pB x 28 + 1 - pB (x &&& y) 28) * 2 ^ 54 ≤ 29 * 2 ^ 54 := Nat.mul_le_mul_right _ (by omega)
  unfold mOver
  omega
theorem l_chance (x y : Nat) : ∀ (m : Nat) (k : Nat), (k + m = pB (rSl (M.1 0) x) 28 + 1 - pB ((rSl (M.1 0) x) &&& (rSl (M.1 0) y)) 28) → ∀ n, zB E YM_chance 4 n (some (.int 1)) (mw σ a ((M.sL 0 (mUp (rSl (M.1 0) x) (rSl (M.1 0) y))).sL 1 (mLow (rSl (M.1 0) x) (rSl (M.1 0) y)))) (mw σ a M) 50 [some (.ref a), some (.int (nI x)), some (.int (nI y)), some (.int (nI (pB (rSl (M.1 0) x) 28))), some (.int (nI (pB (rSl (M.1 0) y) 28))), some (.long (lN (pShare (pB (rSl (M.1 0) x) 28) (pB (rSl (M.1 0) y) 28) (pB ((rSl (M.1 0) x) &&& (rSl (M.1 0) y)) 28) k))), none, some (.int (nI (pB ((rSl (M.1 0) x) &&& (rSl (M.1 0) y)) 28 + k))), none, none, none] [] := by
  intro m
  induction m using Nat.strongRecOn with
  | ind m ih =>
  intro k hk n
  have b1 := pB_le (rSl (M.1 0) x) 28
  have b2 := pB_le (rSl (M.1 0) y) 28
  have b3 := pB_le ((rSl (M.1 0) x) &&& (rSl (M.1 0) y)) 28
  refine zj_iload 28 rfl rfl rfl ?_
  refine zj_iload_n 29 rfl rfl rfl ?_
  refine zn_icmp_gt 30 (pB ((rSl (M.1 0) x) &&& (rSl (M.1 0) y)) 28 + k) (pB (rSl (M.1 0) x) 28) rfl rfl rfl rfl (by omega) (by omega) (fun c53 => ?_) (fun c53 => ?_)
  · refine zj_bipush 47 (28) rfl rfl (by decide) ?_
    refine zj_iload_n 48 rfl rfl rfl ?_
    refine zj_csx 49 rfl rfl lk_8_228 ckM_choose (k_choose (28) (pB (rSl (M.1 0) x) 28) (by omega) (by omega)) rfl rfl rfl rfl ?_
    have hk0 : k = pB (rSl (M.1 0) x) 28 + 1 - pB ((rSl (M.1 0) x) &&& (rSl (M.1 0) y)) 28 := by omega
    rw [hk0]
    have o1 := mOver_lt (rSl (M.1 0) x) (rSl (M.1 0) y)
    have o2 := pCh_ok 28 (by decide) (pB (rSl (M.1 0) x) 28) (by omega)
    have o3 : pChoose 28 (pB (rSl (M.1 0) x) 28) = mUnder (rSl (M.1 0) x) := if_pos (by omega)
    rw [o3]
    have o4 : mUnder (rSl (M.1 0) x) < 2 ^ 27 := o2.2
    have o5 : 0 < mUnder (rSl (M.1 0) x) := o2.1 (by omega)
    have o6 : 0 < Nat.gcd (mOver (rSl (M.1 0) x) (rSl (M.1 0) y)) (mUnder (rSl (M.1 0) x)) := Nat.gcd_pos_of_pos_right _ o5
    have o7 : Nat.gcd (mOver (rSl (M.1 0) x) (rSl (M.1 0) y)) (mUnder (rSl (M.1 0) x)) ≤ mUnder (rSl (M.1 0) x) := Nat.le_of_dvd o5 (Nat.gcd_dvd_right _ _)
    have o8 : pShare (pB (rSl (M.1 0) x) 28) (pB (rSl (M.1 0) y) 28) (pB ((rSl (M.1 0) x) &&& (rSl (M.1 0) y)) 28) (pB (rSl (M.1 0) x) 28 + 1 - pB ((rSl (M.1 0) x) &&& (rSl (M.1 0) y)) 28) = mOver (rSl (M.1 0) x) (rSl (M.1 0) y) := rfl
    rw [o8]
    refine zj_lstore 50 rfl rfl ?_
    refine zj_lload 51 rfl rfl rfl ?_
    refine zj_lload 52 rfl rfl rfl ?_
    refine zj_csx 53 rfl rfl lk_8_232 ckM_common (k_common _ _ (by omega) (by omega)) rfl rfl rfl rfl ?_
    refine zj_lstore 54 rfl rfl ?_
    refine zj_aload_n 55 rfl rfl rfl ?_
    refine zj_lload 56 rfl rfl rfl ?_
    refine zj_lload 57 rfl rfl rfl ?_
    refine zj_ldiv 58 rfl rfl (by exact fun e => absurd ((pk_lEQ (by omega) (by decide)).mp (show lN _ = lN 0 from e)) (by omega)) ?_
    refine zn_put 59 rfl rfl mw_0 rfl rfl rfl rfl mw_p_up ?_
    refine zj_aload_n 60 rfl rfl rfl ?_
    refine zj_lload 61 rfl rfl rfl ?_
    refine zj_lload 62 rfl rfl rfl ?_
    refine zj_ldiv 63 rfl rfl (by exact fun e => absurd ((pk_lEQ (by omega) (by decide)).mp (show lN _ = lN 0 from e)) (by omega)) ?_
    refine zn_put 64 rfl rfl mw_0 rfl rfl rfl rfl mw_p_low ?_
    refine zj_iconst 65 (1) rfl rfl (by decide) ?_
    refine zj_ireturn 66 rfl rfl rfl ?_
    exact ⟨rfl, rfl, by unfold mUp mLow; rw [pk_lDiv (by omega) o6 (by omega), pk_lDiv (by omega) o6 (by omega)]⟩
  · refine zj_lload 31 rfl rfl rfl ?_
    refine zj_iload 32 rfl rfl rfl ?_
    refine zj_iload 33 rfl rfl rfl ?_
    refine zj_csx 34 rfl rfl lk_8_228 ckM_choose (k_choose (pB (rSl (M.1 0) y) 28) (pB ((rSl (M.1 0) x) &&& (rSl (M.1 0) y)) 28 + k) (by omega) (by omega)) rfl rfl rfl rfl ?_
    refine zj_bipush 35 (28) rfl rfl (by decide) ?_
    refine zj_iload 36 rfl rfl rfl ?_
    refine zn_isub 37 (28) (pB (rSl (M.1 0) y) 28) rfl rfl rfl rfl (by omega) ?_
    refine zj_iload_n 38 rfl rfl rfl ?_
    refine zj_iload 39 rfl rfl rfl ?_
    refine zn_isub 40 (pB (rSl (M.1 0) x) 28) (pB ((rSl (M.1 0) x) &&& (rSl (M.1 0) y)) 28 + k) rfl rfl rfl rfl (by omega) ?_
    refine zj_csx 41 rfl rfl lk_8_228 ckM_choose (k_choose ((28) - (pB (rSl (M.1 0) y) 28)) ((pB (rSl (M.1 0) x) 28) - (pB ((rSl (M.1 0) x) &&& (rSl (M.1 0) y)) 28 + k)) (by omega) (by omega)) rfl rfl rfl rfl ?_
    refine zj_lmul 42 rfl rfl ?_
    refine zj_ladd 43 rfl rfl ?_
    refine zj_lstore 44 rfl rfl ?_
    refine zn_iinc 45 (pB ((rSl (M.1 0) x) &&& (rSl (M.1 0) y)) 28 + k) rfl rfl rfl rfl ?_
    refine zj_goto 46 rfl rfl ?_
    rw [lN_mul, lN_add]
    exact ih (m - 1) (by omega) (k + 1) (by omega) n
theorem k_Mchance (x y ns : Nat) (h2 : M.1 0 549 = nI ns) (hb2 : ns ≤ 16) (hx : x < ns) (hy : y < ns) (hne : x ≠ y) : zM E YM_chance 4 [.ref a, .int (nI x), .int (nI y)] (mw σ a M) (some (.int 1)) (mw σ a ((M.sL 0 (mUp (rSl (M.1 0) x) (rSl (M.1 0) y))).sL 1 (mLow (rSl (M.1 0) x) (rSl (M.1 0) y)))) := by
  refine zM.of oM_chance (by decide +kernel) rfl rfl (fun n => ?_)
  refine zj_aload_n 0 rfl rfl rfl ?_
  refine zj_iload_n 1 rfl rfl rfl ?_
  refine zj_iload_n 2 rfl rfl rfl ?_
  refine zj_cvx 3 rfl rfl lk_8_225 ckM_isPair (k_isPair _ _ ns h2 hb2) rfl mw_0 rfl rfl rfl ?_
  refine zj_if_ne 4 rfl rfl (fun c6 => ?_) (fun c6 => ?_)
  · refine zj_aload_n 7 rfl rfl rfl ?_
    refine zj_iload_n 8 rfl rfl rfl ?_
    refine zj_cvx 9 rfl rfl lk_8_207 ckM_linesOf (k_linesOf _ (by omega)) rfl mw_0 rfl rfl rfl ?_
    refine zj_csx 10 rfl rfl lk_8_184 ckM_bitsOf (k_bitsOf _) rfl rfl rfl rfl ?_
    rw [zb28_nat]
    refine zj_istore_n 11 rfl rfl ?_
    refine zj_aload_n 12 rfl rfl rfl ?_
    refine zj_iload_n 13 rfl rfl rfl ?_
    refine zj_cvx 14 rfl rfl lk_8_207 ckM_linesOf (k_linesOf _ (by omega)) rfl mw_0 rfl rfl rfl ?_
    refine zj_csx 15 rfl rfl lk_8_184 ckM_bitsOf (k_bitsOf _) rfl rfl rfl rfl ?_
    rw [zb28_nat]
    refine zj_istore 16 rfl rfl ?_
    refine zj_lconst 17 (0) rfl rfl (by decide) ?_
    refine zj_lstore 18 rfl rfl ?_
    refine zj_aload_n 19 rfl rfl rfl ?_
    refine zj_iload_n 20 rfl rfl rfl ?_
    refine zj_cvx 21 rfl rfl lk_8_207 ckM_linesOf (k_linesOf _ (by omega)) rfl mw_0 rfl rfl rfl ?_
    refine zj_aload_n 22 rfl rfl rfl ?_
    refine zj_iload_n 23 rfl rfl rfl ?_
    refine zj_cvx 24 rfl rfl lk_8_207 ckM_linesOf (k_linesOf _ (by omega)) rfl mw_0 rfl rfl rfl ?_
    refine zj_iand 25 rfl rfl ?_
    refine zj_csx 26 rfl rfl lk_8_184 ckM_bitsOf (k_bitsOf _) rfl rfl rfl rfl ?_
    rw [zb28_nat]
    refine zj_istore 27 rfl rfl ?_
    exact l_chance x y _ 0 (Nat.zero_add _) n
  · exact absurd ⟨zr_of (n := ns) (by omega) (by omega), zr_of (n := ns) (by omega) (by omega), fun e => hne ((nI_eq (by omega) (by omega)).mp e)⟩ (zo_0.mp c6)
theorem k_Mchance_bad (x y : Int32) (ns : Nat) (h2 : M.1 0 549 = nI ns) (hb2 : ns ≤ 16) (hv : ¬ (zr x ns ∧ zr y ns ∧ x ≠ y)) : zM E YM_chance 4 [.ref a, .int x, .int y] (mw σ a M) (some (.int (-2))) (mw σ a M) := by
  refine zM.of oM_chance (by decide +kernel) rfl rfl (fun n => ?_)
  refine zj_aload_n 0 rfl rfl rfl ?_
  refine zj_iload_n 1 rfl rfl rfl ?_
  refine zj_iload_n 2 rfl rfl rfl ?_
  refine zj_cvx 3 rfl rfl lk_8_225 ckM_isPair (k_isPair _ _ ns h2 hb2) rfl mw_0 rfl rfl rfl ?_
  refine zj_if_ne 4 rfl rfl (fun c6 => ?_) (fun c6 => ?_)
  · exact absurd (zo_n0.mp c6) hv
  · refine zj_bipush 5 (-2) rfl rfl (by decide) ?_
    refine zj_ireturn 6 rfl rfl rfl ?_
    exact ⟨rfl, rfl, rfl⟩
theorem pLc_sI (M : zMo) (nh k : Nat) (x : Int32) : (M.sI 6 (pLc M nh k)).sI 6 x = M.sI 6 x := sI_sI _ _ _ _
theorem l_ways (ns nh : Nat) (h : M.1 0 598 = nI nh) (hb : nh ≤ 60) (h2 : M.1 0 549 = nI ns) (hb2 : ns ≤ 16) : ∀ (m : Nat) (k : Nat), (k + m = ns) → ∀ n, zB E YM_ways 3 n (some (.long (pWays (fun s => (mMH (M.1 0) nh s).1) ns))) (mw σ a (M.sI 6 (pLc M nh ns))) (mw σ a (M.sI 6 (pLc M nh k))) 4 [some (.ref a), some (.long (pWays (fun s => (mMH (M.1 0) nh s).1) k)), none, some (.int (nI k))] [] := by
  intro m
  induction m using Nat.strongRecOn with
  | ind m ih =>
  intro k hk n
  refine zj_iload_n 4 rfl rfl rfl ?_
  refine zj_aload_n 5 rfl rfl rfl ?_
  refine zj_get 6 rfl rfl mw_0 rfl ?_
  refine zj_sipush 7 (549) rfl rfl (by decide) ?_
  refine zn_iald 8 (549) rfl rfl mw_1 rfl (by omega) (by decide) ?_
  refine zn_icmp_ge 9 (k) (ns) rfl rfl rfl h2 (by omega) (by omega) (fun c13 => ?_) (fun c13 => ?_)
  · refine zj_lload_n 20 rfl rfl rfl ?_
    refine zj_lreturn 21 rfl rfl rfl ?_
    obtain rfl : k = ns := by omega
    exact ⟨rfl, rfl, rfl⟩
  · refine zj_lload_n 10 rfl rfl rfl ?_
    refine zj_aload_n 11 rfl rfl rfl ?_
    refine zj_iload_n 12 rfl rfl rfl ?_
    refine zj_cvx 13 rfl rfl lk_8_247 ckM_mayHave (k_mayHave _ (by omega) nh h hb) rfl mw_0 rfl rfl rfl ?_
    refine zj_csx 14 rfl rfl lk_8_184 ckM_bitsOf (k_bitsOf _) rfl rfl rfl rfl ?_
    refine zj_i2l 15 rfl rfl ?_
    refine zj_lmul 16 rfl rfl ?_
    refine zj_lstore_n 17 rfl rfl ?_
    refine zn_iinc 18 (k) rfl rfl rfl rfl ?_
    refine zj_goto 19 rfl rfl ?_
    rw [sI_sI]
    exact ih (m - 1) (by omega) (k + 1) (by omega) n
theorem k_Mways (ns nh : Nat) (h : M.1 0 598 = nI nh) (hb : nh ≤ 60) (h2 : M.1 0 549 = nI ns) (hb2 : ns ≤ 16) : zM E YM_ways 3 [.ref a] (mw σ a M) (some (.long (pWays (fun s => (mMH (M.1 0) nh s).1) ns))) (mw σ a (M.sI 6 (pLc M nh ns))) := by
  refine zM.of oM_ways (by decide +kernel) rfl rfl (fun n => ?_)
  refine zj_lconst 0 (1) rfl rfl (by decide) ?_
  refine zj_lstore_n 1 rfl rfl ?_
  refine zj_iconst 2 (0) rfl rfl (by decide) ?_
  refine zj_istore_n 3 rfl rfl ?_
  have e : mw σ a M = mw σ a (M.sI 6 (pLc M nh 0)) := by show _ = mw σ a (M.sI 6 (M.2.2.1 6)); rw [sI_id]
  rw [e]
  exact l_ways ns nh h hb h2 hb2 ns 0 (by omega) n
end
