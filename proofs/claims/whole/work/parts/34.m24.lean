/-! the reference: which may be, worlds, what is there -/
abbrev mAb (r : Nat → Int32) (ns nh : Nat) (ml mk : Nat → Nat) (g s : Nat) : Bool := decide (mAl r ns nh ml mk g s)
abbrev mMB (r : Nat → Int32) (ns nh ng : Nat) (ml mk : Nat → Nat) (sheets : Int32) : Int32 := pMB ns sheets (mAb r ns nh ml mk) ng
abbrev mWd (r : Nat → Int32) (ns nh ng : Nat) (ml mk : Nat → Nat) (sheets : Int32) : Int32 := pWd (rGw r) (mMB r ns nh ng ml mk sheets) ng
def pTh (worlds : Int32) (d : Nat → Int32) : Nat → Int32 × Int32
  | 0 => (268435455, 0)
  | w + 1 => if zhas worlds (nI w) then ((pTh worlds d w).1 &&& d w, (pTh worlds d w).2 ||| d w) else pTh worlds d w
theorem pTh_s (worlds : Int32) (d : Nat → Int32) (w : Nat) : pTh worlds d (w + 1) = if zhas worlds (nI w) then ((pTh worlds d w).1 &&& d w, (pTh worlds d w).2 ||| d w) else pTh worlds d w := rfl
section
variable {E : zE} {σ : zH} {a : Nat} {M : zMo}
theorem l_mayBe_in (no ns nh ng : Nat) (ml mk : Nat → Nat) (ok : mOk (M.1 0) no ns nh ng ml mk) (sheets : Int32) (g : Nat) (hg : g < ng) (kk : ∀ n Mk b o5, mCr M Mk → b = zo (∀ i, i < ns → zhas sheets (nI i) → (mAb (M.1 0) ns nh ml mk) g i = true) → zXB E YM_mayBeOf 10 n (some (.int (mMB (M.1 0) ns nh ng ml mk sheets))) (mQ σ a M) (mw σ a Mk) 72 [some (.ref a), some (.int sheets), some (.int (pMB ns sheets (mAb (M.1 0) ns nh ml mk) g)), some (.int (nI g)), some (.int b), o5] []) : ∀ (m : Nat) (k : Nat) (b : Int32) (Mk : zMo), (k + m = ns) → (mCr M Mk) → (b = zo (∀ i, i < k → zhas sheets (nI i) → (mAb (M.1 0) ns nh ml mk) g i = true)) → ∀ n, zXB E YM_mayBeOf 10 n (some (.int (mMB (M.1 0) ns nh ng ml mk sheets))) (mQ σ a M) (mw σ a Mk) 22 [some (.ref a), some (.int sheets), some (.int (pMB ns sheets (mAb (M.1 0) ns nh ml mk) g)), some (.int (nI g)), some (.int b), some (.int (nI k))] [] := by
  intro m
  induction m using Nat.strongRecOn with
  | ind m ih =>
  intro k b Mk hk hc hb n
  have hns := ok.2.1.2
  have hng := ok.2.2.2.1.2
  refine zj_iload 14 rfl rfl rfl ?_
  refine zj_aload_n 15 rfl rfl rfl ?_
  refine zj_get 16 rfl rfl mw_0 rfl ?_
  refine zj_sipush 17 (549) rfl rfl (by decide) ?_
  refine zn_iald 18 (549) rfl rfl (mw_1r hc) rfl (by omega) (by decide) ?_
  refine zn_icmp_ge 19 (k) (ns) rfl rfl rfl ok.2.1.1 (by omega) (by omega) (fun c32 => ?_) (fun c32 => ?_)
  · obtain rfl : k = ns := by omega
    exact kk n Mk b _ hc hb
  · refine zj_iload 20 rfl rfl rfl ?_
    refine zj_if_eq 21 rfl rfl (fun c37 => ?_) (fun c37 => ?_)
    · exact kk n Mk b _ hc (by rw [c37]; exact zo_f (fun h => zo_0.mp (hb ▸ c37) (fun i hi => h i (by omega))))
    · refine zj_iload_n 22 rfl rfl rfl ?_
      refine zj_iload 23 rfl rfl rfl ?_
      refine zj_ishr 24 rfl rfl ?_
      refine zj_iconst 25 (1) rfl rfl (by decide) ?_
      refine zj_iand 26 rfl rfl ?_
      refine zj_if_eq 27 rfl rfl (fun c46 => ?_) (fun c46 => ?_)
      · refine zj_iconst 33 (1) rfl rfl (by decide) ?_
        refine zj_goto 34 rfl rfl ?_
        refine zj_istore 36 rfl rfl ?_
        refine zn_iinc 37 (k) rfl rfl rfl rfl ?_
        refine zj_goto 38 rfl rfl ?_
        have hbt : ∀ i, i < k → zhas sheets (nI i) → (mAb (M.1 0) ns nh ml mk) g i = true := zo_n0.mp (hb ▸ c37)
        refine ih (m - 1) (by omega) (k + 1) _ Mk (by omega) hc ?_ n
        refine zo_t (fun i hi hz => ?_)
        by_cases e : i = k
        · subst e; exact absurd c46 hz
        · exact hbt i (by omega) hz
      · refine zj_aload_n 28 rfl rfl rfl ?_
        refine zj_iload_n 29 rfl rfl rfl ?_
        refine zj_iload 30 rfl rfl rfl ?_
        refine zj_cvxX 31 rfl rfl lk_8_253 ckM_allowsOf (k_allowsOf Mk hc no ns nh ng ml mk ok g k hg (by omega)) rfl mw_0 rfl rfl rfl (fun s1 hP1 => ?_)
        obtain ⟨M1, rfl, hc1⟩ := hP1
        refine zj_if_eq 32 rfl rfl (fun c56 => ?_) (fun c56 => ?_)
        · refine zj_iconst 35 (0) rfl rfl (by decide) ?_
          refine zj_istore 36 rfl rfl ?_
          refine zn_iinc 37 (k) rfl rfl rfl rfl ?_
          refine zj_goto 38 rfl rfl ?_
          refine ih (m - 1) (by omega) (k + 1) _ M1 (by omega) hc1 ?_ n
          refine zo_f (fun h => ?_)
          have := h k (by omega) c46
          exact zo_0.mp c56 (of_decide_eq_true this)
        · refine zj_iconst 33 (1) rfl rfl (by decide) ?_
          refine zj_goto 34 rfl rfl ?_
          refine zj_istore 36 rfl rfl ?_
          refine zn_iinc 37 (k) rfl rfl rfl rfl ?_
          refine zj_goto 38 rfl rfl ?_
          have hbt : ∀ i, i < k → zhas sheets (nI i) → (mAb (M.1 0) ns nh ml mk) g i = true := zo_n0.mp (hb ▸ c37)
          refine ih (m - 1) (by omega) (k + 1) _ M1 (by omega) hc1 ?_ n
          refine zo_t (fun i hi hz => ?_)
          by_cases e : i = k
          · subst e; exact decide_eq_true (zo_n0.mp c56)
          · exact hbt i (by omega) hz
theorem l_mayBe (no ns nh ng : Nat) (ml mk : Nat → Nat) (ok : mOk (M.1 0) no ns nh ng ml mk) (sheets : Int32) : ∀ (m : Nat) (g : Nat) (Mk : zMo) (o4 o5 : Option Value), (g + m = ng) → (mCr M Mk) → ∀ n, zXB E YM_mayBeOf 10 n (some (.int (mMB (M.1 0) ns nh ng ml mk sheets))) (mQ σ a M) (mw σ a Mk) 4 [some (.ref a), some (.int sheets), some (.int (pMB ns sheets (mAb (M.1 0) ns nh ml mk) g)), some (.int (nI g)), o4, o5] [] := by
  intro m
  induction m using Nat.strongRecOn with
  | ind m ih =>
  intro g Mk o4 o5 hk hc n
  have hns := ok.2.1.2
  have hng := ok.2.2.2.1.2
  refine zj_iload_n 4 rfl rfl rfl ?_
  refine zj_aload_n 5 rfl rfl rfl ?_
  refine zj_get 6 rfl rfl mw_0 rfl ?_
  refine zj_sipush 7 (780) rfl rfl (by decide) ?_
  refine zn_iald 8 (780) rfl rfl (mw_1r hc) rfl (by omega) (by decide) ?_
  refine zn_icmp_ge 9 (g) (ng) rfl rfl rfl ok.2.2.2.1.1 (by omega) (by omega) (fun c13 => ?_) (fun c13 => ?_)
  · refine zj_iload_n 51 rfl rfl rfl ?_
    refine zj_ireturn 52 rfl rfl rfl ?_
    obtain rfl : g = ng := by omega
    exact ⟨rfl, rfl, Mk, rfl, hc⟩
  · refine zj_iconst 10 (1) rfl rfl (by decide) ?_
    refine zj_istore 11 rfl rfl ?_
    refine zj_iconst 12 (0) rfl rfl (by decide) ?_
    refine zj_istore 13 rfl rfl ?_
    refine l_mayBe_in no ns nh ng ml mk ok sheets g c13 (fun n Mk b o5 hc hb => ?_) ns 0 1 Mk (by omega) hc (zo_t (fun i hi => by omega)) n
    refine zj_iload_n 39 rfl rfl rfl ?_
    refine zj_iload 40 rfl rfl rfl ?_
    refine zj_if_eq 41 rfl rfl (fun c75 => ?_) (fun c75 => ?_)
    · refine zj_iconst 46 (0) rfl rfl (by decide) ?_
      refine zj_ior 47 rfl rfl ?_
      refine zj_istore_n 48 rfl rfl ?_
      refine zn_iinc 49 (g) rfl rfl rfl rfl ?_
      refine zj_goto 50 rfl rfl ?_
      have e : pMB ns sheets (mAb (M.1 0) ns nh ml mk) (g + 1) = pMB ns sheets (mAb (M.1 0) ns nh ml mk) g ||| (if ∀ i, i < ns → zhas sheets (nI i) → (mAb (M.1 0) ns nh ml mk) g i = true then 1 <<< (nI g &&& 31) else 0) := rfl
      have hh := ih (m - 1) (by omega) (g + 1) Mk (some (.int b)) o5 (by omega) hc n
      rw [e, if_neg (zo_0.mp (hb ▸ c75))] at hh
      exact hh
    · refine zj_iconst 42 (1) rfl rfl (by decide) ?_
      refine zj_iload_n 43 rfl rfl rfl ?_
      refine zj_ishl 44 rfl rfl ?_
      refine zj_goto 45 rfl rfl ?_
      refine zj_ior 47 rfl rfl ?_
      refine zj_istore_n 48 rfl rfl ?_
      refine zn_iinc 49 (g) rfl rfl rfl rfl ?_
      refine zj_goto 50 rfl rfl ?_
      have e : pMB ns sheets (mAb (M.1 0) ns nh ml mk) (g + 1) = pMB ns sheets (mAb (M.1 0) ns nh ml mk) g ||| (if ∀ i, i < ns → zhas sheets (nI i) → (mAb (M.1 0) ns nh ml mk) g i = true then 1 <<< (nI g &&& 31) else 0) := rfl
      have hh := ih (m - 1) (by omega) (g + 1) Mk (some (.int b)) o5 (by omega) hc n
      rw [e, if_pos (zo_n0.mp (hb ▸ c75))] at hh
      exact hh
theorem k_mayBeOf (Mk : zMo) (hc : mCr M Mk) (no ns nh ng : Nat) (ml mk : Nat → Nat) (ok : mOk (M.1 0) no ns nh ng ml mk) (sheets : Int32) : zX E YM_mayBeOf 10 [.ref a, .int sheets] (mw σ a Mk) (some (.int (mMB (M.1 0) ns nh ng ml mk sheets))) (mQ σ a M) := by
  refine zX.of oM_mayBeOf (by decide +kernel) rfl rfl (fun n => ?_)
  refine zj_iconst 0 (0) rfl rfl (by decide) ?_
  refine zj_istore_n 1 rfl rfl ?_
  refine zj_iconst 2 (0) rfl rfl (by decide) ?_
  refine zj_istore_n 3 rfl rfl ?_
  exact l_mayBe no ns nh ng ml mk ok sheets ng 0 Mk _ _ (by omega) hc n
theorem k_MmayBe (no ns nh ng : Nat) (ml mk : Nat → Nat) (ok : mOk (M.1 0) no ns nh ng ml mk) (sheets : Int32) (hv : zr sheets (2 ^ ns : Nat)) : zX E YM_mayBe 11 [.ref a, .int sheets] (mw σ a M) (some (.int (mMB (M.1 0) ns nh ng ml mk sheets))) (mQ σ a M) := by
  refine zX.of oM_mayBe (by decide +kernel) rfl rfl (fun n => ?_)
  refine zj_aload_n 0 rfl rfl rfl ?_
  refine zj_iload_n 1 rfl rfl rfl ?_
  refine zj_cvx 2 rfl rfl lk_8_256 ckM_isSheets (k_isSheets _ ns ok.2.1.1 ok.2.1.2) rfl mw_0 rfl rfl rfl ?_
  refine zj_if_eq 3 rfl rfl (fun c5 => ?_) (fun c5 => ?_)
  · exact absurd hv (zo_0.mp c5)
  · refine zj_aload_n 4 rfl rfl rfl ?_
    refine zj_iload_n 5 rfl rfl rfl ?_
    refine zj_cvxX 6 rfl rfl lk_8_259 ckM_mayBeOf (k_mayBeOf M mCr.rfl no ns nh ng ml mk ok _) rfl mw_0 rfl rfl rfl (fun s1 hP1 => ?_)
    obtain ⟨M1, rfl, hc1⟩ := hP1
    refine zj_goto 7 rfl rfl ?_
    refine zj_ireturn 9 rfl rfl rfl ?_
    exact ⟨rfl, rfl, M1, rfl, hc1⟩
theorem k_MmayBe_bad (sheets : Int32) (ns : Nat) (h2 : M.1 0 549 = nI ns) (hb2 : ns ≤ 16) (hv : ¬ zr sheets (2 ^ ns : Nat)) : zM E YM_mayBe 11 [.ref a, .int sheets] (mw σ a M) (some (.int (-2))) (mw σ a M) := by
  refine zM.of oM_mayBe (by decide +kernel) rfl rfl (fun n => ?_)
  refine zj_aload_n 0 rfl rfl rfl ?_
  refine zj_iload_n 1 rfl rfl rfl ?_
  refine zj_cvx 2 rfl rfl lk_8_256 ckM_isSheets (k_isSheets _ ns h2 hb2) rfl mw_0 rfl rfl rfl ?_
  refine zj_if_eq 3 rfl rfl (fun c5 => ?_) (fun c5 => ?_)
  · refine zj_bipush 8 (-2) rfl rfl (by decide) ?_
    refine zj_ireturn 9 rfl rfl rfl ?_
    exact ⟨rfl, rfl, rfl⟩
  · exact absurd (zo_n0.mp c5) hv
theorem l_worldsBy (no ns nh ng : Nat) (ml mk : Nat → Nat) (ok : mOk (M.1 0) no ns nh ng ml mk) (sheets may : Int32) (Mk : zMo) (hc : mCr M Mk) : ∀ (m : Nat) (g : Nat), (g + m = ng) → ∀ n, zXB E YM_worldsBy 11 n (some (.int (pWd (rGw (M.1 0)) may  ng))) (mQ σ a M) (mw σ a Mk) 11 [some (.ref a), some (.int sheets), some (.int may), some (.int (pWd (rGw (M.1 0)) may  g)), some (.int (nI g))] [] := by
  intro m
  induction m using Nat.strongRecOn with
  | ind m ih =>
  intro g hk n
  have hns := ok.2.1.2
  have hng := ok.2.2.2.1.2
  refine zj_iload 8 rfl rfl rfl ?_
  refine zj_aload_n 9 rfl rfl rfl ?_
  refine zj_get 10 rfl rfl mw_0 rfl ?_
  refine zj_sipush 11 (780) rfl rfl (by decide) ?_
  refine zn_iald 12 (780) rfl rfl (mw_1r hc) rfl (by omega) (by decide) ?_
  refine zn_icmp_ge 13 (g) (ng) rfl rfl rfl ok.2.2.2.1.1 (by omega) (by omega) (fun c21 => ?_) (fun c21 => ?_)
  · refine zj_iload_n 38 rfl rfl rfl ?_
    refine zj_ireturn 39 rfl rfl rfl ?_
    obtain rfl : g = ng := by omega
    exact ⟨rfl, rfl, Mk, rfl, hc⟩
  · refine zj_iload_n 14 rfl rfl rfl ?_
    refine zj_iload_n 15 rfl rfl rfl ?_
    refine zj_iload 16 rfl rfl rfl ?_
    refine zj_ishr 17 rfl rfl ?_
    refine zj_iconst 18 (1) rfl rfl (by decide) ?_
    refine zj_iand 19 rfl rfl ?_
    refine zj_iconst 20 (1) rfl rfl (by decide) ?_
    refine zj_icmp_ne 21 rfl rfl (fun c32 => ?_) (fun c32 => ?_)
    · refine zj_iconst 33 (0) rfl rfl (by decide) ?_
      refine zj_ior 34 rfl rfl ?_
      refine zj_istore_n 35 rfl rfl ?_
      refine zn_iinc 36 (g) rfl rfl rfl rfl ?_
      refine zj_goto 37 rfl rfl ?_
      have e : pWd (rGw (M.1 0)) may  (g + 1) = pWd (rGw (M.1 0)) may  g ||| (if zhas may (nI g) then 1 <<< (rGw (M.1 0) g &&& 31) else 0) := rfl
      have hh := ih (m - 1) (by omega) (g + 1) (by omega) n
      rw [e, if_neg (fun z => c32 ((zhas1_iff _ _).mpr z))] at hh
      exact hh
    · refine zj_iconst 22 (1) rfl rfl (by decide) ?_
      refine zj_aload_n 23 rfl rfl rfl ?_
      refine zj_get 24 rfl rfl mw_0 rfl ?_
      refine zj_sipush 25 (781) rfl rfl (by decide) ?_
      refine zj_iconst 26 (3) rfl rfl (by decide) ?_
      refine zj_iload 27 rfl rfl rfl ?_
      refine zn_imul 28 (3) (g) rfl rfl rfl rfl ?_
      refine zn_iadd 29 (781) (3 * g) rfl rfl rfl rfl ?_
      refine zn_iald 30 ((781) + (3 * g)) rfl rfl (mw_1r hc) rfl (by omega) (by decide) ?_
      refine zj_ishl 31 rfl rfl ?_
      refine zj_goto 32 rfl rfl ?_
      refine zj_ior 34 rfl rfl ?_
      refine zj_istore_n 35 rfl rfl ?_
      refine zn_iinc 36 (g) rfl rfl rfl rfl ?_
      refine zj_goto 37 rfl rfl ?_
      have e : pWd (rGw (M.1 0)) may  (g + 1) = pWd (rGw (M.1 0)) may  g ||| (if zhas may (nI g) then 1 <<< (rGw (M.1 0) g &&& 31) else 0) := rfl
      have hh := ih (m - 1) (by omega) (g + 1) (by omega) n
      rw [e, if_pos ((zhas1_iff _ _).mp c32)] at hh
      exact hh
theorem k_worldsBy (no ns nh ng : Nat) (ml mk : Nat → Nat) (ok : mOk (M.1 0) no ns nh ng ml mk) (sheets : Int32) : zX E YM_worldsBy 11 [.ref a, .int sheets] (mw σ a M) (some (.int (mWd (M.1 0) ns nh ng ml mk sheets))) (mQ σ a M) := by
  refine zX.of oM_worldsBy (by decide +kernel) rfl rfl (fun n => ?_)
  refine zj_aload_n 0 rfl rfl rfl ?_
  refine zj_iload_n 1 rfl rfl rfl ?_
  refine zj_cvxX 2 rfl rfl lk_8_259 ckM_mayBeOf (k_mayBeOf M mCr.rfl no ns nh ng ml mk ok _) rfl mw_0 rfl rfl rfl (fun s1 hP1 => ?_)
  obtain ⟨M1, rfl, hc1⟩ := hP1
  refine zj_istore_n 3 rfl rfl ?_
  refine zj_iconst 4 (0) rfl rfl (by decide) ?_
  refine zj_istore_n 5 rfl rfl ?_
  refine zj_iconst 6 (0) rfl rfl (by decide) ?_
  refine zj_istore 7 rfl rfl ?_
  exact l_worldsBy no ns nh ng ml mk ok sheets _ M1 hc1 ng 0 (by omega) n
end
