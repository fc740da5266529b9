/-! the reference: what is there, unlike ways, parts -/
abbrev mTh (worlds what : Int32) (d : Nat → Int32) : Int32 := if worlds = 0 then -1 else if what = 0 then (pTh worlds d 4).1 else (pTh worlds d 4).2
def mCw (M M' : zMo) : Prop := M'.1 0 = M.1 0 ∧ M'.1 1 = M.1 1 ∧ M'.1 2 = M.1 2 ∧ M'.2.2.2 0 = M.2.2.2 0 ∧ M'.2.2.2 1 = M.2.2.2 1
theorem mCr.w {M M' : zMo} (h : mCr M M') : mCw M M' := ⟨h.1, h.2.1, h.2.2.1, h.2.2.2.1, h.2.2.2.2.1⟩
theorem mCw.rfl {M : zMo} : mCw M M := ⟨Eq.refl _, Eq.refl _, Eq.refl _, Eq.refl _, Eq.refl _⟩
theorem mCw.trans {A B C : zMo} (h : mCw A B) (g : mCw B C) : mCw A C := ⟨g.1.trans h.1, g.2.1.trans h.2.1, g.2.2.1.trans h.2.2.1, g.2.2.2.1.trans h.2.2.2.1, g.2.2.2.2.trans h.2.2.2.2⟩
theorem mCw_7 (M : zMo) (f : Nat → Int32) : mCw M (M.sA 7 f) := by
  refine ⟨?_, ?_, ?_, ?_, ?_⟩ <;> simp [va_up]
def mQw (σ : zH) (a : Nat) (M : zMo) : zH → Prop := fun s => ∃ M', s = mw σ a M' ∧ mCw M M'
/-- the unlike ones among the first k of d whose bit stands -/
def pUn (worlds : Int32) (d : Nat → Int32) : Nat → List Int32
  | 0 => []
  | w + 1 => if zhas worlds (nI w) then (if d w ∈ pUn worlds d w then pUn worlds d w else pUn worlds d w ++ [d w]) else pUn worlds d w
theorem pUn_len (worlds : Int32) (d : Nat → Int32) : ∀ w, (pUn worlds d w).length ≤ w
  | 0 => Nat.le_refl _
  | w + 1 => by
    have := pUn_len worlds d w
    simp only [pUn]
    split
    · split
      · omega
      · rw [List.length_append, List.length_singleton]; omega
    · omega
theorem zmem_f {α : Type} {L : List α} {f : Nat → α} {x : α} (h : ∀ j (hj : j < L.length), f j = L[j]) : x ∈ L ↔ ∃ j, j < L.length ∧ f j = x := by
  rw [List.mem_iff_getElem]
  constructor
  · rintro ⟨j, hj, e⟩; exact ⟨j, hj, (h j hj).trans e⟩
  · rintro ⟨j, hj, e⟩; exact ⟨j, hj, (h j hj).symm.trans e⟩
section
variable {E : zE} {σ : zH} {a : Nat} {M : zMo}
theorem l_there (no ns nh ng : Nat) (ml mk : Nat → Nat) (ok : mOk (M.1 0) no ns nh ng ml mk) (sheets what W : Int32) : ∀ (m : Nat) (k : Nat) (Mk : zMo) (o7 : Option Value), (k + m = 4) → (mCr M Mk) → ∀ n, zXB E YM_there 12 n (some (.int (mTh W what (fun w => mD (M.1 0) ml mk 0 w 0 0)))) (mQ σ a M) (mw σ a Mk) 38 [some (.ref a), some (.int sheets), some (.int what), some (.int W), some (.int (pTh W (fun w => mD (M.1 0) ml mk 0 w 0 0) k).1), some (.int (pTh W (fun w => mD (M.1 0) ml mk 0 w 0 0) k).2), some (.int (nI k)), o7] [] := by
  intro m
  induction m using Nat.strongRecOn with
  | ind m ih =>
  intro k Mk o7 hk hc n
  refine zj_iload 22 rfl rfl rfl ?_
  refine zj_iconst 23 (4) rfl rfl (by decide) ?_
  refine zn_icmp_ge 24 (k) (4) rfl rfl rfl rfl (by omega) (by omega) (fun c41 => ?_) (fun c41 => ?_)
  · refine zj_iload_n 51 rfl rfl rfl ?_
    refine zj_if_ne 52 rfl rfl (fun c88 => ?_) (fun c88 => ?_)
    · refine zj_iload_n 55 rfl rfl rfl ?_
      refine zj_if_ne 56 rfl rfl (fun c96 => ?_) (fun c96 => ?_)
      · refine zj_iload 59 rfl rfl rfl ?_
        refine zj_ireturn 60 rfl rfl rfl ?_
        obtain rfl : k = 4 := by omega
        exact ⟨zrt (by unfold mTh; rw [if_neg c88, if_neg c96]), rfl, Mk, rfl, hc⟩
      · refine zj_iload 57 rfl rfl rfl ?_
        refine zj_goto 58 rfl rfl ?_
        refine zj_ireturn 60 rfl rfl rfl ?_
        obtain rfl : k = 4 := by omega
        exact ⟨zrt (by unfold mTh; rw [if_neg c88, if_pos c96]), rfl, Mk, rfl, hc⟩
    · refine zj_iconst 53 (-1) rfl rfl (by decide) ?_
      refine zj_goto 54 rfl rfl ?_
      refine zj_ireturn 60 rfl rfl rfl ?_
      obtain rfl : k = 4 := by omega
      exact ⟨zrt (by unfold mTh; rw [if_pos c88]), rfl, Mk, rfl, hc⟩
  · refine zj_iload_n 25 rfl rfl rfl ?_
    refine zj_iload 26 rfl rfl rfl ?_
    refine zj_ishr 27 rfl rfl ?_
    refine zj_iconst 28 (1) rfl rfl (by decide) ?_
    refine zj_iand 29 rfl rfl ?_
    refine zj_iconst 30 (1) rfl rfl (by decide) ?_
    refine zj_icmp_ne 31 rfl rfl (fun c51 => ?_) (fun c51 => ?_)
    · refine zn_iinc 49 (k) rfl rfl rfl rfl ?_
      refine zj_goto 50 rfl rfl ?_
      have e := pTh_s W (fun w => mD (M.1 0) ml mk 0 w 0 0) k
      have hh := fun o => ih (m - 1) (by omega) (k + 1) Mk o (by omega) hc n
      rw [if_neg (fun z => c51 ((zhas1_iff _ _).mpr z))] at e
      rw [e] at hh
      exact hh _
    · refine zj_aload_n 32 rfl rfl rfl ?_
      refine zj_iconst 33 (0) rfl rfl (by decide) ?_
      refine zj_iload 34 rfl rfl rfl ?_
      refine zj_iconst 35 (0) rfl rfl (by decide) ?_
      refine zj_iconst 36 (0) rfl rfl (by decide) ?_
      refine zj_iconst 37 (0) rfl rfl (by decide) ?_
      refine zj_iconst 38 (0) rfl rfl (by decide) ?_
      refine zj_cvxX 39 rfl rfl lk_8_177 ckM_drawnOn (k_drawnOn_r (M.1 0) hc.1 no ns nh ng ml mk ok 0 k 0 _ _ _ (by decide) (by omega) (by decide) rfl rfl rfl _) rfl mw_0 rfl rfl rfl (fun s1 hP1 => ?_)
      obtain ⟨M1, rfl, hc0⟩ := hP1
      have hc1 := hc.trans hc0
      refine zj_istore 40 rfl rfl ?_
      refine zj_iload 41 rfl rfl rfl ?_
      refine zj_iload 42 rfl rfl rfl ?_
      refine zj_iand 43 rfl rfl ?_
      refine zj_istore 44 rfl rfl ?_
      refine zj_iload 45 rfl rfl rfl ?_
      refine zj_iload 46 rfl rfl rfl ?_
      refine zj_ior 47 rfl rfl ?_
      refine zj_istore 48 rfl rfl ?_
      refine zn_iinc 49 (k) rfl rfl rfl rfl ?_
      refine zj_goto 50 rfl rfl ?_
      have e := pTh_s W (fun w => mD (M.1 0) ml mk 0 w 0 0) k
      have hh := fun o => ih (m - 1) (by omega) (k + 1) M1 o (by omega) hc1 n
      rw [if_pos ((zhas1_iff _ _).mp c51)] at e
      rw [e] at hh
      exact hh _
theorem k_Mthere (no ns nh ng : Nat) (ml mk : Nat → Nat) (ok : mOk (M.1 0) no ns nh ng ml mk) (sheets what : Int32) (hv : zr sheets (2 ^ ns : Nat)) (hw : zr what 2) : zX E YM_there 12 [.ref a, .int sheets, .int what] (mw σ a M) (some (.int (mTh (mWd (M.1 0) ns nh ng ml mk sheets) what (fun w => mD (M.1 0) ml mk 0 w 0 0)))) (mQ σ a M) := by
  refine zX.of oM_there (by decide +kernel) rfl rfl (fun n => ?_)
  refine zj_aload_n 0 rfl rfl rfl ?_
  refine zj_iload_n 1 rfl rfl rfl ?_
  refine zj_cvx 2 rfl rfl lk_8_256 ckM_isSheets (k_isSheets _ ns ok.2.1.1 ok.2.1.2) rfl mw_0 rfl rfl rfl ?_
  refine zj_if_eq 3 rfl rfl (fun c5 => ?_) (fun c5 => ?_)
  · exact absurd hv (zo_0.mp c5)
  · refine zj_iload_n 4 rfl rfl rfl ?_
    refine zj_i2l 5 rfl rfl ?_
    refine zj_lconst 6 (0) rfl rfl (by decide) ?_
    refine zj_lconst 7 (1) rfl rfl (by decide) ?_
    refine zj_csx 8 rfl rfl lk_8_51 ckM_in (k_in0 _ _ 2 (by decide)) rfl rfl rfl rfl ?_
    refine zj_if_ne 9 rfl rfl (fun c15 => ?_) (fun c15 => ?_)
    · refine zj_aload_n 12 rfl rfl rfl ?_
      refine zj_iload_n 13 rfl rfl rfl ?_
      refine zj_cvxX 14 rfl rfl lk_8_262 ckM_worldsBy (k_worldsBy no ns nh ng ml mk ok _) rfl mw_0 rfl rfl rfl (fun s1 hP1 => ?_)
      obtain ⟨M1, rfl, hc1⟩ := hP1
      refine zj_istore_n 15 rfl rfl ?_
      refine zj_ldcw 16 (268435455) rfl rfl (by decide) ?_
      refine zj_istore 17 rfl rfl ?_
      refine zj_iconst 18 (0) rfl rfl (by decide) ?_
      refine zj_istore 19 rfl rfl ?_
      refine zj_iconst 20 (0) rfl rfl (by decide) ?_
      refine zj_istore 21 rfl rfl ?_
      exact l_there no ns nh ng ml mk ok sheets what _ 4 0 M1 _ (by omega) hc1 n
    · exact absurd hw (zo_0.mp c15)
theorem k_Mthere_bad (sheets what : Int32) (ns : Nat) (h2 : M.1 0 549 = nI ns) (hb2 : ns ≤ 16) (hv : ¬ (zr sheets (2 ^ ns : Nat) ∧ zr what 2)) : zM E YM_there 12 [.ref a, .int sheets, .int what] (mw σ a M) (some (.int (-2))) (mw σ a M) := by
  refine zM.of oM_there (by decide +kernel) rfl rfl (fun n => ?_)
  refine zj_aload_n 0 rfl rfl rfl ?_
  refine zj_iload_n 1 rfl rfl rfl ?_
  refine zj_cvx 2 rfl rfl lk_8_256 ckM_isSheets (k_isSheets _ ns h2 hb2) rfl mw_0 rfl rfl rfl ?_
  refine zj_if_eq 3 rfl rfl (fun c5 => ?_) (fun c5 => ?_)
  · refine zj_bipush 10 (-2) rfl rfl (by decide) ?_
    refine zj_ireturn 11 rfl rfl rfl ?_
    exact ⟨rfl, rfl, rfl⟩
  · refine zj_iload_n 4 rfl rfl rfl ?_
    refine zj_i2l 5 rfl rfl ?_
    refine zj_lconst 6 (0) rfl rfl (by decide) ?_
    refine zj_lconst 7 (1) rfl rfl (by decide) ?_
    refine zj_csx 8 rfl rfl lk_8_51 ckM_in (k_in0 _ _ 2 (by decide)) rfl rfl rfl rfl ?_
    refine zj_if_ne 9 rfl rfl (fun c15 => ?_) (fun c15 => ?_)
    · exact absurd ⟨zo_n0.mp c5, zo_n0.mp c15⟩ hv
    · refine zj_bipush 10 (-2) rfl rfl (by decide) ?_
      refine zj_ireturn 11 rfl rfl rfl ?_
      exact ⟨rfl, rfl, rfl⟩
theorem k_Mparts_bad (sheets what : Int32) (ns : Nat) (h2 : M.1 0 549 = nI ns) (hb2 : ns ≤ 16) (hv : ¬ (zr sheets (2 ^ ns : Nat) ∧ zr what 2)) : zM E YM_parts 12 [.ref a, .int sheets, .int what] (mw σ a M) (some (.int (-2))) (mw σ a M) := by
  refine zM.of oM_parts (by decide +kernel) rfl rfl (fun n => ?_)
  refine zj_aload_n 0 rfl rfl rfl ?_
  refine zj_iload_n 1 rfl rfl rfl ?_
  refine zj_cvx 2 rfl rfl lk_8_256 ckM_isSheets (k_isSheets _ ns h2 hb2) rfl mw_0 rfl rfl rfl ?_
  refine zj_if_eq 3 rfl rfl (fun c5 => ?_) (fun c5 => ?_)
  · refine zj_bipush 10 (-2) rfl rfl (by decide) ?_
    refine zj_ireturn 11 rfl rfl rfl ?_
    exact ⟨rfl, rfl, rfl⟩
  · refine zj_iload_n 4 rfl rfl rfl ?_
    refine zj_i2l 5 rfl rfl ?_
    refine zj_lconst 6 (0) rfl rfl (by decide) ?_
    refine zj_lconst 7 (1) rfl rfl (by decide) ?_
    refine zj_csx 8 rfl rfl lk_8_51 ckM_in (k_in0 _ _ 2 (by decide)) rfl rfl rfl rfl ?_
    refine zj_if_ne 9 rfl rfl (fun c15 => ?_) (fun c15 => ?_)
    · exact absurd ⟨zo_n0.mp c5, zo_n0.mp c15⟩ hv
    · refine zj_bipush 10 (-2) rfl rfl (by decide) ?_
      refine zj_ireturn 11 rfl rfl rfl ?_
      exact ⟨rfl, rfl, rfl⟩
end
