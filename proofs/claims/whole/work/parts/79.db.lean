/-! the component: what guesses allow -/
theorem kcl {v : Int32} (h : zr v 4) : v = nI v.toNatClampNeg := (zr4 h).2
abbrev pAll (ns : Nat) (sheets : Int32) (al : Nat → Bool) : Prop := ∀ s, s < ns → zhas sheets (nI s) → al s = true
theorem all_1shl {ns s0 : Nat} (hs : s0 < ns) (hn : ns ≤ 16) (al : Nat → Bool) : pAll ns (1 <<< (nI s0 &&& 31)) al ↔ al s0 = true := by
  constructor
  · intro h
    exact h s0 hs ((zhas_bit _ (by omega)).mpr (by rw [zbit_1shl s0 (by omega) s0 (by omega)]; simp))
  · intro h s hs2 hz
    have hb := (zhas_bit _ (by omega)).mp hz
    rw [zbit_1shl s0 (by omega) s (by omega), decide_eq_true_eq] at hb
    subst hb
    exact h
theorem gu_wd {G : zMo} {r : Nat → Int32} {ng : Nat} (hg : guR G r) (hb : ng ≤ 12) (may : Int32) : pWd (G.1 0) may ng = pWd (rGw r) may ng := pWd_cg may ng (fun k hk => (hg.1 k (by omega)).1)
section
variable {E : zE} {σ : zH} {c : Nat} {K : zDc}
theorem l_DallowsAll (h : dAt σ c K) {no ns nh ng : Nat} {ml mk : Nat → Nat} {r : Nat → Int32} (ok : mOk r no ns nh ng ml mk) (ok2 : mOk2 r ns) (hs : sRl K.n r ml) (lw ww gg : Nat) (q : ∀ shown : Int32, (K.e.2.2.1 0 &&& (shown ^^^ (-1))) ||| (K.e.2.2.1 1 &&& shown) = mD r ml mk lw ww gg shown) (gi sheets v : Int32) (hv : (v = 1 ∧ pAll ns sheets (fun s => decide (zb28 (mD r ml mk lw ww gg (pSHm r nh ns (rSo r s) (rSn r s)) ^^^ rSl r s) 28 ≤ r 817))) ∨ (v = 0 ∧ ¬ pAll ns sheets (fun s => decide (zb28 (mD r ml mk lw ww gg (pSHm r nh ns (rSo r s) (rSn r s)) ^^^ rSl r s) 28 ≤ r 817)))) {Pp : zH → Prop} (hP : Pp σ) : ∀ (m : Nat) (k : Nat) (o6 : Option Value), (k + m = ns) → (∀ s, s < k → zhas sheets (nI s) → (fun s => decide (zb28 (mD r ml mk lw ww gg (pSHm r nh ns (rSo r s) (rSn r s)) ^^^ rSl r s) 28 ≤ r 817)) s = true) → ∀ n, zXB E YD_allowsAll 6 n (some (.int v)) (Pp) (σ) 44 [some (.ref c), some (.int gi), some (.int sheets), some (.ref (c + 1 + 37)), some (.ref (c + 1 + 28)), some (.int (nI k)), o6] [] := by
  intro m
  induction m using Nat.strongRecOn with
  | ind m ih =>
  intro k o6 hk hI n
  have b1 := (kN1 ok hs).2
  have b2 := (kN2 ok hs).2
  refine zj_iload 26 rfl rfl rfl ?_
  refine zj_aload 27 rfl rfl rfl ?_
  refine zj_get 28 rfl rfl h.2.1.2.2.2.2.2.2.1.1 rfl ?_
  refine zn_icmp_ge 29 (k) (ns) rfl rfl rfl (kN1 ok hs).1 (by omega) (by omega) (fun c51 => ?_) (fun c51 => ?_)
  · refine zj_iconst 56 (1) rfl rfl (by decide) ?_
    refine zj_zreturn 57 rfl rfl rfl rfl ?_
    obtain rfl : k = ns := by omega
    rcases hv with ⟨rfl, _⟩ | ⟨_, g⟩
    · exact ⟨rfl, rfl, hP⟩
    · exact absurd hI g
  · refine zj_iload_n 30 rfl rfl rfl ?_
    refine zj_iload 31 rfl rfl rfl ?_
    refine zj_csx 32 rfl rfl lk_7_232 ckD_has (k_has _ _) rfl rfl rfl rfl ?_
    refine zj_if_eq 33 rfl rfl (fun c60 => ?_) (fun c60 => ?_)
    · refine zn_iinc 54 (k) rfl rfl rfl rfl ?_
      refine zj_norm [_, _, _, _, _, _, _] rfl ?_
      refine zj_goto 55 rfl rfl ?_
      refine ih (m - 1) (by omega) (k + 1) _ (by omega) (fun s hs2 hz => ?_) n
      by_cases e : s = k
      · subst e
        exact absurd hz (zo_0.mp c60)
      · exact hI s (by omega) hz
    · refine zj_aload_n 34 rfl rfl rfl ?_
      refine zj_get 35 rfl rfl h.1 rfl ?_
      refine zj_aload 36 rfl rfl rfl ?_
      refine zj_iload 37 rfl rfl rfl ?_
      refine zj_cvx 38 rfl rfl lk_7_171 ckBk_linesShownBefore (k_linesShownBefore h.2.1.2.2.2.2.2.2.1 ns (kN1 ok hs).1 (kN1 ok hs).2 nh (kN2 ok hs).1 (kN2 ok hs).2 k (by omega)) rfl h.2.1.2.2.2.2.2.2.1.1 rfl rfl rfl ?_
      refine zj_cvx 39 rfl rfl lk_7_117 ckEy_linesIfShown (k_linesIfShown h.2.2.2.2.2.1 _) rfl h.2.2.2.2.2.1.1 rfl rfl rfl ?_
      rw [q, bk_sh (hs.2.2.2.1) b1 b2, (hs.2.2.2.1.2.1 k (by omega)).1, (hs.2.2.2.1.2.1 k (by omega)).2.1]
      refine zj_aload 40 rfl rfl rfl ?_
      refine zj_get 41 rfl rfl h.2.1.2.2.2.2.2.2.1.1 rfl ?_
      refine zj_iload 42 rfl rfl rfl ?_
      refine zn_iald 43 (k) rfl rfl h.2.1.2.2.2.2.2.2.1.2.2.2.2.2.1 rfl (by omega) (by decide) ?_
      rw [(hs.2.2.2.1.2.1 k (by omega)).2.2]
      refine zj_ixor 44 rfl rfl ?_
      refine zj_istore 45 rfl rfl ?_
      refine zj_norm [_, _, _, _, _, _, _] rfl ?_
      refine zj_iload 46 rfl rfl rfl ?_
      refine zj_csx 47 rfl rfl lk_7_124 ckJ_bitCount (k_bitCount _) rfl rfl rfl rfl ?_
      rw [jBits_eq _ (zB28_xor (mDw_28 _ _ _ _ _ _) (ok2.2.1 k (by omega)))]
      refine zj_aload_n 48 rfl rfl rfl ?_
      refine zj_get 49 rfl rfl h.1 rfl ?_
      refine zj_get 50 rfl rfl h.2.1.1 rfl ?_
      rw [hs.2.2.2.2.2.2]
      refine zj_icmp_le 51 rfl rfl (fun c100 => ?_) (fun c100 => ?_)
      · refine zn_iinc 54 (k) rfl rfl rfl rfl ?_
        refine zj_norm [_, _, _, _, _, _, _] rfl ?_
        refine zj_goto 55 rfl rfl ?_
        refine ih (m - 1) (by omega) (k + 1) _ (by omega) (fun s hs2 hz => ?_) n
        by_cases e : s = k
        · subst e
          rw [decide_eq_true_eq]; exact c100
        · exact hI s (by omega) hz
      · refine zj_iconst 52 (0) rfl rfl (by decide) ?_
        refine zj_zreturn 53 rfl rfl rfl rfl ?_
        rcases hv with ⟨_, g⟩ | ⟨rfl, _⟩
        · exact absurd (of_decide_eq_true (g k (by omega) (zo_n0.mp c60))) c100
        · exact ⟨rfl, rfl, hP⟩
theorem k_DallowsAll (h : dAt σ c K) {no ns nh ng : Nat} {ml mk : Nat → Nat} {r : Nat → Int32} (ok : mOk r no ns nh ng ml mk) (ok2 : mOk2 r ns) (hs : sRl K.n r ml) (gi : Nat) (hgi : gi < ng) (sheets : Int32) (v : Int32) (hv : (v = 1 ∧ pAll ns sheets (mAb r ns nh ml mk gi)) ∨ (v = 0 ∧ ¬ pAll ns sheets (mAb r ns nh ml mk gi))) : zX E YD_allowsAll 6 [.ref c, .int (nI gi), .int sheets] (σ) (some (.int v)) (dQ σ c K) := by
  refine zX.of oD_allowsAll (by decide +kernel) rfl rfl (fun n => ?_)
  have b3 := (kN3 ok hs).2
  obtain ⟨z1, z2, z3⟩ := ok.2.2.2.2.2.2.2.2 gi hgi
  obtain ⟨g1, g2, g3⟩ := hs.2.2.2.2.1.1 gi (by omega)
  have f1 : K.n.g.1 0 gi = nI (rGw r gi).toNatClampNeg := g1.trans (kcl z1)
  have f2 : K.n.g.1 1 gi = nI (rGl r gi).toNatClampNeg := g2.trans (kcl z2)
  have f3 : K.n.g.1 2 gi = nI (rGg r gi).toNatClampNeg := g3.trans (kcl z3)
  refine zj_aload_n 0 rfl rfl rfl ?_
  refine zj_get 1 rfl rfl h.1 rfl ?_
  refine zj_get 2 rfl rfl h.2.1.1 rfl ?_
  refine zj_astore_n 3 rfl rfl ?_
  refine zj_aload_n 4 rfl rfl rfl ?_
  refine zj_get 5 rfl rfl h.1 rfl ?_
  refine zj_get 6 rfl rfl h.2.1.1 rfl ?_
  refine zj_astore 7 rfl rfl ?_
  refine zj_aload_n 8 rfl rfl rfl ?_
  refine zj_aload_n 9 rfl rfl rfl ?_
  refine zj_get 10 rfl rfl h.2.1.2.2.2.2.2.2.2.1 rfl ?_
  refine zj_iload_n 11 rfl rfl rfl ?_
  refine zn_iald 12 (gi) rfl rfl h.2.1.2.2.2.2.2.2.2.2.2.1 rfl (by omega) (by decide) ?_
  refine zj_aload_n 13 rfl rfl rfl ?_
  refine zj_get 14 rfl rfl h.2.1.2.2.2.2.2.2.2.1 rfl ?_
  refine zj_iload_n 15 rfl rfl rfl ?_
  refine zn_iald 16 (gi) rfl rfl h.2.1.2.2.2.2.2.2.2.2.1 rfl (by omega) (by decide) ?_
  refine zj_iconst 17 (0) rfl rfl (by decide) ?_
  refine zj_aload_n 18 rfl rfl rfl ?_
  refine zj_get 19 rfl rfl h.2.1.2.2.2.2.2.2.2.1 rfl ?_
  refine zj_iload_n 20 rfl rfl rfl ?_
  refine zn_iald 21 (gi) rfl rfl h.2.1.2.2.2.2.2.2.2.2.2.2 rfl (by omega) (by decide) ?_
  refine zj_iconst 22 (0) rfl rfl (by decide) ?_
  rw [f1, f2, f3]
  refine zj_cvvX 23 rfl rfl lk_7_113 ckD_look (k_Dlook h ok ok2 hs (rGl r gi).toNatClampNeg (rGw r gi).toNatClampNeg 0 (rGg r gi).toNatClampNeg 0 (zr4 z2).1 (zr4 z1).1 (by decide) (zr4 z3).1 (by decide)) rfl h.1 rfl rfl rfl (fun s1 hP1 => ?_)
  obtain ⟨e1, P1, Y1, h1, q1⟩ := hP1
  refine zj_iconst 24 (0) rfl rfl (by decide) ?_
  refine zj_istore 25 rfl rfl ?_
  exact l_DallowsAll h1 ok ok2 hs (rGl r gi).toNatClampNeg (rGw r gi).toNatClampNeg (rGg r gi).toNatClampNeg q1 (nI gi) sheets v hv ⟨e1, _, h1, ⟨rfl, rfl, rfl, rfl, rfl⟩⟩ ns 0 none (by omega) (fun s hs2 => absurd hs2 (by omega)) n
theorem l_DguessesA (h : dAt σ c K) {no ns nh ng : Nat} {ml mk : Nat → Nat} {r : Nat → Int32} (ok : mOk r no ns nh ng ml mk) (ok2 : mOk2 r ns) (hs : sRl K.n r ml) (sheets : Int32) : ∀ (m : Nat) (k : Nat) (τ : zH) (K1 : zDc), (k + m = ng) → (zsm σ τ c (c + 134)) → (dAt τ c K1) → (dSc K K1) → ∀ n, zXB E YD_guessesAllowing 7 n (some (.int (pMB ns sheets (mAb r ns nh ml mk) ng))) (dQ σ c K) (τ) 4 [some (.ref c), some (.int sheets), some (.int (pMB ns sheets (mAb r ns nh ml mk) k)), some (.int (nI k))] [] := by
  intro m
  induction m using Nat.strongRecOn with
  | ind m ih =>
  intro k τ K1 hk hz h1 hd n
  have hs1 : sRl K1.n r ml := by rw [hd.1]; exact hs
  obtain ⟨v, hv⟩ : ∃ v : Int32, (v = 1 ∧ pAll ns sheets (mAb r ns nh ml mk k)) ∨ (v = 0 ∧ ¬ pAll ns sheets (mAb r ns nh ml mk k)) := by
    by_cases g : pAll ns sheets (mAb r ns nh ml mk k)
    · exact ⟨1, Or.inl ⟨rfl, g⟩⟩
    · exact ⟨0, Or.inr ⟨rfl, g⟩⟩
  have b3 := (kN3 ok hs).2
  refine zj_iload_n 4 rfl rfl rfl ?_
  refine zj_aload_n 5 rfl rfl rfl ?_
  refine zj_get 6 rfl rfl h1.1 rfl ?_
  refine zj_get 7 rfl rfl h1.2.1.1 rfl ?_
  refine zj_get 8 rfl rfl h1.2.1.2.2.2.2.2.2.2.1 rfl ?_
  refine zn_icmp_ge 9 (k) (ng) rfl rfl rfl (kN3 ok hs1).1 (by omega) (by omega) (fun c15 => ?_) (fun c15 => ?_)
  · refine zj_iload_n 23 rfl rfl rfl ?_
    refine zj_ireturn 24 rfl rfl rfl ?_
    obtain rfl : k = ng := by omega
    exact ⟨rfl, rfl, hz, K1, h1, hd⟩
  · refine zj_aload_n 10 rfl rfl rfl ?_
    refine zj_iload_n 11 rfl rfl rfl ?_
    refine zj_iload_n 12 rfl rfl rfl ?_
    refine zj_cvxX 13 rfl rfl lk_7_218 ckD_allowsAll (k_DallowsAll h1 ok ok2 hs1 k (by omega) sheets v hv) rfl h1.1 rfl rfl rfl (fun s1 hP1 => ?_)
    skip
    refine zj_if_eq 14 rfl rfl (fun c24 => ?_) (fun c24 => ?_)
    · refine zn_iinc 21 (k) rfl rfl rfl rfl ?_
      refine zj_goto 22 rfl rfl ?_
      obtain ⟨z2, K2, h2, d2⟩ := hP1
      have e : (pMB ns sheets (mAb r ns nh ml mk) (k + 1)) = (pMB ns sheets (mAb r ns nh ml mk) k) ||| (if pAll ns sheets (mAb r ns nh ml mk k) then 1 <<< (nI k &&& 31) else 0) := rfl
      rw [if_neg (fun g => by rcases hv with ⟨rfl, _⟩ | ⟨_, g2⟩; exact absurd c24 (by decide); exact g2 g), zor0] at e
      rw [← e]
      exact ih (m - 1) (by omega) (k + 1) _ K2 (by omega) (hz.trans z2) h2 (hd.trans d2) n
    · refine zj_iload_n 15 rfl rfl rfl ?_
      refine zj_iconst 16 (1) rfl rfl (by decide) ?_
      refine zj_iload_n 17 rfl rfl rfl ?_
      refine zj_ishl 18 rfl rfl ?_
      refine zj_ior 19 rfl rfl ?_
      refine zj_istore_n 20 rfl rfl ?_
      refine zn_iinc 21 (k) rfl rfl rfl rfl ?_
      refine zj_goto 22 rfl rfl ?_
      obtain ⟨z2, K2, h2, d2⟩ := hP1
      have e : (pMB ns sheets (mAb r ns nh ml mk) (k + 1)) = (pMB ns sheets (mAb r ns nh ml mk) k) ||| (if pAll ns sheets (mAb r ns nh ml mk k) then 1 <<< (nI k &&& 31) else 0) := rfl
      rw [if_pos (by rcases hv with ⟨_, g2⟩ | ⟨rfl, _⟩; exact g2; exact absurd rfl c24)] at e
      rw [← e]
      exact ih (m - 1) (by omega) (k + 1) _ K2 (by omega) (hz.trans z2) h2 (hd.trans d2) n
theorem k_DguessesA (h : dAt σ c K) {no ns nh ng : Nat} {ml mk : Nat → Nat} {r : Nat → Int32} (ok : mOk r no ns nh ng ml mk) (ok2 : mOk2 r ns) (hs : sRl K.n r ml) (sheets : Int32) : zX E YD_guessesAllowing 7 [.ref c, .int sheets] (σ) (some (.int (pMB ns sheets (mAb r ns nh ml mk) ng))) (dQ σ c K) := by
  refine zX.of oD_guessesAllowing (by decide +kernel) rfl rfl (fun n => ?_)
  refine zj_iconst 0 (0) rfl rfl (by decide) ?_
  refine zj_istore_n 1 rfl rfl ?_
  refine zj_iconst 2 (0) rfl rfl (by decide) ?_
  refine zj_istore_n 3 rfl rfl ?_
  exact l_DguessesA h ok ok2 hs sheets ng 0 σ K (by omega) zsm.rfl' h (dSc.refl K) n
theorem k_DmayBe (h : dAt σ c K) {no ns nh ng : Nat} {ml mk : Nat → Nat} {r : Nat → Int32} (ok : mOk r no ns nh ng ml mk) (ok2 : mOk2 r ns) (hs : sRl K.n r ml) (sheets : Int32) (hv : zr sheets (2 ^ ns : Nat)) : zX E YD_mayBe 8 [.ref c, .int sheets] (σ) (some (.int (mMB r ns nh ng ml mk sheets))) (dQ σ c K) := by
  refine zX.of oD_mayBe (by decide +kernel) rfl rfl (fun n => ?_)
  refine zj_aload_n 0 rfl rfl rfl ?_
  refine zj_iload_n 1 rfl rfl rfl ?_
  refine zj_cvx 2 rfl rfl lk_7_221 ckD_areSheets (k_DareSheets h ok hs _) rfl h.1 rfl rfl rfl ?_
  refine zj_if_ne 3 rfl rfl (fun c5 => ?_) (fun c5 => ?_)
  · refine zj_aload_n 6 rfl rfl rfl ?_
    refine zj_iload_n 7 rfl rfl rfl ?_
    refine zj_cvxX 8 rfl rfl lk_7_225 ckD_guessesAllowing (k_DguessesA h ok ok2 hs sheets) rfl h.1 rfl rfl rfl (fun s1 hP1 => ?_)
    skip
    refine zj_ireturn 9 rfl rfl rfl ?_
    exact ⟨rfl, rfl, hP1⟩
  · exact absurd hv (zo_0.mp c5)
theorem k_DmayBe_bad (h : dAt σ c K) {no ns nh ng : Nat} {ml mk : Nat → Nat} {r : Nat → Int32} (ok : mOk r no ns nh ng ml mk) (hs : sRl K.n r ml) (sheets : Int32) (hv : ¬ zr sheets (2 ^ ns : Nat)) : zM E YD_mayBe 8 [.ref c, .int sheets] (σ) (some (.int (-2))) (σ) := by
  refine zM.of oD_mayBe (by decide +kernel) rfl rfl (fun n => ?_)
  refine zj_aload_n 0 rfl rfl rfl ?_
  refine zj_iload_n 1 rfl rfl rfl ?_
  refine zj_cvx 2 rfl rfl lk_7_221 ckD_areSheets (k_DareSheets h ok hs _) rfl h.1 rfl rfl rfl ?_
  refine zj_if_ne 3 rfl rfl (fun c5 => ?_) (fun c5 => ?_)
  · exact absurd (zo_n0.mp c5) hv
  · refine zj_bipush 4 (-2) rfl rfl (by decide) ?_
    refine zj_ireturn 5 rfl rfl rfl ?_
    exact ⟨rfl, rfl, rfl⟩
theorem k_Dallows (h : dAt σ c K) {no ns nh ng : Nat} {ml mk : Nat → Nat} {r : Nat → Int32} (ok : mOk r no ns nh ng ml mk) (ok2 : mOk2 r ns) (hs : sRl K.n r ml) (gi s : Nat) (hgi : gi < ng) (hs0 : s < ns) : zX E YD_allows 7 [.ref c, .int (nI gi), .int (nI s)] (σ) (some (.int (zo (mAl r ns nh ml mk gi s)))) (dQ σ c K) := by
  refine zX.of oD_allows (by decide +kernel) rfl rfl (fun n => ?_)
  have b1 := (kN1 ok hs).2
  have b3 := (kN3 ok hs).2
  obtain ⟨v, hv⟩ : ∃ v : Int32, (v = 1 ∧ mAl r ns nh ml mk gi s) ∨ (v = 0 ∧ ¬ mAl r ns nh ml mk gi s) := by
    by_cases g : mAl r ns nh ml mk gi s
    · exact ⟨1, Or.inl ⟨rfl, g⟩⟩
    · exact ⟨0, Or.inr ⟨rfl, g⟩⟩
  have hall : pAll ns (1 <<< (nI s &&& 31)) (mAb r ns nh ml mk gi) ↔ mAl r ns nh ml mk gi s := (all_1shl hs0 b1 _).trans decide_eq_true_iff
  refine zj_iload_n 0 rfl rfl rfl ?_
  refine zj_aload_n 1 rfl rfl rfl ?_
  refine zj_get 2 rfl rfl h.1 rfl ?_
  refine zj_get 3 rfl rfl h.2.1.1 rfl ?_
  refine zj_get 4 rfl rfl h.2.1.2.2.2.2.2.2.2.1 rfl ?_
  refine zj_csx 5 rfl rfl lk_7_42 ckD_isOneOf (k_isOne _ ng (kN3 ok hs).1 (by have := (kN3 ok hs).2; omega)) rfl rfl rfl rfl ?_
  refine zj_if_eq 6 rfl rfl (fun c14 => ?_) (fun c14 => ?_)
  · exact absurd (zr_of (n := ng) hgi (by omega)) (zo_0.mp c14)
  · refine zj_iload_n 7 rfl rfl rfl ?_
    refine zj_aload_n 8 rfl rfl rfl ?_
    refine zj_get 9 rfl rfl h.1 rfl ?_
    refine zj_get 10 rfl rfl h.2.1.1 rfl ?_
    refine zj_get 11 rfl rfl h.2.1.2.2.2.2.2.2.1.1 rfl ?_
    refine zj_csx 12 rfl rfl lk_7_42 ckD_isOneOf (k_isOne _ ns (kN1 ok hs).1 (by have := (kN1 ok hs).2; omega)) rfl rfl rfl rfl ?_
    refine zj_if_ne 13 rfl rfl (fun c31 => ?_) (fun c31 => ?_)
    · refine zj_aload_n 16 rfl rfl rfl ?_
      refine zj_iload_n 17 rfl rfl rfl ?_
      refine zj_iconst 18 (1) rfl rfl (by decide) ?_
      refine zj_iload_n 19 rfl rfl rfl ?_
      refine zj_ishl 20 rfl rfl ?_
      refine zj_cvxX 21 rfl rfl lk_7_218 ckD_allowsAll (k_DallowsAll h ok ok2 hs gi hgi _ v (by rw [hall]; exact hv)) rfl h.1 rfl rfl rfl (fun s1 hP1 => ?_)
      skip
      refine zj_if_eq 22 rfl rfl (fun c45 => ?_) (fun c45 => ?_)
      · refine zj_iconst 25 (0) rfl rfl (by decide) ?_
        refine zj_ireturn 26 rfl rfl rfl ?_
        refine ⟨zrt (zo_f (fun g => ?_)), rfl, hP1⟩
        rcases hv with ⟨rfl, _⟩ | ⟨_, g2⟩
        · exact absurd c45 (by decide)
        · exact g2 g
      · refine zj_iconst 23 (1) rfl rfl (by decide) ?_
        refine zj_goto 24 rfl rfl ?_
        refine zj_ireturn 26 rfl rfl rfl ?_
        refine ⟨zrt (zo_t ?_), rfl, hP1⟩
        rcases hv with ⟨_, g2⟩ | ⟨rfl, _⟩
        · exact g2
        · exact absurd rfl c45
    · exact absurd (zr_of (n := ns) hs0 (by omega)) (zo_0.mp c31)
theorem k_Dallows_bad (h : dAt σ c K) {no ns nh ng : Nat} {ml mk : Nat → Nat} {r : Nat → Int32} (ok : mOk r no ns nh ng ml mk) (hs : sRl K.n r ml) (g s : Int32) (hv : ¬ (zr g ng ∧ zr s ns)) : zM E YD_allows 7 [.ref c, .int g, .int s] (σ) (some (.int (-2))) (σ) := by
  refine zM.of oD_allows (by decide +kernel) rfl rfl (fun n => ?_)
  refine zj_iload_n 0 rfl rfl rfl ?_
  refine zj_aload_n 1 rfl rfl rfl ?_
  refine zj_get 2 rfl rfl h.1 rfl ?_
  refine zj_get 3 rfl rfl h.2.1.1 rfl ?_
  refine zj_get 4 rfl rfl h.2.1.2.2.2.2.2.2.2.1 rfl ?_
  refine zj_csx 5 rfl rfl lk_7_42 ckD_isOneOf (k_isOne _ ng (kN3 ok hs).1 (by have := (kN3 ok hs).2; omega)) rfl rfl rfl rfl ?_
  refine zj_if_eq 6 rfl rfl (fun c14 => ?_) (fun c14 => ?_)
  · refine zj_bipush 14 (-2) rfl rfl (by decide) ?_
    refine zj_ireturn 15 rfl rfl rfl ?_
    exact ⟨rfl, rfl, rfl⟩
  · refine zj_iload_n 7 rfl rfl rfl ?_
    refine zj_aload_n 8 rfl rfl rfl ?_
    refine zj_get 9 rfl rfl h.1 rfl ?_
    refine zj_get 10 rfl rfl h.2.1.1 rfl ?_
    refine zj_get 11 rfl rfl h.2.1.2.2.2.2.2.2.1.1 rfl ?_
    refine zj_csx 12 rfl rfl lk_7_42 ckD_isOneOf (k_isOne _ ns (kN1 ok hs).1 (by have := (kN1 ok hs).2; omega)) rfl rfl rfl rfl ?_
    refine zj_if_ne 13 rfl rfl (fun c31 => ?_) (fun c31 => ?_)
    · exact absurd ⟨zo_n0.mp c14, zo_n0.mp c31⟩ hv
    · refine zj_bipush 14 (-2) rfl rfl (by decide) ?_
      refine zj_ireturn 15 rfl rfl rfl ?_
      exact ⟨rfl, rfl, rfl⟩
theorem l_Dthere (h : dAt σ c K) {no ns nh ng : Nat} {ml mk : Nat → Nat} {r : Nat → Int32} (ok : mOk r no ns nh ng ml mk) (ok2 : mOk2 r ns) (hs : sRl K.n r ml) (sheets what W : Int32) : ∀ (m : Nat) (k : Nat) (τ : zH) (K1 : zDc) (o7 : Option Value), (k + m = 4) → (zsm σ τ c (c + 134)) → (dAt τ c K1) → (dSc K K1) → ∀ n, zXB E YD_there 8 n (some (.int (if what = 0 then (pTh W (fun w => mD r ml mk 0 w 0 0) 4).1 else (pTh W (fun w => mD r ml mk 0 w 0 0) 4).2))) (dQ σ c K) (τ) 51 [some (.ref c), some (.int sheets), some (.int what), some (.int W), some (.int (pTh W (fun w => mD r ml mk 0 w 0 0) k).1), some (.int (pTh W (fun w => mD r ml mk 0 w 0 0) k).2), some (.int (nI k)), o7] [] := by
  intro m
  induction m using Nat.strongRecOn with
  | ind m ih =>
  intro k τ K1 o7 hk hz h1 hd n
  have hs1 : sRl K1.n r ml := by rw [hd.1]; exact hs
  refine zj_iload 28 rfl rfl rfl ?_
  refine zj_iconst 29 (4) rfl rfl (by decide) ?_
  refine zn_icmp_ge 30 (k) (4) rfl rfl rfl rfl (by omega) (by omega) (fun c54 => ?_) (fun c54 => ?_)
  · refine zj_iload_n 70 rfl rfl rfl ?_
    refine zj_if_ne 71 rfl rfl (fun c136 => ?_) (fun c136 => ?_)
    · refine zj_iload 74 rfl rfl rfl ?_
      refine zj_ireturn 75 rfl rfl rfl ?_
      obtain rfl : k = 4 := by omega
      exact ⟨zrt (if_neg c136).symm, rfl, hz, K1, h1, hd⟩
    · refine zj_iload 72 rfl rfl rfl ?_
      refine zj_goto 73 rfl rfl ?_
      refine zj_ireturn 75 rfl rfl rfl ?_
      obtain rfl : k = 4 := by omega
      exact ⟨zrt (if_pos c136).symm, rfl, hz, K1, h1, hd⟩
  · refine zj_iload_n 31 rfl rfl rfl ?_
    refine zj_iload 32 rfl rfl rfl ?_
    refine zj_csx 33 rfl rfl lk_7_232 ckD_has (k_has _ _) rfl rfl rfl rfl ?_
    refine zj_if_eq 34 rfl rfl (fun c63 => ?_) (fun c63 => ?_)
    · refine zn_iinc 68 (k) rfl rfl rfl rfl ?_
      refine zj_goto 69 rfl rfl ?_
      have e : (pTh W (fun w => mD r ml mk 0 w 0 0) (k + 1)) = (pTh W (fun w => mD r ml mk 0 w 0 0) k) := if_neg (zo_0.mp c63)
      rw [← e]
      exact ih (m - 1) (by omega) (k + 1) _ K1 _ (by omega) hz h1 hd n
    · refine zj_aload_n 35 rfl rfl rfl ?_
      refine zj_get 36 rfl rfl h1.1 rfl ?_
      refine zj_get 37 rfl rfl h1.2.2.2.2.2.1.1 rfl ?_
      refine zj_aload_n 38 rfl rfl rfl ?_
      refine zj_get 39 rfl rfl h1.1 rfl ?_
      refine zj_get 40 rfl rfl h1.2.1.1 rfl ?_
      refine zj_iload 41 rfl rfl rfl ?_
      refine zn_aald 42 (k) rfl rfl h1.2.1.2.1 (by decide) rfl (by omega) (by decide) rfl ?_
      refine zj_iconst 43 (0) rfl rfl (by decide) ?_
      refine zj_iconst 44 (0) rfl rfl (by decide) ?_
      refine zj_iconst 45 (0) rfl rfl (by decide) ?_
      refine zj_cvvX 46 rfl rfl lk_7_76 ckPi_takeWorld (kTake h1 ok2 hs1.1 k (by omega) 0 (by decide) 0 0 (by decide) (by decide)) rfl h1.2.2.2.2.2.2.1.1 rfl rfl rfl (fun s1 hP1 => ?_)
      obtain ⟨z2, P2, h2, t2⟩ := hP1
      refine zj_aload_n 47 rfl rfl rfl ?_
      refine zj_get 48 rfl rfl h2.1 rfl ?_
      refine zj_aload_n 49 rfl rfl rfl ?_
      refine zj_get 50 rfl rfl h2.1 rfl ?_
      refine zj_get 51 rfl rfl h2.2.1.1 rfl ?_
      refine zj_iconst 52 (0) rfl rfl (by decide) ?_
      refine zn_aald 53 (0) rfl rfl h2.2.1.2.2.2.2.1 (by decide) rfl (by omega) (by decide) rfl ?_
      refine zj_aload_n 54 rfl rfl rfl ?_
      refine zj_get 55 rfl rfl h2.1 rfl ?_
      refine zj_get 56 rfl rfl h2.2.1.1 rfl ?_
      refine zj_iconst 57 (0) rfl rfl (by decide) ?_
      refine zj_cvxX 58 rfl rfl lk_7_235 ckEy_linesOf (kLines h2 ok hs1 0 (by decide) t2) rfl h2.2.2.2.2.2.1.1 rfl rfl rfl (fun s1 hP1 => ?_)
      obtain ⟨z3, Y3, h3⟩ := hP1
      refine zj_istore 59 rfl rfl ?_
      refine zj_iload 60 rfl rfl rfl ?_
      refine zj_iload 61 rfl rfl rfl ?_
      refine zj_iand 62 rfl rfl ?_
      refine zj_istore 63 rfl rfl ?_
      refine zj_iload 64 rfl rfl rfl ?_
      refine zj_iload 65 rfl rfl rfl ?_
      refine zj_ior 66 rfl rfl ?_
      refine zj_istore 67 rfl rfl ?_
      refine zn_iinc 68 (k) rfl rfl rfl rfl ?_
      refine zj_goto 69 rfl rfl ?_
      have e : (pTh W (fun w => mD r ml mk 0 w 0 0) (k + 1)) = (((pTh W (fun w => mD r ml mk 0 w 0 0) k)).1 &&& mD r ml mk 0 k 0 0, ((pTh W (fun w => mD r ml mk 0 w 0 0) k)).2 ||| mD r ml mk 0 k 0 0) := if_pos (zo_n0.mp c63)
      have e1 : ((pTh W (fun w => mD r ml mk 0 w 0 0) (k + 1))).1 = ((pTh W (fun w => mD r ml mk 0 w 0 0) k)).1 &&& mD r ml mk 0 k 0 0 := by rw [e]
      have e2 : ((pTh W (fun w => mD r ml mk 0 w 0 0) (k + 1))).2 = ((pTh W (fun w => mD r ml mk 0 w 0 0) k)).2 ||| mD r ml mk 0 k 0 0 := by rw [e]
      have hh := fun o => ih (m - 1) (by omega) (k + 1) _ _ o (by omega) ((hz.trans z2).trans z3) h3 (hd.trans ⟨rfl, rfl, rfl, rfl, rfl⟩) n
      rw [e1, e2] at hh
      exact hh _
theorem k_Dthere (h : dAt σ c K) {no ns nh ng : Nat} {ml mk : Nat → Nat} {r : Nat → Int32} (ok : mOk r no ns nh ng ml mk) (ok2 : mOk2 r ns) (hs : sRl K.n r ml) (sheets what : Int32) (hv : zr sheets (2 ^ ns : Nat)) (hw : zr what 2) : zX E YD_there 8 [.ref c, .int sheets, .int what] (σ) (some (.int (mTh (mWd r ns nh ng ml mk sheets) what (fun w => mD r ml mk 0 w 0 0)))) (dQ σ c K) := by
  refine zX.of oD_there (by decide +kernel) rfl rfl (fun n => ?_)
  refine zj_aload_n 0 rfl rfl rfl ?_
  refine zj_iload_n 1 rfl rfl rfl ?_
  refine zj_cvx 2 rfl rfl lk_7_221 ckD_areSheets (k_DareSheets h ok hs _) rfl h.1 rfl rfl rfl ?_
  refine zj_if_eq 3 rfl rfl (fun c5 => ?_) (fun c5 => ?_)
  · exact absurd hv (zo_0.mp c5)
  · refine zj_iload_n 4 rfl rfl rfl ?_
    refine zj_iconst 5 (2) rfl rfl (by decide) ?_
    refine zj_csx 6 rfl rfl lk_7_42 ckD_isOneOf (k_isOneOf _ _) rfl rfl rfl rfl ?_
    refine zj_if_ne 7 rfl rfl (fun c13 => ?_) (fun c13 => ?_)
    · refine zj_aload_n 10 rfl rfl rfl ?_
      refine zj_get 11 rfl rfl h.1 rfl ?_
      refine zj_get 12 rfl rfl h.2.1.1 rfl ?_
      refine zj_aload_n 13 rfl rfl rfl ?_
      refine zj_iload_n 14 rfl rfl rfl ?_
      refine zj_cvxX 15 rfl rfl lk_7_225 ckD_guessesAllowing (k_DguessesA h ok ok2 hs sheets) rfl h.1 rfl rfl rfl (fun s1 hP1 => ?_)
      obtain ⟨z1, K1, h1, d1⟩ := hP1
      have hs1 : sRl K1.n r ml := by rw [d1.1]; exact hs
      refine zj_cvx 16 rfl rfl lk_7_228 ckGu_worldsIn (k_worldsIn h1.2.1.2.2.2.2.2.2.2 ng (kN3 ok hs1).1 (kN3 ok hs1).2 _) rfl h1.2.1.2.2.2.2.2.2.2.1 rfl rfl rfl ?_
      rw [gu_wd hs1.2.2.2.2.1 (kN3 ok hs1).2]
      refine zj_istore_n 17 rfl rfl ?_
      refine zj_iload_n 18 rfl rfl rfl ?_
      refine zj_if_ne 19 rfl rfl (fun c36 => ?_) (fun c36 => ?_)
      · refine zj_ldc 22 (268435455) rfl rfl (by decide) ?_
        refine zj_istore 23 rfl rfl ?_
        refine zj_iconst 24 (0) rfl rfl (by decide) ?_
        refine zj_istore 25 rfl rfl ?_
        refine zj_iconst 26 (0) rfl rfl (by decide) ?_
        refine zj_istore 27 rfl rfl ?_
        have e : mTh (mWd r ns nh ng ml mk sheets) what (fun w => mD r ml mk 0 w 0 0) = _ := if_neg c36
        rw [e]
        exact l_Dthere h ok ok2 hs sheets what _ 4 0 _ K1 _ (by omega) z1 h1 d1 n
      · refine zj_iconst 20 (-1) rfl rfl (by decide) ?_
        refine zj_ireturn 21 rfl rfl rfl ?_
        exact ⟨zrt (if_pos c36).symm, rfl, z1, K1, h1, d1⟩
    · exact absurd hw (zo_0.mp c13)
theorem k_Dthere_bad (h : dAt σ c K) {no ns nh ng : Nat} {ml mk : Nat → Nat} {r : Nat → Int32} (ok : mOk r no ns nh ng ml mk) (hs : sRl K.n r ml) (sheets what : Int32) (hv : ¬ (zr sheets (2 ^ ns : Nat) ∧ zr what 2)) : zM E YD_there 8 [.ref c, .int sheets, .int what] (σ) (some (.int (-2))) (σ) := by
  refine zM.of oD_there (by decide +kernel) rfl rfl (fun n => ?_)
  refine zj_aload_n 0 rfl rfl rfl ?_
  refine zj_iload_n 1 rfl rfl rfl ?_
  refine zj_cvx 2 rfl rfl lk_7_221 ckD_areSheets (k_DareSheets h ok hs _) rfl h.1 rfl rfl rfl ?_
  refine zj_if_eq 3 rfl rfl (fun c5 => ?_) (fun c5 => ?_)
  · refine zj_bipush 8 (-2) rfl rfl (by decide) ?_
    refine zj_ireturn 9 rfl rfl rfl ?_
    exact ⟨rfl, rfl, rfl⟩
  · refine zj_iload_n 4 rfl rfl rfl ?_
    refine zj_iconst 5 (2) rfl rfl (by decide) ?_
    refine zj_csx 6 rfl rfl lk_7_42 ckD_isOneOf (k_isOneOf _ _) rfl rfl rfl rfl ?_
    refine zj_if_ne 7 rfl rfl (fun c13 => ?_) (fun c13 => ?_)
    · exact absurd ⟨zo_n0.mp c5, zo_n0.mp c13⟩ hv
    · refine zj_bipush 8 (-2) rfl rfl (by decide) ?_
      refine zj_ireturn 9 rfl rfl rfl ?_
      exact ⟨rfl, rfl, rfl⟩
end
