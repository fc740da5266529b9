/-! the component: the book, written; guesses -/
def pOc (mh : Nat → Int32) : Nat → Nat → Nat
  | 0, s => s
  | f + 1, s => if mh s &&& 65536 = 0 then pOc mh f (pLo (mh s) s s) else s
theorem pLo_le (b : Int32) (n : Nat) : ∀ f, pLo b n f ≤ n
  | 0 => Nat.le_refl _
  | f + 1 => by
    simp only [pLo]
    split
    · omega
    · exact pLo_le b n f
def pM2 (f g : Nat → Int32) (h : Int64) : Nat → Int64
  | 0 => h
  | k + 1 => 31 * (31 * pM2 f g h k + (f k).toInt64) + (g k).toInt64
def pM3 (f g e : Nat → Int32) (h : Int64) : Nat → Int64
  | 0 => h
  | k + 1 => 31 * (31 * (31 * pM3 f g e h k + (f k).toInt64) + (g k).toInt64) + (e k).toInt64
theorem k_copyRow' {E : zE} {σ τ : zH} (a0 b N : Nat) (f g : Nat → Int32) (hs0 : σ a0 = some (.inl (0, N, .inl f))) (hs : σ b = some (.inl (0, N, .inl g))) (hN : N < 2 ^ 31) (hp : zup σ b (.inl (0, N, .inl (va_cpy f g 0 0 N))) = τ) : zM E YD_copyRow 2 [.ref a0, .ref b] σ none τ := by
  subst hp; exact k_copyRow a0 b N f g hs0 hs hN
/-- the rows of N below their lengths, and its counts -/
def zeqb (lens : List Nat) (k : Nat) (N M : zMo) : Prop := (∀ i ln, lens[i]? = some ln → ∀ j, j < ln → M.1 i j = N.1 i j) ∧ ∀ i, i < k → M.2.2.1 i = N.2.2.1 i
theorem zcpy_lt {f g : Nat → Int32} {n j : Nat} (h : j < n) : va_cpy f g 0 0 n j = f j := by
  unfold va_cpy; rw [if_pos (by omega)]; simp
section
variable {E : zE} {σ : zH} {a : Nat} {M : zMo}
theorem l_Boldest (h : zkbAt σ a M) (nh : Nat) (h3 : M.2.2.1 2 = nI nh) (hb3 : nh ≤ 60) (s0 : Nat) (own : Int32) : ∀ (m : Nat) (i s : Nat) (o5 : Option Value), (i + m = 16) → (s < 16) → ∀ n, zB E YBk_oldest 5 n (some (.int (nI (pOc (fun s => pTk (fun t => jBits (M.1 4 s ^^^ M.1 4 t)) (pSB (M.1 5) (M.1 6) (M.1 7) (M.1 2 s) (M.1 3 s) nh) (jBits (M.1 4 s) + own) (pMn (fun t => jBits (M.1 4 s ^^^ M.1 4 t)) (pSB (M.1 5) (M.1 6) (M.1 7) (M.1 2 s) (M.1 3 s) nh) (jBits (M.1 4 s) + own) s) s) m s)))) (σ) (σ) 5 [some (.ref a), some (.int (nI s0)), some (.int own), some (.int (nI s)), some (.int (nI i)), o5] [] := by
  intro m
  induction m using Nat.strongRecOn with
  | ind m ih =>
  intro i s o5 hi hs n
  refine zj_iload 4 rfl rfl rfl ?_
  refine zj_bipush 5 (16) rfl rfl (by decide) ?_
  refine zn_icmp_ge 6 (i) (16) rfl rfl rfl rfl (by omega) (by omega) (fun c9 => ?_) (fun c9 => ?_)
  · refine zj_iload_n 24 rfl rfl rfl ?_
    refine zj_ireturn 25 rfl rfl rfl ?_
    obtain rfl : m = 0 := by omega
    exact ⟨rfl, rfl, rfl⟩
  · refine zj_aload_n 7 rfl rfl rfl ?_
    refine zj_iload_n 8 rfl rfl rfl ?_
    refine zj_iload_n 9 rfl rfl rfl ?_
    refine zj_cvx 10 rfl rfl lk_0_85 ckBk_mayHaveTaken (k_mayHaveTaken h nh h3 hb3 s hs own) rfl h.1 rfl rfl rfl ?_
    refine zj_istore 11 rfl rfl ?_
    refine zj_iload 12 rfl rfl rfl ?_
    refine zj_ldc 13 (65536) rfl rfl (by decide) ?_
    refine zj_iand 14 rfl rfl ?_
    refine zj_if_eq 15 rfl rfl (fun c25 => ?_) (fun c25 => ?_)
    · refine zj_iload 18 rfl rfl rfl ?_
      refine zj_iload_n 19 rfl rfl rfl ?_
      refine zj_csx 20 rfl rfl lk_0_88 ckBk_leastOf (k_leastOf _ s (by omega)) rfl rfl rfl rfl ?_
      refine zj_istore_n 21 rfl rfl ?_
      refine zn_iinc 22 (i) rfl rfl rfl rfl ?_
      refine zj_goto 23 rfl rfl ?_
      obtain ⟨m, rfl⟩ : ∃ m', m = m' + 1 := ⟨m - 1, by omega⟩
      have e : pOc (fun s => pTk (fun t => jBits (M.1 4 s ^^^ M.1 4 t)) (pSB (M.1 5) (M.1 6) (M.1 7) (M.1 2 s) (M.1 3 s) nh) (jBits (M.1 4 s) + own) (pMn (fun t => jBits (M.1 4 s ^^^ M.1 4 t)) (pSB (M.1 5) (M.1 6) (M.1 7) (M.1 2 s) (M.1 3 s) nh) (jBits (M.1 4 s) + own) s) s) (m + 1) s = pOc (fun s => pTk (fun t => jBits (M.1 4 s ^^^ M.1 4 t)) (pSB (M.1 5) (M.1 6) (M.1 7) (M.1 2 s) (M.1 3 s) nh) (jBits (M.1 4 s) + own) (pMn (fun t => jBits (M.1 4 s ^^^ M.1 4 t)) (pSB (M.1 5) (M.1 6) (M.1 7) (M.1 2 s) (M.1 3 s) nh) (jBits (M.1 4 s) + own) s) s) m (pLo ((fun s => pTk (fun t => jBits (M.1 4 s ^^^ M.1 4 t)) (pSB (M.1 5) (M.1 6) (M.1 7) (M.1 2 s) (M.1 3 s) nh) (jBits (M.1 4 s) + own) (pMn (fun t => jBits (M.1 4 s ^^^ M.1 4 t)) (pSB (M.1 5) (M.1 6) (M.1 7) (M.1 2 s) (M.1 3 s) nh) (jBits (M.1 4 s) + own) s) s) s) s s) := if_pos c25
      rw [e]
      exact ih m (by omega) (i + 1) (pLo ((fun s => pTk (fun t => jBits (M.1 4 s ^^^ M.1 4 t)) (pSB (M.1 5) (M.1 6) (M.1 7) (M.1 2 s) (M.1 3 s) nh) (jBits (M.1 4 s) + own) (pMn (fun t => jBits (M.1 4 s ^^^ M.1 4 t)) (pSB (M.1 5) (M.1 6) (M.1 7) (M.1 2 s) (M.1 3 s) nh) (jBits (M.1 4 s) + own) s) s) s) s s) _ (by omega) (Nat.lt_of_le_of_lt (pLo_le _ _ _) hs) n
    · refine zj_iload_n 16 rfl rfl rfl ?_
      refine zj_ireturn 17 rfl rfl rfl ?_
      obtain ⟨m, rfl⟩ : ∃ m', m = m' + 1 := ⟨m - 1, by omega⟩
      have e : pOc (fun s => pTk (fun t => jBits (M.1 4 s ^^^ M.1 4 t)) (pSB (M.1 5) (M.1 6) (M.1 7) (M.1 2 s) (M.1 3 s) nh) (jBits (M.1 4 s) + own) (pMn (fun t => jBits (M.1 4 s ^^^ M.1 4 t)) (pSB (M.1 5) (M.1 6) (M.1 7) (M.1 2 s) (M.1 3 s) nh) (jBits (M.1 4 s) + own) s) s) (m + 1) s = s := if_neg c25
      rw [e]
      exact ⟨rfl, rfl, rfl⟩
theorem k_Boldest (h : zkbAt σ a M) (nh : Nat) (h3 : M.2.2.1 2 = nI nh) (hb3 : nh ≤ 60) (s : Nat) (hs : s < 16) (own : Int32) : zM E YBk_oldest 5 [.ref a, .int (nI s), .int own] (σ) (some (.int (nI (pOc (fun s => pTk (fun t => jBits (M.1 4 s ^^^ M.1 4 t)) (pSB (M.1 5) (M.1 6) (M.1 7) (M.1 2 s) (M.1 3 s) nh) (jBits (M.1 4 s) + own) (pMn (fun t => jBits (M.1 4 s ^^^ M.1 4 t)) (pSB (M.1 5) (M.1 6) (M.1 7) (M.1 2 s) (M.1 3 s) nh) (jBits (M.1 4 s) + own) s) s) 16 s)))) (σ) := by
  refine zM.of oBk_oldest (by decide +kernel) rfl rfl (fun n => ?_)
  refine zj_iload_n 0 rfl rfl rfl ?_
  refine zj_istore_n 1 rfl rfl ?_
  refine zj_iconst 2 (0) rfl rfl (by decide) ?_
  refine zj_istore 3 rfl rfl ?_
  exact l_Boldest h nh h3 hb3 s own 16 0 s _ (by omega) hs n
theorem k_weightOfSheet (h : zkbAt σ a M) (s : Nat) (hs : s < 16) (hz : zr (M.1 2 s) 8) : zM E YBk_weightOfSheet 1 [.ref a, .int (nI s)] (σ) (some (.int (M.1 1 (M.1 2 s).toNatClampNeg))) (σ) := by
  obtain ⟨o, ho, he⟩ := zr_nI (n := 8) hz
  have hc : (M.1 2 s).toNatClampNeg = o := by rw [he]; exact nI_clamp (by omega)
  refine zM.of oBk_weightOfSheet (by decide +kernel) rfl rfl (fun n => ?_)
  refine zj_aload_n 0 rfl rfl rfl ?_
  refine zj_get 1 rfl rfl h.1 rfl ?_
  refine zj_aload_n 2 rfl rfl rfl ?_
  refine zj_get 3 rfl rfl h.1 rfl ?_
  refine zj_iload_n 4 rfl rfl rfl ?_
  refine zn_iald 5 (s) rfl rfl h.2.2.2.1 rfl (by omega) (by decide) ?_
  refine zn_iald 6 (o) rfl rfl h.2.2.1 he (by omega) (by decide) ?_
  refine zj_ireturn 7 rfl rfl rfl ?_
  exact ⟨zrt (by rw [hc]), rfl, rfl⟩
theorem l_wAll (h : zkbAt σ a M) (ns : Nat) (h2 : M.2.2.1 1 = nI ns) (hb2 : ns ≤ 16) (hz : ∀ s, s < ns → zr (M.1 2 s) 8) : ∀ (m : Nat) (k : Nat), (k + m = ns) → ∀ n, zB E YBk_weightOfAllSheets 2 n (some (.int (pWA (fun s => M.1 1 (M.1 2 s).toNatClampNeg) ns))) (σ) (σ) 4 [some (.ref a), some (.int (pWA (fun s => M.1 1 (M.1 2 s).toNatClampNeg) k)), some (.int (nI k))] [] := by
  intro m
  induction m using Nat.strongRecOn with
  | ind m ih =>
  intro k hk n
  refine zj_iload_n 4 rfl rfl rfl ?_
  refine zj_aload_n 5 rfl rfl rfl ?_
  refine zj_get 6 rfl rfl h.1 rfl ?_
  refine zn_icmp_ge 7 (k) (ns) rfl rfl rfl h2 (by omega) (by omega) (fun c9 => ?_) (fun c9 => ?_)
  · refine zj_iload_n 16 rfl rfl rfl ?_
    refine zj_ireturn 17 rfl rfl rfl ?_
    obtain rfl : k = ns := by omega
    exact ⟨rfl, rfl, rfl⟩
  · refine zj_iload_n 8 rfl rfl rfl ?_
    refine zj_aload_n 9 rfl rfl rfl ?_
    refine zj_iload_n 10 rfl rfl rfl ?_
    refine zj_cvx 11 rfl rfl lk_0_91 ckBk_weightOfSheet (k_weightOfSheet h _ (by omega) (hz _ (by omega))) rfl h.1 rfl rfl rfl ?_
    refine zj_iadd 12 rfl rfl ?_
    refine zj_istore_n 13 rfl rfl ?_
    refine zn_iinc 14 (k) rfl rfl rfl rfl ?_
    refine zj_goto 15 rfl rfl ?_
    exact ih (m - 1) (by omega) (k + 1) (by omega) n
theorem k_wAll (h : zkbAt σ a M) (ns : Nat) (h2 : M.2.2.1 1 = nI ns) (hb2 : ns ≤ 16) (hz : ∀ s, s < ns → zr (M.1 2 s) 8) : zM E YBk_weightOfAllSheets 2 [.ref a] (σ) (some (.int (pWA (fun s => M.1 1 (M.1 2 s).toNatClampNeg) ns))) (σ) := by
  refine zM.of oBk_weightOfAllSheets (by decide +kernel) rfl rfl (fun n => ?_)
  refine zj_iconst 0 (0) rfl rfl (by decide) ?_
  refine zj_istore_n 1 rfl rfl ?_
  refine zj_iconst 2 (0) rfl rfl (by decide) ?_
  refine zj_istore_n 3 rfl rfl ?_
  exact l_wAll h ns h2 hb2 hz ns 0 (by omega) n
theorem l_wLine (h : zkbAt σ a M) (ns : Nat) (h2 : M.2.2.1 1 = nI ns) (hb2 : ns ≤ 16) (hz : ∀ s, s < ns → zr (M.1 2 s) 8) (line : Int32) : ∀ (m : Nat) (k : Nat), (k + m = ns) → ∀ n, zB E YBk_weightOfLine 2 n (some (.int (pW (M.1 4) (fun s => M.1 1 (M.1 2 s).toNatClampNeg) line  ns))) (σ) (σ) 4 [some (.ref a), some (.int line), some (.int (pW (M.1 4) (fun s => M.1 1 (M.1 2 s).toNatClampNeg) line  k)), some (.int (nI k))] [] := by
  intro m
  induction m using Nat.strongRecOn with
  | ind m ih =>
  intro k hk n
  refine zj_iload_n 4 rfl rfl rfl ?_
  refine zj_aload_n 5 rfl rfl rfl ?_
  refine zj_get 6 rfl rfl h.1 rfl ?_
  refine zn_icmp_ge 7 (k) (ns) rfl rfl rfl h2 (by omega) (by omega) (fun c9 => ?_) (fun c9 => ?_)
  · refine zj_iload_n 28 rfl rfl rfl ?_
    refine zj_ireturn 29 rfl rfl rfl ?_
    obtain rfl : k = ns := by omega
    exact ⟨rfl, rfl, rfl⟩
  · refine zj_iload_n 8 rfl rfl rfl ?_
    refine zj_aload_n 9 rfl rfl rfl ?_
    refine zj_get 10 rfl rfl h.1 rfl ?_
    refine zj_iload_n 11 rfl rfl rfl ?_
    refine zn_iald 12 (k) rfl rfl h.2.2.2.2.2.1 rfl (by omega) (by decide) ?_
    refine zj_iload_n 13 rfl rfl rfl ?_
    refine zj_csx 14 rfl rfl lk_0_61 ckD_has (k_has _ _) rfl rfl rfl rfl ?_
    refine zj_if_eq 15 rfl rfl (fun c23 => ?_) (fun c23 => ?_)
    · refine zj_aload_n 20 rfl rfl rfl ?_
      refine zj_iload_n 21 rfl rfl rfl ?_
      refine zj_cvx 22 rfl rfl lk_0_91 ckBk_weightOfSheet (k_weightOfSheet h _ (by omega) (hz _ (by omega))) rfl h.1 rfl rfl rfl ?_
      refine zj_ineg 23 rfl rfl ?_
      refine zj_iadd 24 rfl rfl ?_
      refine zj_istore_n 25 rfl rfl ?_
      refine zn_iinc 26 (k) rfl rfl rfl rfl ?_
      refine zj_goto 27 rfl rfl ?_
      have e : pW (M.1 4) (fun s => M.1 1 (M.1 2 s).toNatClampNeg) line  (k + 1) = pW (M.1 4) (fun s => M.1 1 (M.1 2 s).toNatClampNeg) line  k + (if zhas (M.1 4 k) line then (fun s => M.1 1 (M.1 2 s).toNatClampNeg) k else -((fun s => M.1 1 (M.1 2 s).toNatClampNeg) k)) := rfl
      have hh := ih (m - 1) (by omega) (k + 1) (by omega) n
      rw [e, if_neg (zo_0.mp c23)] at hh
      exact hh
    · refine zj_aload_n 16 rfl rfl rfl ?_
      refine zj_iload_n 17 rfl rfl rfl ?_
      refine zj_cvx 18 rfl rfl lk_0_91 ckBk_weightOfSheet (k_weightOfSheet h _ (by omega) (hz _ (by omega))) rfl h.1 rfl rfl rfl ?_
      refine zj_goto 19 rfl rfl ?_
      refine zj_iadd 24 rfl rfl ?_
      refine zj_istore_n 25 rfl rfl ?_
      refine zn_iinc 26 (k) rfl rfl rfl rfl ?_
      refine zj_goto 27 rfl rfl ?_
      have e : pW (M.1 4) (fun s => M.1 1 (M.1 2 s).toNatClampNeg) line  (k + 1) = pW (M.1 4) (fun s => M.1 1 (M.1 2 s).toNatClampNeg) line  k + (if zhas (M.1 4 k) line then (fun s => M.1 1 (M.1 2 s).toNatClampNeg) k else -((fun s => M.1 1 (M.1 2 s).toNatClampNeg) k)) := rfl
      have hh := ih (m - 1) (by omega) (k + 1) (by omega) n
      rw [e, if_pos (zo_n0.mp c23)] at hh
      exact hh
theorem k_wLine (h : zkbAt σ a M) (ns : Nat) (h2 : M.2.2.1 1 = nI ns) (hb2 : ns ≤ 16) (hz : ∀ s, s < ns → zr (M.1 2 s) 8) (line : Int32) : zM E YBk_weightOfLine 2 [.ref a, .int line] (σ) (some (.int (pW (M.1 4) (fun s => M.1 1 (M.1 2 s).toNatClampNeg) line  ns))) (σ) := by
  refine zM.of oBk_weightOfLine (by decide +kernel) rfl rfl (fun n => ?_)
  refine zj_iconst 0 (0) rfl rfl (by decide) ?_
  refine zj_istore_n 1 rfl rfl ?_
  refine zj_iconst 2 (0) rfl rfl (by decide) ?_
  refine zj_istore_n 3 rfl rfl ?_
  exact l_wLine h ns h2 hb2 hz line ns 0 (by omega) n
theorem l_wAbove0 (h : zkbAt σ a M) (ns : Nat) (h2 : M.2.2.1 1 = nI ns) (hb2 : ns ≤ 16) (hz : ∀ s, s < ns → zr (M.1 2 s) 8) : ∀ (m : Nat) (k : Nat) (o5 : Option Value), (k + m = 28) → ∀ n, zB E YBk_linesWeighedAbove 3 n (some (.int (pWB (fun k => pW (M.1 4) (fun s => M.1 1 (M.1 2 s).toNatClampNeg) (nI k) ns) (pWA (fun s => M.1 1 (M.1 2 s).toNatClampNeg) ns) 0  28))) (σ) (σ) 10 [some (.ref a), some (.int 0), some (.int (pWA (fun s => M.1 1 (M.1 2 s).toNatClampNeg) ns)), some (.int (pWB (fun k => pW (M.1 4) (fun s => M.1 1 (M.1 2 s).toNatClampNeg) (nI k) ns) (pWA (fun s => M.1 1 (M.1 2 s).toNatClampNeg) ns) 0  k)), some (.int (nI k)), o5] [] := by
  intro m
  induction m using Nat.strongRecOn with
  | ind m ih =>
  intro k o5 hk n
  refine zj_iload 7 rfl rfl rfl ?_
  refine zj_bipush 8 (28) rfl rfl (by decide) ?_
  refine zn_icmp_ge 9 (k) (28) rfl rfl rfl rfl (by omega) (by omega) (fun c14 => ?_) (fun c14 => ?_)
  · refine zj_iload_n 31 rfl rfl rfl ?_
    refine zj_ireturn 32 rfl rfl rfl ?_
    obtain rfl : k = 28 := by omega
    exact ⟨rfl, rfl, rfl⟩
  · refine zj_aload_n 10 rfl rfl rfl ?_
    refine zj_iload 11 rfl rfl rfl ?_
    refine zj_cvx 12 rfl rfl lk_0_98 ckBk_weightOfLine (k_wLine h ns h2 hb2 hz _) rfl h.1 rfl rfl rfl ?_
    refine zj_istore 13 rfl rfl ?_
    refine zj_iload 14 rfl rfl rfl ?_
    refine zj_if_le 15 rfl rfl (fun c27 => ?_) (fun c27 => ?_)
    · refine zn_iinc 29 (k) rfl rfl rfl rfl ?_
      refine zj_goto 30 rfl rfl ?_
      have e : pWB (fun k => pW (M.1 4) (fun s => M.1 1 (M.1 2 s).toNatClampNeg) (nI k) ns) (pWA (fun s => M.1 1 (M.1 2 s).toNatClampNeg) ns) 0  (k + 1) = pWB (fun k => pW (M.1 4) (fun s => M.1 1 (M.1 2 s).toNatClampNeg) (nI k) ns) (pWA (fun s => M.1 1 (M.1 2 s).toNatClampNeg) ns) 0  k ||| (if 0 < pW (M.1 4) (fun s => M.1 1 (M.1 2 s).toNatClampNeg) (nI k) ns ∧ ((0 : Nat) = 0 ∨ pWA (fun s => M.1 1 (M.1 2 s).toNatClampNeg) ns ≤ 2 * pW (M.1 4) (fun s => M.1 1 (M.1 2 s).toNatClampNeg) (nI k) ns) then 1 <<< (nI k &&& 31) else 0) := rfl
      have hh := fun o => ih (m - 1) (by omega) (k + 1) o (by omega) n
      rw [e] at hh
      first
        | exact absurd c31 (by decide)
        | (rw [if_pos ⟨Int32.not_le.mp c27, Or.inl rfl⟩] at hh; exact hh _)
        | (rw [if_pos ⟨Int32.not_le.mp c27, Or.inr (Int32.not_lt.mp c39)⟩] at hh; exact hh _)
        | (rw [if_neg (fun g => absurd g.1 (Int32.not_lt.mpr c27)), zor0] at hh; exact hh _)
        | (rw [if_neg (fun g => g.2.elim (fun z => absurd z (by decide)) (fun z => absurd z (Int32.not_le.mpr c39))), zor0] at hh; exact hh _)
    · refine zj_iload_n 16 rfl rfl rfl ?_
      refine zj_if_eq 17 rfl rfl (fun c31 => ?_) (fun c31 => ?_)
      · refine zj_iload_n 23 rfl rfl rfl ?_
        refine zj_iconst 24 (1) rfl rfl (by decide) ?_
        refine zj_iload 25 rfl rfl rfl ?_
        refine zj_ishl 26 rfl rfl ?_
        refine zj_ior 27 rfl rfl ?_
        refine zj_istore_n 28 rfl rfl ?_
        refine zn_iinc 29 (k) rfl rfl rfl rfl ?_
        refine zj_goto 30 rfl rfl ?_
        have e : pWB (fun k => pW (M.1 4) (fun s => M.1 1 (M.1 2 s).toNatClampNeg) (nI k) ns) (pWA (fun s => M.1 1 (M.1 2 s).toNatClampNeg) ns) 0  (k + 1) = pWB (fun k => pW (M.1 4) (fun s => M.1 1 (M.1 2 s).toNatClampNeg) (nI k) ns) (pWA (fun s => M.1 1 (M.1 2 s).toNatClampNeg) ns) 0  k ||| (if 0 < pW (M.1 4) (fun s => M.1 1 (M.1 2 s).toNatClampNeg) (nI k) ns ∧ ((0 : Nat) = 0 ∨ pWA (fun s => M.1 1 (M.1 2 s).toNatClampNeg) ns ≤ 2 * pW (M.1 4) (fun s => M.1 1 (M.1 2 s).toNatClampNeg) (nI k) ns) then 1 <<< (nI k &&& 31) else 0) := rfl
        have hh := fun o => ih (m - 1) (by omega) (k + 1) o (by omega) n
        rw [e] at hh
        first
          | exact absurd c31 (by decide)
          | (rw [if_pos ⟨Int32.not_le.mp c27, Or.inl rfl⟩] at hh; exact hh _)
          | (rw [if_pos ⟨Int32.not_le.mp c27, Or.inr (Int32.not_lt.mp c39)⟩] at hh; exact hh _)
          | (rw [if_neg (fun g => absurd g.1 (Int32.not_lt.mpr c27)), zor0] at hh; exact hh _)
          | (rw [if_neg (fun g => g.2.elim (fun z => absurd z (by decide)) (fun z => absurd z (Int32.not_le.mpr c39))), zor0] at hh; exact hh _)
      · refine zj_iconst 18 (2) rfl rfl (by decide) ?_
        refine zj_iload 19 rfl rfl rfl ?_
        refine zj_imul 20 rfl rfl ?_
        refine zj_iload_n 21 rfl rfl rfl ?_
        refine zj_icmp_lt 22 rfl rfl (fun c39 => ?_) (fun c39 => ?_)
        · refine zn_iinc 29 (k) rfl rfl rfl rfl ?_
          refine zj_goto 30 rfl rfl ?_
          have e : pWB (fun k => pW (M.1 4) (fun s => M.1 1 (M.1 2 s).toNatClampNeg) (nI k) ns) (pWA (fun s => M.1 1 (M.1 2 s).toNatClampNeg) ns) 0  (k + 1) = pWB (fun k => pW (M.1 4) (fun s => M.1 1 (M.1 2 s).toNatClampNeg) (nI k) ns) (pWA (fun s => M.1 1 (M.1 2 s).toNatClampNeg) ns) 0  k ||| (if 0 < pW (M.1 4) (fun s => M.1 1 (M.1 2 s).toNatClampNeg) (nI k) ns ∧ ((0 : Nat) = 0 ∨ pWA (fun s => M.1 1 (M.1 2 s).toNatClampNeg) ns ≤ 2 * pW (M.1 4) (fun s => M.1 1 (M.1 2 s).toNatClampNeg) (nI k) ns) then 1 <<< (nI k &&& 31) else 0) := rfl
          have hh := fun o => ih (m - 1) (by omega) (k + 1) o (by omega) n
          rw [e] at hh
          first
            | exact absurd c31 (by decide)
            | (rw [if_pos ⟨Int32.not_le.mp c27, Or.inl rfl⟩] at hh; exact hh _)
            | (rw [if_pos ⟨Int32.not_le.mp c27, Or.inr (Int32.not_lt.mp c39)⟩] at hh; exact hh _)
            | (rw [if_neg (fun g => absurd g.1 (Int32.not_lt.mpr c27)), zor0] at hh; exact hh _)
            | (rw [if_neg (fun g => g.2.elim (fun z => absurd z (by decide)) (fun z => absurd z (Int32.not_le.mpr c39))), zor0] at hh; exact hh _)
        · refine zj_iload_n 23 rfl rfl rfl ?_
          refine zj_iconst 24 (1) rfl rfl (by decide) ?_
          refine zj_iload 25 rfl rfl rfl ?_
          refine zj_ishl 26 rfl rfl ?_
          refine zj_ior 27 rfl rfl ?_
          refine zj_istore_n 28 rfl rfl ?_
          refine zn_iinc 29 (k) rfl rfl rfl rfl ?_
          refine zj_goto 30 rfl rfl ?_
          have e : pWB (fun k => pW (M.1 4) (fun s => M.1 1 (M.1 2 s).toNatClampNeg) (nI k) ns) (pWA (fun s => M.1 1 (M.1 2 s).toNatClampNeg) ns) 0  (k + 1) = pWB (fun k => pW (M.1 4) (fun s => M.1 1 (M.1 2 s).toNatClampNeg) (nI k) ns) (pWA (fun s => M.1 1 (M.1 2 s).toNatClampNeg) ns) 0  k ||| (if 0 < pW (M.1 4) (fun s => M.1 1 (M.1 2 s).toNatClampNeg) (nI k) ns ∧ ((0 : Nat) = 0 ∨ pWA (fun s => M.1 1 (M.1 2 s).toNatClampNeg) ns ≤ 2 * pW (M.1 4) (fun s => M.1 1 (M.1 2 s).toNatClampNeg) (nI k) ns) then 1 <<< (nI k &&& 31) else 0) := rfl
          have hh := fun o => ih (m - 1) (by omega) (k + 1) o (by omega) n
          rw [e] at hh
          first
            | exact absurd c31 (by decide)
            | (rw [if_pos ⟨Int32.not_le.mp c27, Or.inl rfl⟩] at hh; exact hh _)
            | (rw [if_pos ⟨Int32.not_le.mp c27, Or.inr (Int32.not_lt.mp c39)⟩] at hh; exact hh _)
            | (rw [if_neg (fun g => absurd g.1 (Int32.not_lt.mpr c27)), zor0] at hh; exact hh _)
            | (rw [if_neg (fun g => g.2.elim (fun z => absurd z (by decide)) (fun z => absurd z (Int32.not_le.mpr c39))), zor0] at hh; exact hh _)
theorem k_wAbove0 (h : zkbAt σ a M) (ns : Nat) (h2 : M.2.2.1 1 = nI ns) (hb2 : ns ≤ 16) (hz : ∀ s, s < ns → zr (M.1 2 s) 8) : zM E YBk_linesWeighedAbove 3 [.ref a, .int 0] (σ) (some (.int (pWB (fun k => pW (M.1 4) (fun s => M.1 1 (M.1 2 s).toNatClampNeg) (nI k) ns) (pWA (fun s => M.1 1 (M.1 2 s).toNatClampNeg) ns) 0  28))) (σ) := by
  refine zM.of oBk_linesWeighedAbove (by decide +kernel) rfl rfl (fun n => ?_)
  refine zj_aload_n 0 rfl rfl rfl ?_
  refine zj_cvx 1 rfl rfl lk_0_94 ckBk_weightOfAllSheets (k_wAll h ns h2 hb2 hz) rfl h.1 rfl rfl rfl ?_
  refine zj_istore_n 2 rfl rfl ?_
  refine zj_iconst 3 (0) rfl rfl (by decide) ?_
  refine zj_istore_n 4 rfl rfl ?_
  refine zj_iconst 5 (0) rfl rfl (by decide) ?_
  refine zj_istore 6 rfl rfl ?_
  exact l_wAbove0 h ns h2 hb2 hz 28 0 _ (by omega) n
theorem l_wAbove1 (h : zkbAt σ a M) (ns : Nat) (h2 : M.2.2.1 1 = nI ns) (hb2 : ns ≤ 16) (hz : ∀ s, s < ns → zr (M.1 2 s) 8) : ∀ (m : Nat) (k : Nat) (o5 : Option Value), (k + m = 28) → ∀ n, zB E YBk_linesWeighedAbove 3 n (some (.int (pWB (fun k => pW (M.1 4) (fun s => M.1 1 (M.1 2 s).toNatClampNeg) (nI k) ns) (pWA (fun s => M.1 1 (M.1 2 s).toNatClampNeg) ns) 1  28))) (σ) (σ) 10 [some (.ref a), some (.int 1), some (.int (pWA (fun s => M.1 1 (M.1 2 s).toNatClampNeg) ns)), some (.int (pWB (fun k => pW (M.1 4) (fun s => M.1 1 (M.1 2 s).toNatClampNeg) (nI k) ns) (pWA (fun s => M.1 1 (M.1 2 s).toNatClampNeg) ns) 1  k)), some (.int (nI k)), o5] [] := by
  intro m
  induction m using Nat.strongRecOn with
  | ind m ih =>
  intro k o5 hk n
  refine zj_iload 7 rfl rfl rfl ?_
  refine zj_bipush 8 (28) rfl rfl (by decide) ?_
  refine zn_icmp_ge 9 (k) (28) rfl rfl rfl rfl (by omega) (by omega) (fun c14 => ?_) (fun c14 => ?_)
  · refine zj_iload_n 31 rfl rfl rfl ?_
    refine zj_ireturn 32 rfl rfl rfl ?_
    obtain rfl : k = 28 := by omega
    exact ⟨rfl, rfl, rfl⟩
  · refine zj_aload_n 10 rfl rfl rfl ?_
    refine zj_iload 11 rfl rfl rfl ?_
    refine zj_cvx 12 rfl rfl lk_0_98 ckBk_weightOfLine (k_wLine h ns h2 hb2 hz _) rfl h.1 rfl rfl rfl ?_
    refine zj_istore 13 rfl rfl ?_
    refine zj_iload 14 rfl rfl rfl ?_
    refine zj_if_le 15 rfl rfl (fun c27 => ?_) (fun c27 => ?_)
    · refine zn_iinc 29 (k) rfl rfl rfl rfl ?_
      refine zj_goto 30 rfl rfl ?_
      have e : pWB (fun k => pW (M.1 4) (fun s => M.1 1 (M.1 2 s).toNatClampNeg) (nI k) ns) (pWA (fun s => M.1 1 (M.1 2 s).toNatClampNeg) ns) 1  (k + 1) = pWB (fun k => pW (M.1 4) (fun s => M.1 1 (M.1 2 s).toNatClampNeg) (nI k) ns) (pWA (fun s => M.1 1 (M.1 2 s).toNatClampNeg) ns) 1  k ||| (if 0 < pW (M.1 4) (fun s => M.1 1 (M.1 2 s).toNatClampNeg) (nI k) ns ∧ ((1 : Nat) = 0 ∨ pWA (fun s => M.1 1 (M.1 2 s).toNatClampNeg) ns ≤ 2 * pW (M.1 4) (fun s => M.1 1 (M.1 2 s).toNatClampNeg) (nI k) ns) then 1 <<< (nI k &&& 31) else 0) := rfl
      have hh := fun o => ih (m - 1) (by omega) (k + 1) o (by omega) n
      rw [e] at hh
      first
        | exact absurd c31 (by decide)
        | (rw [if_pos ⟨Int32.not_le.mp c27, Or.inl rfl⟩] at hh; exact hh _)
        | (rw [if_pos ⟨Int32.not_le.mp c27, Or.inr (Int32.not_lt.mp c39)⟩] at hh; exact hh _)
        | (rw [if_neg (fun g => absurd g.1 (Int32.not_lt.mpr c27)), zor0] at hh; exact hh _)
        | (rw [if_neg (fun g => g.2.elim (fun z => absurd z (by decide)) (fun z => absurd z (Int32.not_le.mpr c39))), zor0] at hh; exact hh _)
    · refine zj_iload_n 16 rfl rfl rfl ?_
      refine zj_if_eq 17 rfl rfl (fun c31 => ?_) (fun c31 => ?_)
      · refine zj_iload_n 23 rfl rfl rfl ?_
        refine zj_iconst 24 (1) rfl rfl (by decide) ?_
        refine zj_iload 25 rfl rfl rfl ?_
        refine zj_ishl 26 rfl rfl ?_
        refine zj_ior 27 rfl rfl ?_
        refine zj_istore_n 28 rfl rfl ?_
        refine zn_iinc 29 (k) rfl rfl rfl rfl ?_
        refine zj_goto 30 rfl rfl ?_
        have e : pWB (fun k => pW (M.1 4) (fun s => M.1 1 (M.1 2 s).toNatClampNeg) (nI k) ns) (pWA (fun s => M.1 1 (M.1 2 s).toNatClampNeg) ns) 1  (k + 1) = pWB (fun k => pW (M.1 4) (fun s => M.1 1 (M.1 2 s).toNatClampNeg) (nI k) ns) (pWA (fun s => M.1 1 (M.1 2 s).toNatClampNeg) ns) 1  k ||| (if 0 < pW (M.1 4) (fun s => M.1 1 (M.1 2 s).toNatClampNeg) (nI k) ns ∧ ((1 : Nat) = 0 ∨ pWA (fun s => M.1 1 (M.1 2 s).toNatClampNeg) ns ≤ 2 * pW (M.1 4) (fun s => M.1 1 (M.1 2 s).toNatClampNeg) (nI k) ns) then 1 <<< (nI k &&& 31) else 0) := rfl
        have hh := fun o => ih (m - 1) (by omega) (k + 1) o (by omega) n
        rw [e] at hh
        first
          | exact absurd c31 (by decide)
          | (rw [if_pos ⟨Int32.not_le.mp c27, Or.inl rfl⟩] at hh; exact hh _)
          | (rw [if_pos ⟨Int32.not_le.mp c27, Or.inr (Int32.not_lt.mp c39)⟩] at hh; exact hh _)
          | (rw [if_neg (fun g => absurd g.1 (Int32.not_lt.mpr c27)), zor0] at hh; exact hh _)
          | (rw [if_neg (fun g => g.2.elim (fun z => absurd z (by decide)) (fun z => absurd z (Int32.not_le.mpr c39))), zor0] at hh; exact hh _)
      · refine zj_iconst 18 (2) rfl rfl (by decide) ?_
        refine zj_iload 19 rfl rfl rfl ?_
        refine zj_imul 20 rfl rfl ?_
        refine zj_iload_n 21 rfl rfl rfl ?_
        refine zj_icmp_lt 22 rfl rfl (fun c39 => ?_) (fun c39 => ?_)
        · refine zn_iinc 29 (k) rfl rfl rfl rfl ?_
          refine zj_goto 30 rfl rfl ?_
          have e : pWB (fun k => pW (M.1 4) (fun s => M.1 1 (M.1 2 s).toNatClampNeg) (nI k) ns) (pWA (fun s => M.1 1 (M.1 2 s).toNatClampNeg) ns) 1  (k + 1) = pWB (fun k => pW (M.1 4) (fun s => M.1 1 (M.1 2 s).toNatClampNeg) (nI k) ns) (pWA (fun s => M.1 1 (M.1 2 s).toNatClampNeg) ns) 1  k ||| (if 0 < pW (M.1 4) (fun s => M.1 1 (M.1 2 s).toNatClampNeg) (nI k) ns ∧ ((1 : Nat) = 0 ∨ pWA (fun s => M.1 1 (M.1 2 s).toNatClampNeg) ns ≤ 2 * pW (M.1 4) (fun s => M.1 1 (M.1 2 s).toNatClampNeg) (nI k) ns) then 1 <<< (nI k &&& 31) else 0) := rfl
          have hh := fun o => ih (m - 1) (by omega) (k + 1) o (by omega) n
          rw [e] at hh
          first
            | exact absurd c31 (by decide)
            | (rw [if_pos ⟨Int32.not_le.mp c27, Or.inl rfl⟩] at hh; exact hh _)
            | (rw [if_pos ⟨Int32.not_le.mp c27, Or.inr (Int32.not_lt.mp c39)⟩] at hh; exact hh _)
            | (rw [if_neg (fun g => absurd g.1 (Int32.not_lt.mpr c27)), zor0] at hh; exact hh _)
            | (rw [if_neg (fun g => g.2.elim (fun z => absurd z (by decide)) (fun z => absurd z (Int32.not_le.mpr c39))), zor0] at hh; exact hh _)
        · refine zj_iload_n 23 rfl rfl rfl ?_
          refine zj_iconst 24 (1) rfl rfl (by decide) ?_
          refine zj_iload 25 rfl rfl rfl ?_
          refine zj_ishl 26 rfl rfl ?_
          refine zj_ior 27 rfl rfl ?_
          refine zj_istore_n 28 rfl rfl ?_
          refine zn_iinc 29 (k) rfl rfl rfl rfl ?_
          refine zj_goto 30 rfl rfl ?_
          have e : pWB (fun k => pW (M.1 4) (fun s => M.1 1 (M.1 2 s).toNatClampNeg) (nI k) ns) (pWA (fun s => M.1 1 (M.1 2 s).toNatClampNeg) ns) 1  (k + 1) = pWB (fun k => pW (M.1 4) (fun s => M.1 1 (M.1 2 s).toNatClampNeg) (nI k) ns) (pWA (fun s => M.1 1 (M.1 2 s).toNatClampNeg) ns) 1  k ||| (if 0 < pW (M.1 4) (fun s => M.1 1 (M.1 2 s).toNatClampNeg) (nI k) ns ∧ ((1 : Nat) = 0 ∨ pWA (fun s => M.1 1 (M.1 2 s).toNatClampNeg) ns ≤ 2 * pW (M.1 4) (fun s => M.1 1 (M.1 2 s).toNatClampNeg) (nI k) ns) then 1 <<< (nI k &&& 31) else 0) := rfl
          have hh := fun o => ih (m - 1) (by omega) (k + 1) o (by omega) n
          rw [e] at hh
          first
            | exact absurd c31 (by decide)
            | (rw [if_pos ⟨Int32.not_le.mp c27, Or.inl rfl⟩] at hh; exact hh _)
            | (rw [if_pos ⟨Int32.not_le.mp c27, Or.inr (Int32.not_lt.mp c39)⟩] at hh; exact hh _)
            | (rw [if_neg (fun g => absurd g.1 (Int32.not_lt.mpr c27)), zor0] at hh; exact hh _)
            | (rw [if_neg (fun g => g.2.elim (fun z => absurd z (by decide)) (fun z => absurd z (Int32.not_le.mpr c39))), zor0] at hh; exact hh _)
theorem k_wAbove1 (h : zkbAt σ a M) (ns : Nat) (h2 : M.2.2.1 1 = nI ns) (hb2 : ns ≤ 16) (hz : ∀ s, s < ns → zr (M.1 2 s) 8) : zM E YBk_linesWeighedAbove 3 [.ref a, .int 1] (σ) (some (.int (pWB (fun k => pW (M.1 4) (fun s => M.1 1 (M.1 2 s).toNatClampNeg) (nI k) ns) (pWA (fun s => M.1 1 (M.1 2 s).toNatClampNeg) ns) 1  28))) (σ) := by
  refine zM.of oBk_linesWeighedAbove (by decide +kernel) rfl rfl (fun n => ?_)
  refine zj_aload_n 0 rfl rfl rfl ?_
  refine zj_cvx 1 rfl rfl lk_0_94 ckBk_weightOfAllSheets (k_wAll h ns h2 hb2 hz) rfl h.1 rfl rfl rfl ?_
  refine zj_istore_n 2 rfl rfl ?_
  refine zj_iconst 3 (0) rfl rfl (by decide) ?_
  refine zj_istore_n 4 rfl rfl ?_
  refine zj_iconst 5 (0) rfl rfl (by decide) ?_
  refine zj_istore 6 rfl rfl ?_
  exact l_wAbove1 h ns h2 hb2 hz 28 0 _ (by omega) n
theorem k_takesSheet (h : zkbAt σ a M) (no : Nat) (h1 : M.2.2.1 0 = nI no) (hb1 : no ≤ 8) (ns : Nat) (h2 : M.2.2.1 1 = nI ns) (hb2 : ns ≤ 16) (o night : Int32) : zM E YBk_takesSheet 2 [.ref a, .int o, .int night] (σ) (some (.int (zo (zr o no ∧ zr night 1000 ∧ (ns = 0 ∨ M.1 3 (ns - 1) ≤ night))))) (σ) := by
  refine zM.of oBk_takesSheet (by decide +kernel) rfl rfl (fun n => ?_)
  refine zj_iload_n 0 rfl rfl rfl ?_
  refine zj_aload_n 1 rfl rfl rfl ?_
  refine zj_get 2 rfl rfl h.1 rfl ?_
  rw [h1]
  refine zj_csx 3 rfl rfl lk_0_40 ckD_isOneOf (k_isOneOf _ _) rfl rfl rfl rfl ?_
  refine zj_if_eq 4 rfl rfl (fun c8 => ?_) (fun c8 => ?_)
  · refine zj_iconst 23 (0) rfl rfl (by decide) ?_
    refine zj_zreturn 24 rfl rfl rfl rfl ?_
    exact ⟨zrt (zo_f (fun g => zo_0.mp c8 (by rw [nI_toInt (by omega)]; exact g.1))), rfl, rfl⟩
  · refine zj_iload_n 5 rfl rfl rfl ?_
    refine zj_sipush 6 (1000) rfl rfl (by decide) ?_
    refine zj_csx 7 rfl rfl lk_0_40 ckD_isOneOf (k_isOneOf _ _) rfl rfl rfl rfl ?_
    refine zj_if_eq 8 rfl rfl (fun c18 => ?_) (fun c18 => ?_)
    · refine zj_iconst 23 (0) rfl rfl (by decide) ?_
      refine zj_zreturn 24 rfl rfl rfl rfl ?_
      exact ⟨zrt (zo_f (fun g => zo_0.mp c18 g.2.1)), rfl, rfl⟩
    · refine zj_aload_n 9 rfl rfl rfl ?_
      refine zj_get 10 rfl rfl h.1 rfl ?_
      refine zj_if_eq 11 rfl rfl (fun c25 => ?_) (fun c25 => ?_)
      · refine zj_iconst 21 (1) rfl rfl (by decide) ?_
        refine zj_goto 22 rfl rfl ?_
        refine zj_zreturn 24 rfl rfl rfl rfl ?_
        exact ⟨zrt (zo_t ⟨by have q := zo_n0.mp c8; rw [nI_toInt (by omega)] at q; exact q, zo_n0.mp c18, Or.inl ((nI_eq (by omega) (by omega)).mp (show nI ns = nI 0 from h2.symm.trans c25))⟩), rfl, rfl⟩
      · have hns : 1 ≤ ns := by
          rcases Nat.eq_zero_or_pos ns with z | z
          · exact absurd (by rw [h2, z]; rfl) c25
          · exact z
        refine zj_iload_n 12 rfl rfl rfl ?_
        refine zj_aload_n 13 rfl rfl rfl ?_
        refine zj_get 14 rfl rfl h.1 rfl ?_
        refine zj_aload_n 15 rfl rfl rfl ?_
        refine zj_get 16 rfl rfl h.1 rfl ?_
        refine zj_iconst 17 (1) rfl rfl (by decide) ?_
        refine zn_isub 18 (ns) (1) rfl rfl h2 rfl (by omega) ?_
        refine zn_iald 19 (ns - 1) rfl rfl h.2.2.2.2.1 rfl (by omega) (by decide) ?_
        refine zj_icmp_lt 20 rfl rfl (fun c40 => ?_) (fun c40 => ?_)
        · refine zj_iconst 23 (0) rfl rfl (by decide) ?_
          refine zj_zreturn 24 rfl rfl rfl rfl ?_
          exact ⟨zrt (zo_f (fun g => g.2.2.elim (fun z => by omega) (fun z => absurd z (Int32.not_le.mpr c40)))), rfl, rfl⟩
        · refine zj_iconst 21 (1) rfl rfl (by decide) ?_
          refine zj_goto 22 rfl rfl ?_
          refine zj_zreturn 24 rfl rfl rfl rfl ?_
          exact ⟨zrt (zo_t ⟨by have q := zo_n0.mp c8; rw [nI_toInt (by omega)] at q; exact q, zo_n0.mp c18, Or.inr (Int32.not_lt.mp c40)⟩), rfl, rfl⟩
end
