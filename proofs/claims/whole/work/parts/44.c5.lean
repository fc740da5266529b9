/-! the component: the book, read -/
def pLA (sl : Nat → Int32) (sheets : Int32) : Nat → Int32
  | 0 => 268435455
  | s + 1 => pLA sl sheets s &&& (if zhas sheets (nI s) then sl s else -1)
def pMn (c : Nat → Int32) (src own : Int32) : Nat → Int32
  | 0 => own
  | t + 1 => if zhas src (nI t) then (if c t < pMn c src own t then c t else pMn c src own t) else pMn c src own t
def pTk (c : Nat → Int32) (src own least : Int32) : Nat → Int32
  | 0 => if own = least then 65536 else 0
  | t + 1 => pTk c src own least t ||| (if zhas src (nI t) ∧ c t = least then 1 <<< (nI t &&& 31) else 0)
theorem zor0 (x : Int32) : x ||| 0 = x := by simp
theorem zandm1 (x : Int32) : x &&& (-1) = x := by simp
section
variable {E : zE} {σ : zH} {a : Nat} {M : zMo}
theorem l_sheetsShown (h : zkbAt σ a M) (nh : Nat) (h3 : M.2.2.1 2 = nI nh) (hb3 : nh ≤ 60) (o night : Int32) : ∀ (m : Nat) (k : Nat), (k + m = nh) → ∀ n, zB E YBk_sheetsShown 1 n (some (.int (pSB (M.1 5) (M.1 6) (M.1 7) o night  nh))) (σ) (σ) 5 [some (.ref a), some (.int o), some (.int night), some (.int (pSB (M.1 5) (M.1 6) (M.1 7) o night  k)), some (.int (nI k))] [] := by
  intro m
  induction m using Nat.strongRecOn with
  | ind m ih =>
  intro k hk n
  refine zj_iload 4 rfl rfl rfl ?_
  refine zj_aload_n 5 rfl rfl rfl ?_
  refine zj_get 6 rfl rfl h.1 rfl ?_
  refine zn_icmp_ge 7 (k) (nh) rfl rfl rfl h3 (by omega) (by omega) (fun c11 => ?_) (fun c11 => ?_)
  · refine zj_iload_n 31 rfl rfl rfl ?_
    refine zj_ireturn 32 rfl rfl rfl ?_
    obtain rfl : k = nh := by omega
    exact ⟨rfl, rfl, rfl⟩
  · refine zj_aload_n 8 rfl rfl rfl ?_
    refine zj_get 9 rfl rfl h.1 rfl ?_
    refine zj_iload 10 rfl rfl rfl ?_
    refine zn_iald 11 (k) rfl rfl h.2.2.2.2.2.2.2.1 rfl (by omega) (by decide) ?_
    refine zj_iload_n 12 rfl rfl rfl ?_
    refine zj_icmp_ne 13 rfl rfl (fun c22 => ?_) (fun c22 => ?_)
    · refine zn_iinc 29 (k) rfl rfl rfl rfl ?_
      refine zj_goto 30 rfl rfl ?_
      have e : pSB (M.1 5) (M.1 6) (M.1 7) o night  (k + 1) = pSB (M.1 5) (M.1 6) (M.1 7) o night  k ||| (if M.1 6 k = o ∧ M.1 7 k ≤ night then 1 <<< (M.1 5 k &&& 31) else 0) := rfl
      have hh := ih (m - 1) (by omega) (k + 1) (by omega) n
      rw [e, if_neg (fun g => absurd g.1 (by simpa using c22)), zor0] at hh
      exact hh
    · refine zj_aload_n 14 rfl rfl rfl ?_
      refine zj_get 15 rfl rfl h.1 rfl ?_
      refine zj_iload 16 rfl rfl rfl ?_
      refine zn_iald 17 (k) rfl rfl h.2.2.2.2.2.2.2.2 rfl (by omega) (by decide) ?_
      refine zj_iload_n 18 rfl rfl rfl ?_
      refine zj_icmp_gt 19 rfl rfl (fun c33 => ?_) (fun c33 => ?_)
      · refine zn_iinc 29 (k) rfl rfl rfl rfl ?_
        refine zj_goto 30 rfl rfl ?_
        have e : pSB (M.1 5) (M.1 6) (M.1 7) o night  (k + 1) = pSB (M.1 5) (M.1 6) (M.1 7) o night  k ||| (if M.1 6 k = o ∧ M.1 7 k ≤ night then 1 <<< (M.1 5 k &&& 31) else 0) := rfl
        have hh := ih (m - 1) (by omega) (k + 1) (by omega) n
        rw [e, if_neg (fun g => absurd g.2 (Int32.not_le.mpr c33)), zor0] at hh
        exact hh
      · refine zj_iload_n 20 rfl rfl rfl ?_
        refine zj_iconst 21 (1) rfl rfl (by decide) ?_
        refine zj_aload_n 22 rfl rfl rfl ?_
        refine zj_get 23 rfl rfl h.1 rfl ?_
        refine zj_iload 24 rfl rfl rfl ?_
        refine zn_iald 25 (k) rfl rfl h.2.2.2.2.2.2.1 rfl (by omega) (by decide) ?_
        refine zj_ishl 26 rfl rfl ?_
        refine zj_ior 27 rfl rfl ?_
        refine zj_istore_n 28 rfl rfl ?_
        refine zn_iinc 29 (k) rfl rfl rfl rfl ?_
        refine zj_goto 30 rfl rfl ?_
        have e : pSB (M.1 5) (M.1 6) (M.1 7) o night  (k + 1) = pSB (M.1 5) (M.1 6) (M.1 7) o night  k ||| (if M.1 6 k = o ∧ M.1 7 k ≤ night then 1 <<< (M.1 5 k &&& 31) else 0) := rfl
        have hh := ih (m - 1) (by omega) (k + 1) (by omega) n
        rw [e, if_pos ⟨Decidable.of_not_not (by simpa using c22), Int32.not_lt.mp c33⟩] at hh
        exact hh
theorem k_sheetsShown (h : zkbAt σ a M) (nh : Nat) (h3 : M.2.2.1 2 = nI nh) (hb3 : nh ≤ 60) (o night : Int32) : zM E YBk_sheetsShown 1 [.ref a, .int o, .int night] (σ) (some (.int (pSB (M.1 5) (M.1 6) (M.1 7) o night  nh))) (σ) := by
  refine zM.of oBk_sheetsShown (by decide +kernel) rfl rfl (fun n => ?_)
  refine zj_iconst 0 (0) rfl rfl (by decide) ?_
  refine zj_istore_n 1 rfl rfl ?_
  refine zj_iconst 2 (0) rfl rfl (by decide) ?_
  refine zj_istore 3 rfl rfl ?_
  exact l_sheetsShown h nh h3 hb3 o night nh 0 (by omega) n
theorem l_linesInSome (h : zkbAt σ a M) (ns : Nat) (h2 : M.2.2.1 1 = nI ns) (hb2 : ns ≤ 16) (sheets : Int32) : ∀ (m : Nat) (k : Nat), (k + m = ns) → ∀ n, zB E YBk_linesInSome 2 n (some (.int (pLS (M.1 4) sheets  ns))) (σ) (σ) 4 [some (.ref a), some (.int sheets), some (.int (pLS (M.1 4) sheets  k)), some (.int (nI k))] [] := by
  intro m
  induction m using Nat.strongRecOn with
  | ind m ih =>
  intro k hk n
  refine zj_iload_n 4 rfl rfl rfl ?_
  refine zj_aload_n 5 rfl rfl rfl ?_
  refine zj_get 6 rfl rfl h.1 rfl ?_
  refine zn_icmp_ge 7 (k) (ns) rfl rfl rfl h2 (by omega) (by omega) (fun c9 => ?_) (fun c9 => ?_)
  · refine zj_iload_n 21 rfl rfl rfl ?_
    refine zj_ireturn 22 rfl rfl rfl ?_
    obtain rfl : k = ns := by omega
    exact ⟨rfl, rfl, rfl⟩
  · refine zj_iload_n 8 rfl rfl rfl ?_
    refine zj_iload_n 9 rfl rfl rfl ?_
    refine zj_csx 10 rfl rfl lk_0_61 ckD_has (k_has _ _) rfl rfl rfl rfl ?_
    refine zj_if_eq 11 rfl rfl (fun c17 => ?_) (fun c17 => ?_)
    · refine zn_iinc 19 (k) rfl rfl rfl rfl ?_
      refine zj_goto 20 rfl rfl ?_
      have e : pLS (M.1 4) sheets  (k + 1) = pLS (M.1 4) sheets  k ||| (if zhas sheets (nI k) then M.1 4 k else 0) := rfl
      have hh := ih (m - 1) (by omega) (k + 1) (by omega) n
      rw [e, if_neg (zo_0.mp c17), zor0] at hh
      exact hh
    · refine zj_iload_n 12 rfl rfl rfl ?_
      refine zj_aload_n 13 rfl rfl rfl ?_
      refine zj_get 14 rfl rfl h.1 rfl ?_
      refine zj_iload_n 15 rfl rfl rfl ?_
      refine zn_iald 16 (k) rfl rfl h.2.2.2.2.2.1 rfl (by omega) (by decide) ?_
      refine zj_ior 17 rfl rfl ?_
      refine zj_istore_n 18 rfl rfl ?_
      refine zn_iinc 19 (k) rfl rfl rfl rfl ?_
      refine zj_goto 20 rfl rfl ?_
      have e : pLS (M.1 4) sheets  (k + 1) = pLS (M.1 4) sheets  k ||| (if zhas sheets (nI k) then M.1 4 k else 0) := rfl
      have hh := ih (m - 1) (by omega) (k + 1) (by omega) n
      rw [e, if_pos (zo_n0.mp c17)] at hh
      exact hh
theorem k_linesInSome (h : zkbAt σ a M) (ns : Nat) (h2 : M.2.2.1 1 = nI ns) (hb2 : ns ≤ 16) (sheets : Int32) : zM E YBk_linesInSome 2 [.ref a, .int sheets] (σ) (some (.int (pLS (M.1 4) sheets  ns))) (σ) := by
  refine zM.of oBk_linesInSome (by decide +kernel) rfl rfl (fun n => ?_)
  refine zj_iconst 0 (0) rfl rfl (by decide) ?_
  refine zj_istore_n 1 rfl rfl ?_
  refine zj_iconst 2 (0) rfl rfl (by decide) ?_
  refine zj_istore_n 3 rfl rfl ?_
  exact l_linesInSome h ns h2 hb2 sheets ns 0 (by omega) n
theorem l_linesInAll (h : zkbAt σ a M) (ns : Nat) (h2 : M.2.2.1 1 = nI ns) (hb2 : ns ≤ 16) (sheets : Int32) : ∀ (m : Nat) (k : Nat), (k + m = ns) → ∀ n, zB E YBk_linesInAll 2 n (some (.int (pLA (M.1 4) sheets  ns))) (σ) (σ) 5 [some (.ref a), some (.int sheets), some (.int (pLA (M.1 4) sheets  k)), some (.int (nI k))] [] := by
  intro m
  induction m using Nat.strongRecOn with
  | ind m ih =>
  intro k hk n
  refine zj_iload_n 4 rfl rfl rfl ?_
  refine zj_aload_n 5 rfl rfl rfl ?_
  refine zj_get 6 rfl rfl h.1 rfl ?_
  refine zn_icmp_ge 7 (k) (ns) rfl rfl rfl h2 (by omega) (by omega) (fun c10 => ?_) (fun c10 => ?_)
  · refine zj_iload_n 21 rfl rfl rfl ?_
    refine zj_ireturn 22 rfl rfl rfl ?_
    obtain rfl : k = ns := by omega
    exact ⟨rfl, rfl, rfl⟩
  · refine zj_iload_n 8 rfl rfl rfl ?_
    refine zj_iload_n 9 rfl rfl rfl ?_
    refine zj_csx 10 rfl rfl lk_0_61 ckD_has (k_has _ _) rfl rfl rfl rfl ?_
    refine zj_if_eq 11 rfl rfl (fun c18 => ?_) (fun c18 => ?_)
    · refine zn_iinc 19 (k) rfl rfl rfl rfl ?_
      refine zj_goto 20 rfl rfl ?_
      have e : pLA (M.1 4) sheets  (k + 1) = pLA (M.1 4) sheets  k &&& (if zhas sheets (nI k) then M.1 4 k else -1) := rfl
      have hh := ih (m - 1) (by omega) (k + 1) (by omega) n
      rw [e, if_neg (zo_0.mp c18), zandm1] at hh
      exact hh
    · refine zj_iload_n 12 rfl rfl rfl ?_
      refine zj_aload_n 13 rfl rfl rfl ?_
      refine zj_get 14 rfl rfl h.1 rfl ?_
      refine zj_iload_n 15 rfl rfl rfl ?_
      refine zn_iald 16 (k) rfl rfl h.2.2.2.2.2.1 rfl (by omega) (by decide) ?_
      refine zj_iand 17 rfl rfl ?_
      refine zj_istore_n 18 rfl rfl ?_
      refine zn_iinc 19 (k) rfl rfl rfl rfl ?_
      refine zj_goto 20 rfl rfl ?_
      have e : pLA (M.1 4) sheets  (k + 1) = pLA (M.1 4) sheets  k &&& (if zhas sheets (nI k) then M.1 4 k else -1) := rfl
      have hh := ih (m - 1) (by omega) (k + 1) (by omega) n
      rw [e, if_pos (zo_n0.mp c18)] at hh
      exact hh
theorem k_linesInAll (h : zkbAt σ a M) (ns : Nat) (h2 : M.2.2.1 1 = nI ns) (hb2 : ns ≤ 16) (sheets : Int32) : zM E YBk_linesInAll 2 [.ref a, .int sheets] (σ) (some (.int (pLA (M.1 4) sheets  ns))) (σ) := by
  refine zM.of oBk_linesInAll (by decide +kernel) rfl rfl (fun n => ?_)
  refine zj_ldc 0 (268435455) rfl rfl (by decide) ?_
  refine zj_istore_n 1 rfl rfl ?_
  refine zj_iconst 2 (0) rfl rfl (by decide) ?_
  refine zj_istore_n 3 rfl rfl ?_
  exact l_linesInAll h ns h2 hb2 sheets ns 0 (by omega) n
theorem k_linesShown (h : zkbAt σ a M) (ns : Nat) (h2 : M.2.2.1 1 = nI ns) (hb2 : ns ≤ 16) (nh : Nat) (h3 : M.2.2.1 2 = nI nh) (hb3 : nh ≤ 60) (o night : Int32) : zM E YBk_linesShown 3 [.ref a, .int o, .int night] (σ) (some (.int (pLS (M.1 4) (pSB (M.1 5) (M.1 6) (M.1 7) o night nh) ns))) (σ) := by
  refine zM.of oBk_linesShown (by decide +kernel) rfl rfl (fun n => ?_)
  refine zj_aload_n 0 rfl rfl rfl ?_
  refine zj_aload_n 1 rfl rfl rfl ?_
  refine zj_iload_n 2 rfl rfl rfl ?_
  refine zj_iload_n 3 rfl rfl rfl ?_
  refine zj_cvx 4 rfl rfl lk_0_50 ckBk_sheetsShown (k_sheetsShown h nh h3 hb3 _ _) rfl h.1 rfl rfl rfl ?_
  refine zj_cvx 5 rfl rfl lk_0_54 ckBk_linesInSome (k_linesInSome h ns h2 hb2 _) rfl h.1 rfl rfl rfl ?_
  refine zj_ireturn 6 rfl rfl rfl ?_
  exact ⟨rfl, rfl, rfl⟩
theorem k_linesShownBefore (h : zkbAt σ a M) (ns : Nat) (h2 : M.2.2.1 1 = nI ns) (hb2 : ns ≤ 16) (nh : Nat) (h3 : M.2.2.1 2 = nI nh) (hb3 : nh ≤ 60) (s : Nat) (hs : s < 16) : zM E YBk_linesShownBefore 4 [.ref a, .int (nI s)] (σ) (some (.int (pLS (M.1 4) (pSB (M.1 5) (M.1 6) (M.1 7) (M.1 2 s) (M.1 3 s) nh) ns))) (σ) := by
  refine zM.of oBk_linesShownBefore (by decide +kernel) rfl rfl (fun n => ?_)
  refine zj_aload_n 0 rfl rfl rfl ?_
  refine zj_aload_n 1 rfl rfl rfl ?_
  refine zj_get 2 rfl rfl h.1 rfl ?_
  refine zj_iload_n 3 rfl rfl rfl ?_
  refine zn_iald 4 (s) rfl rfl h.2.2.2.1 rfl (by omega) (by decide) ?_
  refine zj_aload_n 5 rfl rfl rfl ?_
  refine zj_get 6 rfl rfl h.1 rfl ?_
  refine zj_iload_n 7 rfl rfl rfl ?_
  refine zn_iald 8 (s) rfl rfl h.2.2.2.2.1 rfl (by omega) (by decide) ?_
  refine zj_cvx 9 rfl rfl lk_0_58 ckBk_linesShown (k_linesShown h ns h2 hb2 nh h3 hb3 _ _) rfl h.1 rfl rfl rfl ?_
  refine zj_ireturn 10 rfl rfl rfl ?_
  exact ⟨rfl, rfl, rfl⟩
theorem k_costOfOwn (h : zkbAt σ a M) (s : Nat) (hs : s < 16) (own : Int32) : zM E YBk_costOfOwn 2 [.ref a, .int (nI s), .int own] (σ) (some (.int (jBits (M.1 4 s) + own))) (σ) := by
  refine zM.of oBk_costOfOwn (by decide +kernel) rfl rfl (fun n => ?_)
  refine zj_aload_n 0 rfl rfl rfl ?_
  refine zj_get 1 rfl rfl h.1 rfl ?_
  refine zj_iload_n 2 rfl rfl rfl ?_
  refine zn_iald 3 (s) rfl rfl h.2.2.2.2.2.1 rfl (by omega) (by decide) ?_
  refine zj_csx 4 rfl rfl lk_0_65 ckJ_bitCount (k_bitCount _) rfl rfl rfl rfl ?_
  refine zj_iload_n 5 rfl rfl rfl ?_
  refine zj_iadd 6 rfl rfl ?_
  refine zj_ireturn 7 rfl rfl rfl ?_
  exact ⟨rfl, rfl, rfl⟩
theorem k_costOfTaking (h : zkbAt σ a M) (s t : Nat) (hs : s < 16) (ht : t < 16) : zM E YBk_costOfTaking 2 [.ref a, .int (nI s), .int (nI t)] (σ) (some (.int (jBits (M.1 4 s ^^^ M.1 4 t)))) (σ) := by
  refine zM.of oBk_costOfTaking (by decide +kernel) rfl rfl (fun n => ?_)
  refine zj_aload_n 0 rfl rfl rfl ?_
  refine zj_get 1 rfl rfl h.1 rfl ?_
  refine zj_iload_n 2 rfl rfl rfl ?_
  refine zn_iald 3 (s) rfl rfl h.2.2.2.2.2.1 rfl (by omega) (by decide) ?_
  refine zj_aload_n 4 rfl rfl rfl ?_
  refine zj_get 5 rfl rfl h.1 rfl ?_
  refine zj_iload_n 6 rfl rfl rfl ?_
  refine zn_iald 7 (t) rfl rfl h.2.2.2.2.2.1 rfl (by omega) (by decide) ?_
  refine zj_ixor 8 rfl rfl ?_
  refine zj_csx 9 rfl rfl lk_0_65 ckJ_bitCount (k_bitCount _) rfl rfl rfl rfl ?_
  refine zj_ireturn 10 rfl rfl rfl ?_
  exact ⟨rfl, rfl, rfl⟩
theorem l_leastCost (h : zkbAt σ a M) (nh : Nat) (h3 : M.2.2.1 2 = nI nh) (hb3 : nh ≤ 60) (s : Nat) (hs : s < 16) (own src ow : Int32) : ∀ (m : Nat) (t : Nat), (t + m = s) → ∀ n, zB E YBk_leastCost 3 n (some (.int (pMn (fun t => jBits (M.1 4 s ^^^ M.1 4 t)) src ow  s))) (σ) (σ) 28 [some (.ref a), some (.int (nI s)), some (.int own), some (.int src), some (.int (pMn (fun t => jBits (M.1 4 s ^^^ M.1 4 t)) src ow  t)), some (.int (nI t))] [] := by
  intro m
  induction m using Nat.strongRecOn with
  | ind m ih =>
  intro t ht n
  refine zj_iload 18 rfl rfl rfl ?_
  refine zj_iload_n 19 rfl rfl rfl ?_
  refine zn_icmp_ge 20 (t) (s) rfl rfl rfl rfl (by omega) (by omega) (fun c31 => ?_) (fun c31 => ?_)
  · refine zj_iload 34 rfl rfl rfl ?_
    refine zj_ireturn 35 rfl rfl rfl ?_
    obtain rfl : t = s := by omega
    exact ⟨rfl, rfl, rfl⟩
  · refine zj_iload_n 21 rfl rfl rfl ?_
    refine zj_iload 22 rfl rfl rfl ?_
    refine zj_csx 23 rfl rfl lk_0_61 ckD_has (k_has _ _) rfl rfl rfl rfl ?_
    refine zj_if_eq 24 rfl rfl (fun c40 => ?_) (fun c40 => ?_)
    · refine zn_iinc 32 (t) rfl rfl rfl rfl ?_
      refine zj_goto 33 rfl rfl ?_
      have e : pMn (fun t => jBits (M.1 4 s ^^^ M.1 4 t)) src ow  (t + 1) = if zhas src (nI t) then (if (fun t => jBits (M.1 4 s ^^^ M.1 4 t)) t < pMn (fun t => jBits (M.1 4 s ^^^ M.1 4 t)) src ow  t then (fun t => jBits (M.1 4 s ^^^ M.1 4 t)) t else pMn (fun t => jBits (M.1 4 s ^^^ M.1 4 t)) src ow  t) else pMn (fun t => jBits (M.1 4 s ^^^ M.1 4 t)) src ow  t := rfl
      have hh := ih (m - 1) (by omega) (t + 1) (by omega) n
      rw [e, if_neg (zo_0.mp c40)] at hh
      exact hh
    · refine zj_iload 25 rfl rfl rfl ?_
      refine zj_aload_n 26 rfl rfl rfl ?_
      refine zj_iload_n 27 rfl rfl rfl ?_
      refine zj_iload 28 rfl rfl rfl ?_
      refine zj_cvx 29 rfl rfl lk_0_73 ckBk_costOfTaking (k_costOfTaking h s _ hs (by omega)) rfl h.1 rfl rfl rfl ?_
      refine zj_mmin 30 rfl rfl lk_0_76 rfl rfl rfl rfl ?_
      refine zj_istore 31 rfl rfl ?_
      refine zn_iinc 32 (t) rfl rfl rfl rfl ?_
      refine zj_goto 33 rfl rfl ?_
      have e : pMn (fun t => jBits (M.1 4 s ^^^ M.1 4 t)) src ow  (t + 1) = if zhas src (nI t) then (if (fun t => jBits (M.1 4 s ^^^ M.1 4 t)) t < pMn (fun t => jBits (M.1 4 s ^^^ M.1 4 t)) src ow  t then (fun t => jBits (M.1 4 s ^^^ M.1 4 t)) t else pMn (fun t => jBits (M.1 4 s ^^^ M.1 4 t)) src ow  t) else pMn (fun t => jBits (M.1 4 s ^^^ M.1 4 t)) src ow  t := rfl
      have hh := ih (m - 1) (by omega) (t + 1) (by omega) n
      rw [e, if_pos (zo_n0.mp c40)] at hh
      exact hh
theorem k_leastCost (h : zkbAt σ a M) (nh : Nat) (h3 : M.2.2.1 2 = nI nh) (hb3 : nh ≤ 60) (s : Nat) (hs : s < 16) (own : Int32) : zM E YBk_leastCost 3 [.ref a, .int (nI s), .int own] (σ) (some (.int (pMn (fun t => jBits (M.1 4 s ^^^ M.1 4 t)) (pSB (M.1 5) (M.1 6) (M.1 7) (M.1 2 s) (M.1 3 s) nh) (jBits (M.1 4 s) + own) s))) (σ) := by
  refine zM.of oBk_leastCost (by decide +kernel) rfl rfl (fun n => ?_)
  refine zj_aload_n 0 rfl rfl rfl ?_
  refine zj_aload_n 1 rfl rfl rfl ?_
  refine zj_get 2 rfl rfl h.1 rfl ?_
  refine zj_iload_n 3 rfl rfl rfl ?_
  refine zn_iald 4 (s) rfl rfl h.2.2.2.1 rfl (by omega) (by decide) ?_
  refine zj_aload_n 5 rfl rfl rfl ?_
  refine zj_get 6 rfl rfl h.1 rfl ?_
  refine zj_iload_n 7 rfl rfl rfl ?_
  refine zn_iald 8 (s) rfl rfl h.2.2.2.2.1 rfl (by omega) (by decide) ?_
  refine zj_cvx 9 rfl rfl lk_0_50 ckBk_sheetsShown (k_sheetsShown h nh h3 hb3 _ _) rfl h.1 rfl rfl rfl ?_
  refine zj_istore_n 10 rfl rfl ?_
  refine zj_aload_n 11 rfl rfl rfl ?_
  refine zj_iload_n 12 rfl rfl rfl ?_
  refine zj_iload_n 13 rfl rfl rfl ?_
  refine zj_cvx 14 rfl rfl lk_0_70 ckBk_costOfOwn (k_costOfOwn h s hs _) rfl h.1 rfl rfl rfl ?_
  refine zj_istore 15 rfl rfl ?_
  refine zj_iconst 16 (0) rfl rfl (by decide) ?_
  refine zj_istore 17 rfl rfl ?_
  exact l_leastCost h nh h3 hb3 s hs own _ _ s 0 (by omega) n
theorem l_mayHaveTaken (h : zkbAt σ a M) (nh : Nat) (h3 : M.2.2.1 2 = nI nh) (hb3 : nh ≤ 60) (s : Nat) (hs : s < 16) (own src ow least : Int32) : ∀ (m : Nat) (t : Nat), (t + m = s) → ∀ n, zB E YBk_mayHaveTaken 4 n (some (.int (pTk (fun t => jBits (M.1 4 s ^^^ M.1 4 t)) src ow least  s))) (σ) (σ) 47 [some (.ref a), some (.int (nI s)), some (.int own), some (.int src), some (.int least), some (.int (pTk (fun t => jBits (M.1 4 s ^^^ M.1 4 t)) src ow least  t)), some (.int (nI t))] [] := by
  intro m
  induction m using Nat.strongRecOn with
  | ind m ih =>
  intro t ht n
  refine zj_iload 28 rfl rfl rfl ?_
  refine zj_iload_n 29 rfl rfl rfl ?_
  refine zn_icmp_ge 30 (t) (s) rfl rfl rfl rfl (by omega) (by omega) (fun c50 => ?_) (fun c50 => ?_)
  · refine zj_iload 49 rfl rfl rfl ?_
    refine zj_ireturn 50 rfl rfl rfl ?_
    obtain rfl : t = s := by omega
    exact ⟨rfl, rfl, rfl⟩
  · refine zj_iload_n 31 rfl rfl rfl ?_
    refine zj_iload 32 rfl rfl rfl ?_
    refine zj_csx 33 rfl rfl lk_0_61 ckD_has (k_has _ _) rfl rfl rfl rfl ?_
    refine zj_if_eq 34 rfl rfl (fun c59 => ?_) (fun c59 => ?_)
    · refine zn_iinc 47 (t) rfl rfl rfl rfl ?_
      refine zj_goto 48 rfl rfl ?_
      have e : pTk (fun t => jBits (M.1 4 s ^^^ M.1 4 t)) src ow least  (t + 1) = pTk (fun t => jBits (M.1 4 s ^^^ M.1 4 t)) src ow least  t ||| (if zhas src (nI t) ∧ (fun t => jBits (M.1 4 s ^^^ M.1 4 t)) t = least then 1 <<< (nI t &&& 31) else 0) := rfl
      have hh := ih (m - 1) (by omega) (t + 1) (by omega) n
      rw [e, if_neg (fun g => zo_0.mp c59 g.1), zor0] at hh
      exact hh
    · refine zj_aload_n 35 rfl rfl rfl ?_
      refine zj_iload_n 36 rfl rfl rfl ?_
      refine zj_iload 37 rfl rfl rfl ?_
      refine zj_cvx 38 rfl rfl lk_0_73 ckBk_costOfTaking (k_costOfTaking h s _ hs (by omega)) rfl h.1 rfl rfl rfl ?_
      refine zj_iload 39 rfl rfl rfl ?_
      refine zj_icmp_ne 40 rfl rfl (fun c71 => ?_) (fun c71 => ?_)
      · refine zn_iinc 47 (t) rfl rfl rfl rfl ?_
        refine zj_goto 48 rfl rfl ?_
        have e : pTk (fun t => jBits (M.1 4 s ^^^ M.1 4 t)) src ow least  (t + 1) = pTk (fun t => jBits (M.1 4 s ^^^ M.1 4 t)) src ow least  t ||| (if zhas src (nI t) ∧ (fun t => jBits (M.1 4 s ^^^ M.1 4 t)) t = least then 1 <<< (nI t &&& 31) else 0) := rfl
        have hh := ih (m - 1) (by omega) (t + 1) (by omega) n
        rw [e, if_neg (fun g => absurd g.2 (by simpa using c71)), zor0] at hh
        exact hh
      · refine zj_iload 41 rfl rfl rfl ?_
        refine zj_iconst 42 (1) rfl rfl (by decide) ?_
        refine zj_iload 43 rfl rfl rfl ?_
        refine zj_ishl 44 rfl rfl ?_
        refine zj_ior 45 rfl rfl ?_
        refine zj_istore 46 rfl rfl ?_
        refine zn_iinc 47 (t) rfl rfl rfl rfl ?_
        refine zj_goto 48 rfl rfl ?_
        have e : pTk (fun t => jBits (M.1 4 s ^^^ M.1 4 t)) src ow least  (t + 1) = pTk (fun t => jBits (M.1 4 s ^^^ M.1 4 t)) src ow least  t ||| (if zhas src (nI t) ∧ (fun t => jBits (M.1 4 s ^^^ M.1 4 t)) t = least then 1 <<< (nI t &&& 31) else 0) := rfl
        have hh := ih (m - 1) (by omega) (t + 1) (by omega) n
        rw [e, if_pos ⟨zo_n0.mp c59, Decidable.of_not_not (by simpa using c71)⟩] at hh
        exact hh
theorem k_mayHaveTaken (h : zkbAt σ a M) (nh : Nat) (h3 : M.2.2.1 2 = nI nh) (hb3 : nh ≤ 60) (s : Nat) (hs : s < 16) (own : Int32) : zM E YBk_mayHaveTaken 4 [.ref a, .int (nI s), .int own] (σ) (some (.int (pTk (fun t => jBits (M.1 4 s ^^^ M.1 4 t)) (pSB (M.1 5) (M.1 6) (M.1 7) (M.1 2 s) (M.1 3 s) nh) (jBits (M.1 4 s) + own) (pMn (fun t => jBits (M.1 4 s ^^^ M.1 4 t)) (pSB (M.1 5) (M.1 6) (M.1 7) (M.1 2 s) (M.1 3 s) nh) (jBits (M.1 4 s) + own) s) s))) (σ) := by
  refine zM.of oBk_mayHaveTaken (by decide +kernel) rfl rfl (fun n => ?_)
  refine zj_aload_n 0 rfl rfl rfl ?_
  refine zj_aload_n 1 rfl rfl rfl ?_
  refine zj_get 2 rfl rfl h.1 rfl ?_
  refine zj_iload_n 3 rfl rfl rfl ?_
  refine zn_iald 4 (s) rfl rfl h.2.2.2.1 rfl (by omega) (by decide) ?_
  refine zj_aload_n 5 rfl rfl rfl ?_
  refine zj_get 6 rfl rfl h.1 rfl ?_
  refine zj_iload_n 7 rfl rfl rfl ?_
  refine zn_iald 8 (s) rfl rfl h.2.2.2.2.1 rfl (by omega) (by decide) ?_
  refine zj_cvx 9 rfl rfl lk_0_50 ckBk_sheetsShown (k_sheetsShown h nh h3 hb3 _ _) rfl h.1 rfl rfl rfl ?_
  refine zj_istore_n 10 rfl rfl ?_
  refine zj_aload_n 11 rfl rfl rfl ?_
  refine zj_iload_n 12 rfl rfl rfl ?_
  refine zj_iload_n 13 rfl rfl rfl ?_
  refine zj_cvx 14 rfl rfl lk_0_81 ckBk_leastCost (k_leastCost h nh h3 hb3 s hs own) rfl h.1 rfl rfl rfl ?_
  refine zj_istore 15 rfl rfl ?_
  refine zj_aload_n 16 rfl rfl rfl ?_
  refine zj_iload_n 17 rfl rfl rfl ?_
  refine zj_iload_n 18 rfl rfl rfl ?_
  refine zj_cvx 19 rfl rfl lk_0_70 ckBk_costOfOwn (k_costOfOwn h s hs _) rfl h.1 rfl rfl rfl ?_
  refine zj_iload 20 rfl rfl rfl ?_
  refine zj_icmp_ne 21 rfl rfl (fun c33 => ?_) (fun c33 => ?_)
  · refine zj_iconst 24 (0) rfl rfl (by decide) ?_
    refine zj_istore 25 rfl rfl ?_
    refine zj_iconst 26 (0) rfl rfl (by decide) ?_
    refine zj_istore 27 rfl rfl ?_
    have e : pTk (fun t => jBits (M.1 4 s ^^^ M.1 4 t)) (pSB (M.1 5) (M.1 6) (M.1 7) (M.1 2 s) (M.1 3 s) nh) (jBits (M.1 4 s) + own) (pMn (fun t => jBits (M.1 4 s ^^^ M.1 4 t)) (pSB (M.1 5) (M.1 6) (M.1 7) (M.1 2 s) (M.1 3 s) nh) (jBits (M.1 4 s) + own) s) 0 = 0 := if_neg (by simpa using c33)
    have hh := l_mayHaveTaken (E := E) h nh h3 hb3 s hs own (pSB (M.1 5) (M.1 6) (M.1 7) (M.1 2 s) (M.1 3 s) nh) (jBits (M.1 4 s) + own) (pMn (fun t => jBits (M.1 4 s ^^^ M.1 4 t)) (pSB (M.1 5) (M.1 6) (M.1 7) (M.1 2 s) (M.1 3 s) nh) (jBits (M.1 4 s) + own) s) s 0 (by omega) n
    rw [e] at hh
    exact hh
  · refine zj_ldc 22 (65536) rfl rfl (by decide) ?_
    refine zj_goto 23 rfl rfl ?_
    refine zj_istore 25 rfl rfl ?_
    refine zj_iconst 26 (0) rfl rfl (by decide) ?_
    refine zj_istore 27 rfl rfl ?_
    have e : pTk (fun t => jBits (M.1 4 s ^^^ M.1 4 t)) (pSB (M.1 5) (M.1 6) (M.1 7) (M.1 2 s) (M.1 3 s) nh) (jBits (M.1 4 s) + own) (pMn (fun t => jBits (M.1 4 s ^^^ M.1 4 t)) (pSB (M.1 5) (M.1 6) (M.1 7) (M.1 2 s) (M.1 3 s) nh) (jBits (M.1 4 s) + own) s) 0 = 65536 := if_pos (Decidable.of_not_not (by simpa using c33))
    have hh := l_mayHaveTaken (E := E) h nh h3 hb3 s hs own (pSB (M.1 5) (M.1 6) (M.1 7) (M.1 2 s) (M.1 3 s) nh) (jBits (M.1 4 s) + own) (pMn (fun t => jBits (M.1 4 s ^^^ M.1 4 t)) (pSB (M.1 5) (M.1 6) (M.1 7) (M.1 2 s) (M.1 3 s) nh) (jBits (M.1 4 s) + own) s) s 0 (by omega) n
    rw [e] at hh
    exact hh
end
