/-! the reference: what is drawn -/
def qVal (cs : List (Int32 × Int64)) (lt : Nat → Int64) : Int64 := match evC lt cs [] with
  | some (v :: _) => v
  | _ => 0
theorem evC_cong {lt lt' : Nat → Int64} (h : ∀ j, j < 6 → lt j = lt' j) : ∀ (cs : List (Int32 × Int64)) (st : List Int64), evC lt cs st = evC lt' cs st
  | [], st => rfl
  | (c, v) :: cs, st => by
    simp only [evC]
    by_cases h1 : c < 7
    · rw [if_pos h1, if_pos h1]
      have e : (if c < 6 then lt c.toNatClampNeg else v) = (if c < 6 then lt' c.toNatClampNeg else v) := by
        by_cases h2 : c < 6
        · rw [if_pos h2, if_pos h2]
          refine h _ ?_
          show c.toInt.toNat < 6
          have := Int32.lt_iff_toInt_lt.mp h2
          have h6 : (6 : Int32).toInt = 6 := rfl
          omega
        · rw [if_neg h2, if_neg h2]
      rw [e]; exact evC_cong h cs _
    · rw [if_neg h1, if_neg h1]
      by_cases h2 : 20 ≤ c
      · rw [if_pos h2, if_pos h2]
        match st with
        | [] => rfl
        | x :: st' => exact evC_cong h cs _
      · rw [if_neg h2, if_neg h2]
        match st with
        | [] => rfl
        | [_] => rfl
        | y :: x :: st' => exact evC_cong h cs _
def zap (x y : Nat) : Nat := if x < y then y - x else x - y
def zfar (p q : Nat) : Nat := if zap (p % 9) (q % 9) < zap (p / 9) (q / 9) then zap (p / 9) (q / 9) else zap (p % 9) (q % 9)
def zmid (p q : Nat) : Nat := 9 * ((p / 9 + q / 9) / 2) + (p % 9 + q % 9) / 2
/-- what the letters are, for a line from p to q; 'see' is what is seen at a cell -/
def mLt (see : Nat → Int32) (g p q : Nat) (kb : Int32) : Nat → Int64 := fun i => match i with
  | 0 => (see p).toInt64
  | 1 => (see q).toInt64
  | 2 => (nI (zfar p q)).toInt64
  | 3 => (see (zmid p q)).toInt64
  | 4 => kb.toInt64
  | 5 => (nI g).toInt64
  | _ => 0
def pA (n : Nat) : Nat := if n < 7 then 0 else if n < 13 then 1 else if n < 18 then 2 else if n < 22 then 3 else if n < 25 then 4 else if n < 27 then 5 else 6
def pNo (a b : Nat) : Nat := 7 * a - a * (a - 1) / 2 + (b - a - 1)
def pBb (n : Nat) : Nat := n - (7 * pA n - pA n * (pA n - 1) / 2) + pA n + 1
theorem pNo_ok : ∀ a, a < 8 → ∀ b, b < 8 → a < b → pNo a b < 28 ∧ pA (pNo a b) = a ∧ pBb (pNo a b) = b ∧ pNo a (b + 1) = pNo a b + 1 := by decide +kernel
theorem pNo_next : ∀ a, a < 7 → pNo a 8 = pNo (a + 1) (a + 2) := by decide +kernel
theorem pNo_end : pNo 7 8 = 28 := by decide +kernel
def pDr (tr : Nat → Bool) : Nat → Int32
  | 0 => 0
  | n + 1 => pDr tr n ||| (if tr n then 1 <<< (nI n &&& 31) else 0)
def mTr (cs : List (Int32 × Int64)) (see : Nat → Int32) (g : Nat) (shown : Int32) (mk : Nat → Nat) (n : Nat) : Bool := decide (qVal cs (mLt see g (mk (pA n)) (mk (pBb n)) ((shown >>> (nI n &&& 31)) &&& 1)) ≠ 0)
theorem mw_u9b {σ : zH} {a : Nat} {X : zMo} {f f' : Nat → Int64} : zup (mw σ a (X.sB 1 f)) (a + 9) (.inl (1, 6, .inr (.inl f'))) = mw σ a (X.sB 1 f') := by
  rw [mw_u9, sB_sB]
theorem sB_comm (M : zMo) (f g h : Nat → Int64) : ((M.sB 2 g).sB 1 f).sB 2 h = (M.sB 2 h).sB 1 f := by
  unfold zMo.sB
  congr 2
  funext j
  unfold va_up
  by_cases h1 : j = 1 <;> by_cases h2 : j = 2 <;> simp_all
section
variable {E : zE} {σ : zH} {a : Nat} {M : zMo}
theorem k_apart (x y : Nat) (hx : x < 1000) (hy : y < 1000) : zM E YM_apart 1 [.int (nI x), .int (nI y)] (σ) (some (.int (nI (zap x y)))) (σ) := by
  refine zM.of oM_apart (by decide +kernel) rfl rfl (fun n => ?_)
  refine zj_iload_n 0 rfl rfl rfl ?_
  refine zj_iload_n 1 rfl rfl rfl ?_
  refine zn_icmp_ge 2 (x) (y) rfl rfl rfl rfl (by omega) (by omega) (fun c2 => ?_) (fun c2 => ?_)
  · refine zj_iload_n 7 rfl rfl rfl ?_
    refine zj_iload_n 8 rfl rfl rfl ?_
    refine zn_isub 9 (x) (y) rfl rfl rfl rfl (by omega) ?_
    refine zj_ireturn 10 rfl rfl rfl ?_
    exact ⟨zrt (by unfold zap; rw [if_neg (by omega)]), rfl, rfl⟩
  · refine zj_iload_n 3 rfl rfl rfl ?_
    refine zj_iload_n 4 rfl rfl rfl ?_
    refine zn_isub 5 (y) (x) rfl rfl rfl rfl (by omega) ?_
    refine zj_goto 6 rfl rfl ?_
    refine zj_ireturn 10 rfl rfl rfl ?_
    exact ⟨zrt (by unfold zap; rw [if_pos c2]), rfl, rfl⟩
theorem Met_mono {Y : zY} {R : Room} {mc ms : Nat} {av : List Value} {n : Nat} {s : zH} {P Q : Option Value → Nat → zH → Prop} (h : zMet E Y R mc ms av n s P) (hPQ : ∀ r n' s', P r n' s' → Q r n' s') : zMet E Y R mc ms av n s Q := by
  intro p e ha hc hk s0 m args below hf happ hP hT
  obtain ⟨k, o, h1, h2, h3, ⟨h4, h5⟩⟩ := h p e ha hc hk s0 m args below hf happ hP hT
  obtain ⟨r, n', s', e1, e2, e3⟩ := h4
  exact ⟨k, o, h1, h2, h3, ⟨r, n', s', e1, hPQ _ _ _ e2, e3⟩, h5⟩
theorem k_seenB (f g2 : Nat → Int64) (g air c : Nat) (hg : g < 4) (ha : air < 5) (hc : c < 81) : zM E YM_seenAt 3 [.ref a, .int (nI g), .int (nI air), .int (nI c)] (mw σ a ((M.sB 2 g2).sB 1 f)) (some (.int (mSeen (M.1 3) g air c))) (mw σ a ((M.sB 2 g2).sB 1 f)) := k_seenAt g air c hg ha hc
theorem k_tellsB (f g2 : Nat → Int64) (cs : List (Int32 × Int64)) (hlen : cs.length ≤ 40) (hcm : M.2.2.1 0 = nI cs.length) (hcs : ∀ i x, cs[i]? = some x → M.1 4 i = x.1 ∧ M.2.1 0 i = x.2) (hq : ∀ x ∈ cs, qCode x.1) (hev : ∀ lt, ∃ v, evC lt cs [] = some [v]) (lt : Nat → Int64) (hlt : ∀ j, j < 6 → f j = lt j) : zX E YM_tells 2 [.ref a] (mw σ a ((M.sB 2 g2).sB 1 f)) (some (.int (zo (qVal cs lt ≠ 0)))) (fun s => ∃ h, s = mw σ a ((M.sB 2 h).sB 1 f)) := by
  obtain ⟨v, hv⟩ := hev f
  have e : qVal cs lt = v := by unfold qVal; rw [← evC_cong hlt cs [], hv]
  rw [e]
  have h := k_tells (E := E) (σ := σ) (a := a) (M := (M.sB 2 g2).sB 1 f) cs hlen hcm hcs hq v hv
  intro n
  refine Met_mono (h n) ?_
  rintro r n' s ⟨e1, e2, h', e3⟩
  exact ⟨e1, e2, h', by rw [e3, sB_comm]⟩
end
