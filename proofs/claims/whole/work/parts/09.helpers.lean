/-! small static helpers -/
def zo (p : Prop) [Decidable p] : Int32 := if p then 1 else 0
theorem zo_t {p : Prop} [Decidable p] (h : p) : (1 : Int32) = zo p := by simp [zo, h]
theorem zo_f {p : Prop} [Decidable p] (h : ¬ p) : (0 : Int32) = zo p := by simp [zo, h]
theorem zo_nar (p : Prop) [Decidable p] : narrow .boolean (.int (zo p)) = .int (zo p) := by
  unfold zo; split <;> rfl
theorem zo_0 {p : Prop} [Decidable p] : zo p = 0 ↔ ¬ p := by
  unfold zo; split <;> simp_all
theorem zo_n0 {p : Prop} [Decidable p] : ¬ zo p = 0 ↔ p := by
  unfold zo; split <;> simp_all
theorem zo_c {p q : Prop} [Decidable p] [Decidable q] (h : p ↔ q) : zo p = zo q := by
  unfold zo; by_cases hp : p
  · rw [if_pos hp, if_pos (h.mp hp)]
  · rw [if_neg hp, if_neg (fun x => hp (h.mpr x))]
theorem zrt {x y : Int32} (h : x = y) : (some (Value.int x) : Option Value) = some (Value.int y) := by rw [h]
theorem zrl {x y : Int64} (h : x = y) : (some (Value.long x) : Option Value) = some (Value.long y) := by rw [h]
/-- a number is one of 0 .. n - 1 -/
abbrev zr (v : Int32) (n : Int) : Prop := 0 ≤ v.toInt ∧ v.toInt < n
theorem zr_dec (v : Int32) (n : Int) : zr v n ↔ (0 ≤ v.toInt ∧ v.toInt < n) := Iff.rfl
theorem zr_nI {v : Int32} {n : Nat} (h : zr v n) : ∃ j : Nat, j < n ∧ v = nI j := by
  obtain ⟨h1, h2⟩ := h
  refine ⟨v.toInt.toNat, by omega, ?_⟩
  apply Int32.toInt_inj.mp
  have h3 := Int32.toInt_lt v
  rw [nI_toInt (by omega)]
  omega
theorem zr_of {j n : Nat} (h : j < n) (hn : n ≤ 2 ^ 31) : zr (nI j) n := by
  unfold zr; rw [nI_toInt (by omega)]; omega
theorem zl0 (x : Int32) : x.toInt64.toInt = x.toInt := Int32.toInt_toInt64 x
/-! Math.min, max, abs -/
section
variable {E : zE} {Y : zY} {R : Room} {fin : zF} {n cells slots : Nat} {σ : zH} {pc q u v idx : Nat} {w : Int} {L : List (Option Value)} {rest : List Value}
theorem znest_math : ∀ q ∈ zNest, q.2.2.cls ≠ "java/lang/Math" := by decide +kernel
theorem zlk_math {oc idx : Nat} {y : MethodName} (h : zLk oc idx y) (hy : y.cls = "java/lang/Math") : Cond.methodLink (zcn oc) idx y ∈ zTbl := h.elim id (fun g => absurd hy (znest_math _ g))
theorem zj_mmax (k : Nat) {x y : Int32} (h : Y.rows[k]? = some (pc, .invokestatic idx, q, u, v, w)) (hq : pc + 3 = q) (lk : zLk Y.oc idx YJ_max.nm) (hrest : ((rest.map Value.category).sum + 13).ble R.locals = true) (hR : (1).ble R.frames = true) (hc : cells.ble R.cells = true) (hs : slots.ble R.slots = true) (kk : zJ E Y R fin n cells slots σ q L (.int (if x < y then y else x) :: rest)) : zJ E Y R fin n cells slots σ pc L (.int y :: .int x :: rest) := by
  intro p e s m args below meth c H locs ls C hR' hf hl
  subst hq
  have hts := C.2.2.2.2.2.2.1
  exact va_mmax C.1 C.2.1 (C.2.2.1.trans hl.1.symm) C.2.2.2.2.2.1 (hts _ (zlk_math lk rfl)) (hts _ (zt 385 (by decide +kernel) rfl)) (hts _ (zt 80 (by decide +kernel) rfl)) (hts _ (zt 386 (by decide +kernel) rfl)) (Nat.le_of_ble_eq_true hR) (Nat.le_of_ble_eq_true hrest) (Nat.le_of_ble_eq_true hc) (Nat.le_of_ble_eq_true hs) (zdec C.2.2.2.2.2.2.2.2.2 h rfl).1 (kk p e s m args below meth c H locs ls C hR' hf hl)
theorem zj_mmin (k : Nat) {x y : Int32} (h : Y.rows[k]? = some (pc, .invokestatic idx, q, u, v, w)) (hq : pc + 3 = q) (lk : zLk Y.oc idx YJ_min.nm) (hrest : ((rest.map Value.category).sum + 13).ble R.locals = true) (hR : (1).ble R.frames = true) (hc : cells.ble R.cells = true) (hs : slots.ble R.slots = true) (kk : zJ E Y R fin n cells slots σ q L (.int (if y < x then y else x) :: rest)) : zJ E Y R fin n cells slots σ pc L (.int y :: .int x :: rest) := by
  intro p e s m args below meth c H locs ls C hR' hf hl
  subst hq
  have hts := C.2.2.2.2.2.2.1
  exact va_mmin C.1 C.2.1 (C.2.2.1.trans hl.1.symm) C.2.2.2.2.2.1 (hts _ (zlk_math lk rfl)) (hts _ (zt 365 (by decide +kernel) rfl)) (hts _ (zt 80 (by decide +kernel) rfl)) (hts _ (zt 366 (by decide +kernel) rfl)) (Nat.le_of_ble_eq_true hR) (Nat.le_of_ble_eq_true hrest) (Nat.le_of_ble_eq_true hc) (Nat.le_of_ble_eq_true hs) (zdec C.2.2.2.2.2.2.2.2.2 h rfl).1 (kk p e s m args below meth c H locs ls C hR' hf hl)
theorem zj_mabs (k : Nat) {x : Int32} (h : Y.rows[k]? = some (pc, .invokestatic idx, q, u, v, w)) (hq : pc + 3 = q) (lk : zLk Y.oc idx YJ_abs.nm) (hrest : ((rest.map Value.category).sum + 13).ble R.locals = true) (hR : (1).ble R.frames = true) (hc : cells.ble R.cells = true) (hs : slots.ble R.slots = true) (kk : zJ E Y R fin n cells slots σ q L (.int (if 0 ≤ x then x else 0 - x) :: rest)) : zJ E Y R fin n cells slots σ pc L (.int x :: rest) := by
  intro p e s m args below meth c H locs ls C hR' hf hl
  subst hq
  have hts := C.2.2.2.2.2.2.1
  exact va_mabs C.1 C.2.1 (C.2.2.1.trans hl.1.symm) C.2.2.2.2.2.1 (hts _ (zlk_math lk rfl)) (hts _ (zt 487 (by decide +kernel) rfl)) (hts _ (zt 80 (by decide +kernel) rfl)) (hts _ (zt 488 (by decide +kernel) rfl)) (Nat.le_of_ble_eq_true hR) (Nat.le_of_ble_eq_true hrest) (Nat.le_of_ble_eq_true hc) (Nat.le_of_ble_eq_true hs) (zdec C.2.2.2.2.2.2.2.2.2 h rfl).1 (kk p e s m args below meth c H locs ls C hR' hf hl)
end
section
variable {E : zE} {σ : zH}
theorem k_isOneOf (v m : Int32) : zM E YD_isOneOf 1 [.int v, .int m] σ (some (.int (zo (zr v m.toInt)))) σ := by
  refine zM.of oD_isOneOf (by decide +kernel) rfl rfl (fun n => ?_)
  refine zj_iload_n 0 rfl rfl rfl ?_
  refine zj_if_lt 1 rfl rfl (fun c1 => ?_) (fun c1 => ?_)
  · refine zj_iconst 7 (0) rfl rfl (by decide) ?_
    refine zj_zreturn 8 rfl rfl rfl rfl ?_
    first | exact ⟨zrt (zo_t (by simp only [zr, Int32.lt_iff_toInt_lt, Int32.le_iff_toInt_le, Int32.toInt_zero] at *; omega)), rfl, rfl⟩ | exact ⟨zrt (zo_f (by simp only [zr, Int32.lt_iff_toInt_lt, Int32.le_iff_toInt_le, Int32.toInt_zero] at *; omega)), rfl, rfl⟩
  · refine zj_iload_n 2 rfl rfl rfl ?_
    refine zj_iload_n 3 rfl rfl rfl ?_
    refine zj_icmp_ge 4 rfl rfl (fun c6 => ?_) (fun c6 => ?_)
    · refine zj_iconst 7 (0) rfl rfl (by decide) ?_
      refine zj_zreturn 8 rfl rfl rfl rfl ?_
      first | exact ⟨zrt (zo_t (by simp only [zr, Int32.lt_iff_toInt_lt, Int32.le_iff_toInt_le, Int32.toInt_zero] at *; omega)), rfl, rfl⟩ | exact ⟨zrt (zo_f (by simp only [zr, Int32.lt_iff_toInt_lt, Int32.le_iff_toInt_le, Int32.toInt_zero] at *; omega)), rfl, rfl⟩
    · refine zj_iconst 5 (1) rfl rfl (by decide) ?_
      refine zj_goto 6 rfl rfl ?_
      refine zj_zreturn 8 rfl rfl rfl rfl ?_
      first | exact ⟨zrt (zo_t (by simp only [zr, Int32.lt_iff_toInt_lt, Int32.le_iff_toInt_le, Int32.toInt_zero] at *; omega)), rfl, rfl⟩ | exact ⟨zrt (zo_f (by simp only [zr, Int32.lt_iff_toInt_lt, Int32.le_iff_toInt_le, Int32.toInt_zero] at *; omega)), rfl, rfl⟩
theorem k_in (v a b : Int64) : zM E YM_in 1 [.long v, .long a, .long b] σ (some (.int (zo (a.toInt ≤ v.toInt ∧ v.toInt ≤ b.toInt)))) σ := by
  refine zM.of oM_in (by decide +kernel) rfl rfl (fun n => ?_)
  refine zj_lload_n 0 rfl rfl rfl ?_
  refine zj_lload_n 1 rfl rfl rfl ?_
  refine zj_lcmp 2 rfl rfl ?_
  refine zj_if_lt 3 rfl rfl (fun c3 => ?_) (fun c3 => ?_)
  · refine zj_iconst 10 (0) rfl rfl (by decide) ?_
    refine zj_zreturn 11 rfl rfl rfl rfl ?_
    first | exact ⟨zrt (zo_t (by simp only [lg_cmp_lt, lg_cmp_gt, lg_cmp_le, lg_cmp_ge, Int64.lt_iff_toInt_lt, Int64.le_iff_toInt_le] at *; omega)), rfl, rfl⟩ | exact ⟨zrt (zo_f (by simp only [lg_cmp_lt, lg_cmp_gt, lg_cmp_le, lg_cmp_ge, Int64.lt_iff_toInt_lt, Int64.le_iff_toInt_le] at *; omega)), rfl, rfl⟩
  · refine zj_lload_n 4 rfl rfl rfl ?_
    refine zj_lload 5 rfl rfl rfl ?_
    refine zj_lcmp 6 rfl rfl ?_
    refine zj_if_gt 7 rfl rfl (fun c10 => ?_) (fun c10 => ?_)
    · refine zj_iconst 10 (0) rfl rfl (by decide) ?_
      refine zj_zreturn 11 rfl rfl rfl rfl ?_
      first | exact ⟨zrt (zo_t (by simp only [lg_cmp_lt, lg_cmp_gt, lg_cmp_le, lg_cmp_ge, Int64.lt_iff_toInt_lt, Int64.le_iff_toInt_le] at *; omega)), rfl, rfl⟩ | exact ⟨zrt (zo_f (by simp only [lg_cmp_lt, lg_cmp_gt, lg_cmp_le, lg_cmp_ge, Int64.lt_iff_toInt_lt, Int64.le_iff_toInt_le] at *; omega)), rfl, rfl⟩
    · refine zj_iconst 8 (1) rfl rfl (by decide) ?_
      refine zj_goto 9 rfl rfl ?_
      refine zj_zreturn 11 rfl rfl rfl rfl ?_
      first | exact ⟨zrt (zo_t (by simp only [lg_cmp_lt, lg_cmp_gt, lg_cmp_le, lg_cmp_ge, Int64.lt_iff_toInt_lt, Int64.le_iff_toInt_le] at *; omega)), rfl, rfl⟩ | exact ⟨zrt (zo_f (by simp only [lg_cmp_lt, lg_cmp_gt, lg_cmp_le, lg_cmp_ge, Int64.lt_iff_toInt_lt, Int64.le_iff_toInt_le] at *; omega)), rfl, rfl⟩
theorem k_mix (h v : Int64) : zM E YD_mix 1 [.long h, .long v] σ (some (.long (31 * h + v))) σ := by
  refine zM.of oD_mix (by decide +kernel) rfl rfl (fun n => ?_)
  refine zj_ldc2 0 (31) rfl rfl (by decide) ?_
  refine zj_lload_n 1 rfl rfl rfl ?_
  refine zj_lmul 2 rfl rfl ?_
  refine zj_lload_n 3 rfl rfl rfl ?_
  refine zj_ladd 4 rfl rfl ?_
  refine zj_lreturn 5 rfl rfl rfl ?_
  exact ⟨rfl, rfl, rfl⟩
abbrev zhas (x y : Int32) : Prop := ¬ (x >>> (y &&& 31)) &&& 1 = 0

theorem k_has (x y : Int32) : zM E YD_has 1 [.int x, .int y] σ (some (.int (zo (zhas x y)))) σ := by
  refine zM.of oD_has (by decide +kernel) rfl rfl (fun n => ?_)
  refine zj_iload_n 0 rfl rfl rfl ?_
  refine zj_iload_n 1 rfl rfl rfl ?_
  refine zj_ishr 2 rfl rfl ?_
  refine zj_iconst 3 (1) rfl rfl (by decide) ?_
  refine zj_iand 4 rfl rfl ?_
  refine zj_if_eq 5 rfl rfl (fun c5 => ?_) (fun c5 => ?_)
  · refine zj_iconst 8 (0) rfl rfl (by decide) ?_
    refine zj_zreturn 9 rfl rfl rfl rfl ?_
    first | exact ⟨zrt (zo_t (by assumption)), rfl, rfl⟩ | exact ⟨zrt (zo_f (fun h => h (by assumption))), rfl, rfl⟩
  · refine zj_iconst 6 (1) rfl rfl (by decide) ?_
    refine zj_goto 7 rfl rfl ?_
    refine zj_zreturn 9 rfl rfl rfl rfl ?_
    first | exact ⟨zrt (zo_t (by assumption)), rfl, rfl⟩ | exact ⟨zrt (zo_f (fun h => h (by assumption))), rfl, rfl⟩
theorem k_isFour (v : Int32) : zM E YM_isFour 2 [.int v] σ (some (.int (zo (zr v 4)))) σ := by
  refine zM.of oM_isFour (by decide +kernel) rfl rfl (fun n => ?_)
  refine zj_iload_n 0 rfl rfl rfl ?_
  refine zj_i2l 1 rfl rfl ?_
  refine zj_lconst 2 (0) rfl rfl (by decide) ?_
  refine zj_ldc2 3 (3) rfl rfl (by decide) ?_
  refine zj_csx 4 rfl rfl lk_8_51 ckM_in (k_in _ _ _) rfl rfl rfl rfl ?_
  refine zj_zreturn 5 rfl rfl rfl (zo_nar _) ?_
  exact ⟨zrt (zo_c (by simp only [zr, zl0]; constructor <;> intro h <;> simp at h ⊢ <;> omega)), rfl, rfl⟩
theorem k_isCell (v : Int32) : zM E YM_isCell 2 [.int v] σ (some (.int (zo (zr v 81)))) σ := by
  refine zM.of oM_isCell (by decide +kernel) rfl rfl (fun n => ?_)
  refine zj_iload_n 0 rfl rfl rfl ?_
  refine zj_i2l 1 rfl rfl ?_
  refine zj_lconst 2 (0) rfl rfl (by decide) ?_
  refine zj_ldc2 3 (80) rfl rfl (by decide) ?_
  refine zj_csx 4 rfl rfl lk_8_51 ckM_in (k_in _ _ _) rfl rfl rfl rfl ?_
  refine zj_zreturn 5 rfl rfl rfl (zo_nar _) ?_
  exact ⟨zrt (zo_c (by simp only [zr, zl0]; constructor <;> intro h <;> simp at h ⊢ <;> omega)), rfl, rfl⟩
theorem k_isLines (v : Int32) : zM E YM_isLines 2 [.int v] σ (some (.int (zo (zr v 268435456)))) σ := by
  refine zM.of oM_isLines (by decide +kernel) rfl rfl (fun n => ?_)
  refine zj_iload_n 0 rfl rfl rfl ?_
  refine zj_i2l 1 rfl rfl ?_
  refine zj_lconst 2 (0) rfl rfl (by decide) ?_
  refine zj_ldc2 3 (268435455) rfl rfl (by decide) ?_
  refine zj_csx 4 rfl rfl lk_8_51 ckM_in (k_in _ _ _) rfl rfl rfl rfl ?_
  refine zj_zreturn 5 rfl rfl rfl (zo_nar _) ?_
  exact ⟨zrt (zo_c (by simp only [zr, zl0]; constructor <;> intro h <;> simp at h ⊢ <;> omega)), rfl, rfl⟩
end
