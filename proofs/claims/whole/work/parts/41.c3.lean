/-! the component: bits counted, rows filled -/
def jB1 (x : Int32) : Int32 := x - (((x).toUInt32 >>> ((1 : Int32).toUInt32 &&& Int32.toUInt32 31)).toInt32 &&& 1431655765)
def jB2 (x : Int32) : Int32 := (x &&& 858993459) + (((x).toUInt32 >>> ((2 : Int32).toUInt32 &&& Int32.toUInt32 31)).toInt32 &&& 858993459)
def jB3 (x : Int32) : Int32 := (x + ((x).toUInt32 >>> ((4 : Int32).toUInt32 &&& Int32.toUInt32 31)).toInt32) &&& 252645135
def jB4 (x : Int32) : Int32 := x + ((x).toUInt32 >>> ((8 : Int32).toUInt32 &&& Int32.toUInt32 31)).toInt32
def jB5 (x : Int32) : Int32 := x + ((x).toUInt32 >>> ((16 : Int32).toUInt32 &&& Int32.toUInt32 31)).toInt32
def jBits (x : Int32) : Int32 := jB5 (jB4 (jB3 (jB2 (jB1 x)))) &&& 63
section
variable {E : zE} {σ : zH}
theorem k_bitCount (x : Int32) : zM E YJ_bitCount 1 [.int x] (σ) (some (.int (jBits x))) (σ) := by
  refine zM.of oJ_bitCount (by decide +kernel) rfl rfl (fun n => ?_)
  refine zj_iload_n 0 rfl rfl rfl ?_
  refine zj_iload_n 1 rfl rfl rfl ?_
  refine zj_iconst 2 (1) rfl rfl (by decide) ?_
  refine zj_iushr 3 rfl rfl ?_
  refine zj_ldcw 4 (1431655765) rfl rfl (by decide) ?_
  refine zj_iand 5 rfl rfl ?_
  refine zj_isub 6 rfl rfl ?_
  refine zj_istore_n 7 rfl rfl ?_
  refine zj_iload_n 8 rfl rfl rfl ?_
  refine zj_ldcw 9 (858993459) rfl rfl (by decide) ?_
  refine zj_iand 10 rfl rfl ?_
  refine zj_iload_n 11 rfl rfl rfl ?_
  refine zj_iconst 12 (2) rfl rfl (by decide) ?_
  refine zj_iushr 13 rfl rfl ?_
  refine zj_ldcw 14 (858993459) rfl rfl (by decide) ?_
  refine zj_iand 15 rfl rfl ?_
  refine zj_iadd 16 rfl rfl ?_
  refine zj_istore_n 17 rfl rfl ?_
  refine zj_iload_n 18 rfl rfl rfl ?_
  refine zj_iload_n 19 rfl rfl rfl ?_
  refine zj_iconst 20 (4) rfl rfl (by decide) ?_
  refine zj_iushr 21 rfl rfl ?_
  refine zj_iadd 22 rfl rfl ?_
  refine zj_ldcw 23 (252645135) rfl rfl (by decide) ?_
  refine zj_iand 24 rfl rfl ?_
  refine zj_istore_n 25 rfl rfl ?_
  refine zj_iload_n 26 rfl rfl rfl ?_
  refine zj_iload_n 27 rfl rfl rfl ?_
  refine zj_bipush 28 (8) rfl rfl (by decide) ?_
  refine zj_iushr 29 rfl rfl ?_
  refine zj_iadd 30 rfl rfl ?_
  refine zj_istore_n 31 rfl rfl ?_
  refine zj_iload_n 32 rfl rfl rfl ?_
  refine zj_iload_n 33 rfl rfl rfl ?_
  refine zj_bipush 34 (16) rfl rfl (by decide) ?_
  refine zj_iushr 35 rfl rfl ?_
  refine zj_iadd 36 rfl rfl ?_
  refine zj_istore_n 37 rfl rfl ?_
  refine zj_iload_n 38 rfl rfl rfl ?_
  refine zj_bipush 39 (63) rfl rfl (by decide) ?_
  refine zj_iand 40 rfl rfl ?_
  refine zj_ireturn 41 rfl rfl rfl ?_
  exact ⟨rfl, rfl, rfl⟩
theorem l_fill (r len : Nat) (f : Nat → Int32) (hlen : len < 2 ^ 31) (v : Int32) : ∀ (m : Nat) (k : Nat), (k + m = len) → ∀ n, zB E YJ_fill 1 n (none) (zup σ r (.inl (0, len, .inl (zfl (fun _ => v) f len)))) (zup σ r (.inl (0, len, .inl (zfl (fun _ => v) f k)))) 5 [some (.ref r), some (.int v), some (.int (nI k)), some (.int (nI len))] [] := by
  intro m
  induction m using Nat.strongRecOn with
  | ind m ih =>
  intro k hk n
  refine zj_iload_n 5 rfl rfl rfl ?_
  refine zj_iload_n 6 rfl rfl rfl ?_
  refine zn_icmp_ge 7 (k) (len) rfl rfl rfl rfl (by omega) (by omega) (fun c7 => ?_) (fun c7 => ?_)
  · refine zj_return 14 rfl rfl rfl ?_
    obtain rfl : k = len := by omega
    exact ⟨rfl, rfl, rfl⟩
  · refine zj_aload_n 8 rfl rfl rfl ?_
    refine zj_iload_n 9 rfl rfl rfl ?_
    refine zj_iload_n 10 rfl rfl rfl ?_
    refine zn_iast 11 (k) rfl rfl (zup_eq _ _ _) rfl (by omega) (by omega) rfl ?_
    refine zn_iinc 12 (k) rfl rfl rfl rfl ?_
    refine zj_goto 13 rfl rfl ?_
    rw [zup_zup, zfl_up' rfl]
    exact ih (m - 1) (by omega) (k + 1) (by omega) n
theorem k_fill (r len : Nat) (f : Nat → Int32) (hlen : len < 2 ^ 31) (v : Int32) (hr : σ r = some (.inl (0, len, .inl f))) : zM E YJ_fill 1 [.ref r, .int v] (σ) (none) (zup σ r (.inl (0, len, .inl (zfl (fun _ => v) f len)))) := by
  refine zM.of oJ_fill (by decide +kernel) rfl rfl (fun n => ?_)
  refine zj_iconst 0 (0) rfl rfl (by decide) ?_
  refine zj_istore_n 1 rfl rfl ?_
  refine zj_aload_n 2 rfl rfl rfl ?_
  refine zj_alen 3 rfl rfl hr (by decide) ?_
  refine zj_istore_n 4 rfl rfl ?_
  have e : zup σ r (.inl (0, len, .inl (zfl (fun _ => v) f 0))) = σ := by rw [zfl_0, zup_same hr]
  have hh := l_fill (E := E) (σ := σ) r len f hlen v len 0 (by omega) n
  rw [e] at hh
  exact hh
end
