/-! the reference: small methods -/
def zb28 (x : Int32) : Nat → Int32
  | 0 => 0
  | k + 1 => zb28 x k + ((x >>> (nI k &&& 31)) &&& 1)
section
variable {E : zE} {σ : zH} {a : Nat} {M : zMo}
theorem l_bitsOf (x : Int32) : ∀ (m : Nat) (k : Nat), (k + m = 28) → ∀ n, zB E YM_bitsOf 1 n (some (.int (zb28 x 28))) (σ) (σ) 4 [some (.int x), some (.int (zb28 x k)), some (.int (nI k))] [] := by
  intro m
  induction m using Nat.strongRecOn with
  | ind m ih =>
  intro k hm n
  refine zj_iload_n 4 rfl rfl rfl ?_
  refine zj_bipush 5 (28) rfl rfl (by decide) ?_
  refine zn_icmp_ge 6 (k) (28) rfl rfl rfl rfl (by omega) (by omega) (fun c7 => ?_) (fun c7 => ?_)
  · refine zj_iload_n 17 rfl rfl rfl ?_
    refine zj_ireturn 18 rfl rfl rfl ?_
    obtain rfl : k = 28 := by omega
    exact ⟨rfl, rfl, rfl⟩
  · refine zj_iload_n 7 rfl rfl rfl ?_
    refine zj_iload_n 8 rfl rfl rfl ?_
    refine zj_iload_n 9 rfl rfl rfl ?_
    refine zj_ishr 10 rfl rfl ?_
    refine zj_iconst 11 (1) rfl rfl (by decide) ?_
    refine zj_iand 12 rfl rfl ?_
    refine zj_iadd 13 rfl rfl ?_
    refine zj_istore_n 14 rfl rfl ?_
    refine zn_iinc 15 (k) rfl rfl rfl rfl ?_
    refine zj_goto 16 rfl rfl ?_
    exact ih (m - 1) (by omega) (k + 1) (by omega) n
theorem k_bitsOf (x : Int32) : zM E YM_bitsOf 1 [.int x] (σ) (some (.int (zb28 x 28))) (σ) := by
  refine zM.of oM_bitsOf (by decide +kernel) rfl rfl (fun n => ?_)
  refine zj_iconst 0 (0) rfl rfl (by decide) ?_
  refine zj_istore_n 1 rfl rfl ?_
  refine zj_iconst 2 (0) rfl rfl (by decide) ?_
  refine zj_istore_n 3 rfl rfl ?_
  exact l_bitsOf x 28 0 (by omega) n
theorem k_change (j : Nat) (v : Int32) (hj : j < 818) : zM E YM_change 1 [.ref a, .int (nI j), .int v] (mw σ a M) (some (.int (M.row j))) (mw σ a (M.sA 0 (va_up M.row j v))) := by
  refine zM.of oM_change (by decide +kernel) rfl rfl (fun n => ?_)
  refine zj_aload_n 0 rfl rfl rfl ?_
  refine zj_get 1 rfl rfl mw_0 rfl ?_
  refine zj_iload_n 2 rfl rfl rfl ?_
  refine zn_iald 3 (j) rfl rfl mw_1 rfl (by omega) (by decide) ?_
  refine zj_istore_n 4 rfl rfl ?_
  refine zj_aload_n 5 rfl rfl rfl ?_
  refine zj_get 6 rfl rfl mw_0 rfl ?_
  refine zj_iload_n 7 rfl rfl rfl ?_
  refine zj_iload_n 8 rfl rfl rfl ?_
  refine zn_iast 9 (j) rfl rfl mw_1 rfl (by omega) (by decide) mw_u1 ?_
  refine zj_iload_n 10 rfl rfl rfl ?_
  refine zj_ireturn 11 rfl rfl rfl ?_
  exact ⟨rfl, rfl, rfl⟩
end
