/-! the component: helpers -/
theorem ztsw_d {pc : Nat} {d lo hi : Int} {offs : Array Int} {x : Int} (nd : List Int) (h1 : (hi - lo).toNat < offs.size) (h2 : ∀ i, i < offs.size → offs[i]? = some d ∨ lo + i ∈ nd) (hx : ∀ v ∈ nd, x ≠ v) : ztsw pc d lo hi offs x = some ((pc : Int) + d).toNat := by
  unfold ztsw
  split
  · rfl
  · rename_i hc
    have hi : (x - lo).toNat < offs.size := by omega
    rcases h2 _ hi with g | g
    · rw [g]; rfl
    · exact absurd (show x = lo + ((x - lo).toNat : Int) by omega) (hx _ g)
def zlsw (pc : Nat) (d : Int) (ps : Array (Int × Int)) (x : Int) : Nat := ((pc : Int) + Op.lookupswitch.offset ps.toList d x).toNat
theorem zlsw_off {d x : Int} : ∀ {ps : List (Int × Int)}, (∀ q ∈ ps, x ≠ q.1) → Op.lookupswitch.offset ps d x = d
  | [], _ => by simp [Op.lookupswitch.offset]
  | (a, o) :: r, h => by
    rw [Op.lookupswitch.offset_cons, if_neg (fun g => h (a, o) List.mem_cons_self (by first | exact g | exact g.symm | simpa using g))]
    exact zlsw_off (fun q hq => h q (List.mem_cons_of_mem _ hq))
section
variable {E : zE} {Y : zY} {R : Room} {fin : zF} {n cells slots : Nat} {σ : zH} {pc q u v : Nat} {w : Int} {L : List (Option Value)} {rest : List Value}
theorem zj_lsw (k : Nat) {x : Int32} {d : Int} {ps : Array (Int × Int)} {t : Nat} (h : Y.rows[k]? = some (pc, .lookupswitch d ps, q, u, v, w)) (hlt : pc.blt q = true) (hp : (ps.toList.zip (ps.toList.drop 1)).all (fun (a, next) => a.1 < next.1) = true) (ht : (pc : Int) + Op.lookupswitch.offset ps.toList d x.toInt = (t : Int)) (kk : zJ E Y R fin n cells slots σ t L rest) : zJ E Y R fin n cells slots σ pc L (.int x :: rest) := by
  intro p e s m args below meth c H locs ls C hR hf hl
  have hlt' : pc < q := Nat.lt_of_lt_of_le (Nat.lt_succ_self pc) (Nat.le_of_ble_eq_true hlt)
  have h1 := (zdec (len := q - pc) C.2.2.2.2.2.2.2.2.2 h (by omega)).1
  exact lv_lookup C.1 C.2.1 h1 hp rfl ht (kk p e s m args below meth c H locs ls C hR hf hl)
theorem zlsw_d {pc t : Nat} {d : Int} {ps : Array (Int × Int)} {x : Int} (nd : List Int) (h : (ps.toList.all (fun q => decide (q.1 ∈ nd)) && decide ((pc : Int) + d = (t : Int))) = true) (hx : ∀ v ∈ nd, x ≠ v) : (pc : Int) + Op.lookupswitch.offset ps.toList d x = (t : Int) := by
  simp only [Bool.and_eq_true, decide_eq_true_eq, List.all_eq_true] at h
  rw [zlsw_off (fun q hq => hx _ (h.1 q hq))]
  exact h.2
end
abbrev uUnit (c : Int32) : Int32 := if c = 97 then -1 else if c = 98 then -2 else if c = 100 then -3 else if c = 109 then -4 else if c = 107 then -5 else if c = 103 then -6 else 0
abbrev uJoin (c : Int32) : Int32 := if c = 124 then -11 else if c = 38 then -12 else if c = 60 then -13 else if c = 62 then -14 else if c = 61 then -15 else if c = 43 then -16 else if c = 45 then -17 else if c = 42 then -18 else if c = 47 then -19 else 0
abbrev uLev (c : Int32) : Int32 := if c = -11 then 0 else if c = -12 then 1 else if c = -16 then 3 else if c = -17 then 3 else if c = -18 then 4 else if c = -19 then 4 else 2
abbrev uTurn (c : Int32) (x : Int64) : Int64 := if c = -21 then (if x = 0 then 1 else 0) else -x
abbrev uJoined (c : Int32) (x y : Int64) : Int64 := if c = -11 then (if x ≠ 0 ∨ y ≠ 0 then 1 else 0) else if c = -12 then (if x ≠ 0 ∧ y ≠ 0 then 1 else 0) else if c = -13 then (if x < y then 1 else 0) else if c = -14 then (if y < x then 1 else 0) else if c = -15 then (if x = y then 1 else 0) else if c = -16 then x + y else if c = -17 then x - y else if c = -18 then x * y else if y = 0 then 0 else x / y
theorem zti_ne {x : Int32} {v : Int} (k : Int32) (h : ¬ x = k) (hk : k.toInt = v) : x.toInt ≠ v := fun e => h (Int32.toInt_inj.mp (e.trans hk.symm))
section
variable {E : zE} {σ : zH}
theorem k_unitOf_97  : zM E YSp_unitOf 1 [.int 97] (σ) (some (.int (uUnit 97))) (σ) := by
  refine zM.of oSp_unitOf (by decide +kernel) rfl rfl (fun n => ?_)
  refine zj_iload_n 0 rfl rfl rfl ?_
  refine zj_tsw (t := 68) 1 rfl rfl (by decide +kernel) (by decide +kernel) ?_
  refine zj_iconst 2 (-1) rfl rfl (by decide) ?_
  refine zj_ireturn 3 rfl rfl rfl ?_
  exact ⟨zrt (by decide +kernel), rfl, rfl⟩
theorem k_unitOf_98  : zM E YSp_unitOf 1 [.int 98] (σ) (some (.int (uUnit 98))) (σ) := by
  refine zM.of oSp_unitOf (by decide +kernel) rfl rfl (fun n => ?_)
  refine zj_iload_n 0 rfl rfl rfl ?_
  refine zj_tsw (t := 70) 1 rfl rfl (by decide +kernel) (by decide +kernel) ?_
  refine zj_bipush 4 (-2) rfl rfl (by decide) ?_
  refine zj_ireturn 5 rfl rfl rfl ?_
  exact ⟨zrt (by decide +kernel), rfl, rfl⟩
theorem k_unitOf_100  : zM E YSp_unitOf 1 [.int 100] (σ) (some (.int (uUnit 100))) (σ) := by
  refine zM.of oSp_unitOf (by decide +kernel) rfl rfl (fun n => ?_)
  refine zj_iload_n 0 rfl rfl rfl ?_
  refine zj_tsw (t := 73) 1 rfl rfl (by decide +kernel) (by decide +kernel) ?_
  refine zj_bipush 6 (-3) rfl rfl (by decide) ?_
  refine zj_ireturn 7 rfl rfl rfl ?_
  exact ⟨zrt (by decide +kernel), rfl, rfl⟩
theorem k_unitOf_109  : zM E YSp_unitOf 1 [.int 109] (σ) (some (.int (uUnit 109))) (σ) := by
  refine zM.of oSp_unitOf (by decide +kernel) rfl rfl (fun n => ?_)
  refine zj_iload_n 0 rfl rfl rfl ?_
  refine zj_tsw (t := 76) 1 rfl rfl (by decide +kernel) (by decide +kernel) ?_
  refine zj_bipush 8 (-4) rfl rfl (by decide) ?_
  refine zj_ireturn 9 rfl rfl rfl ?_
  exact ⟨zrt (by decide +kernel), rfl, rfl⟩
theorem k_unitOf_107  : zM E YSp_unitOf 1 [.int 107] (σ) (some (.int (uUnit 107))) (σ) := by
  refine zM.of oSp_unitOf (by decide +kernel) rfl rfl (fun n => ?_)
  refine zj_iload_n 0 rfl rfl rfl ?_
  refine zj_tsw (t := 79) 1 rfl rfl (by decide +kernel) (by decide +kernel) ?_
  refine zj_bipush 10 (-5) rfl rfl (by decide) ?_
  refine zj_ireturn 11 rfl rfl rfl ?_
  exact ⟨zrt (by decide +kernel), rfl, rfl⟩
theorem k_unitOf_103  : zM E YSp_unitOf 1 [.int 103] (σ) (some (.int (uUnit 103))) (σ) := by
  refine zM.of oSp_unitOf (by decide +kernel) rfl rfl (fun n => ?_)
  refine zj_iload_n 0 rfl rfl rfl ?_
  refine zj_tsw (t := 82) 1 rfl rfl (by decide +kernel) (by decide +kernel) ?_
  refine zj_bipush 12 (-6) rfl rfl (by decide) ?_
  refine zj_ireturn 13 rfl rfl rfl ?_
  exact ⟨zrt (by decide +kernel), rfl, rfl⟩
theorem k_unitOf_d (c : Int32) (h0 : ¬ c = 97) (h1 : ¬ c = 98) (h2 : ¬ c = 100) (h3 : ¬ c = 109) (h4 : ¬ c = 107) (h5 : ¬ c = 103) : zM E YSp_unitOf 1 [.int c] (σ) (some (.int (uUnit c))) (σ) := by
  refine zM.of oSp_unitOf (by decide +kernel) rfl rfl (fun n => ?_)
  refine zj_iload_n 0 rfl rfl rfl ?_
  refine zj_tsw (t := 85) 1 rfl rfl (ztsw_d [97, 98, 100, 103, 107, 109] (by decide +kernel) (by decide +kernel) (fun v hv => by
      simp only [List.mem_cons, List.not_mem_nil, or_false] at hv
      rcases hv with rfl | rfl | rfl | rfl | rfl | rfl
      · exact zti_ne 97 h0 (by decide +kernel)
      · exact zti_ne 98 h1 (by decide +kernel)
      · exact zti_ne 100 h2 (by decide +kernel)
      · exact zti_ne 103 h5 (by decide +kernel)
      · exact zti_ne 107 h4 (by decide +kernel)
      · exact zti_ne 109 h3 (by decide +kernel))) (by decide +kernel) ?_
  refine zj_iconst 14 (0) rfl rfl (by decide) ?_
  refine zj_ireturn 15 rfl rfl rfl ?_
  exact ⟨zrt (by unfold uUnit; rw [if_neg h0, if_neg h1, if_neg h2, if_neg h3, if_neg h4, if_neg h5]), rfl, rfl⟩
theorem k_unitOf (c : Int32) : zM E YSp_unitOf 1 [.int c] σ (some (.int (uUnit c))) σ := by
  by_cases h0 : c = 97
  · subst h0; exact k_unitOf_97
  by_cases h1 : c = 98
  · subst h1; exact k_unitOf_98
  by_cases h2 : c = 100
  · subst h2; exact k_unitOf_100
  by_cases h3 : c = 109
  · subst h3; exact k_unitOf_109
  by_cases h4 : c = 107
  · subst h4; exact k_unitOf_107
  by_cases h5 : c = 103
  · subst h5; exact k_unitOf_103
  exact k_unitOf_d c h0 h1 h2 h3 h4 h5
theorem k_joiningOf_124  : zM E YSp_joiningOf 1 [.int 124] (σ) (some (.int (uJoin 124))) (σ) := by
  refine zM.of oSp_joiningOf (by decide +kernel) rfl rfl (fun n => ?_)
  refine zj_iload_n 0 rfl rfl rfl ?_
  refine zj_lsw (t := 84) 1 rfl rfl (by decide +kernel) (by decide +kernel) ?_
  refine zj_bipush 2 (-11) rfl rfl (by decide) ?_
  refine zj_ireturn 3 rfl rfl rfl ?_
  exact ⟨zrt (by decide +kernel), rfl, rfl⟩
theorem k_joiningOf_38  : zM E YSp_joiningOf 1 [.int 38] (σ) (some (.int (uJoin 38))) (σ) := by
  refine zM.of oSp_joiningOf (by decide +kernel) rfl rfl (fun n => ?_)
  refine zj_iload_n 0 rfl rfl rfl ?_
  refine zj_lsw (t := 87) 1 rfl rfl (by decide +kernel) (by decide +kernel) ?_
  refine zj_bipush 4 (-12) rfl rfl (by decide) ?_
  refine zj_ireturn 5 rfl rfl rfl ?_
  exact ⟨zrt (by decide +kernel), rfl, rfl⟩
theorem k_joiningOf_60  : zM E YSp_joiningOf 1 [.int 60] (σ) (some (.int (uJoin 60))) (σ) := by
  refine zM.of oSp_joiningOf (by decide +kernel) rfl rfl (fun n => ?_)
  refine zj_iload_n 0 rfl rfl rfl ?_
  refine zj_lsw (t := 90) 1 rfl rfl (by decide +kernel) (by decide +kernel) ?_
  refine zj_bipush 6 (-13) rfl rfl (by decide) ?_
  refine zj_ireturn 7 rfl rfl rfl ?_
  exact ⟨zrt (by decide +kernel), rfl, rfl⟩
theorem k_joiningOf_62  : zM E YSp_joiningOf 1 [.int 62] (σ) (some (.int (uJoin 62))) (σ) := by
  refine zM.of oSp_joiningOf (by decide +kernel) rfl rfl (fun n => ?_)
  refine zj_iload_n 0 rfl rfl rfl ?_
  refine zj_lsw (t := 93) 1 rfl rfl (by decide +kernel) (by decide +kernel) ?_
  refine zj_bipush 8 (-14) rfl rfl (by decide) ?_
  refine zj_ireturn 9 rfl rfl rfl ?_
  exact ⟨zrt (by decide +kernel), rfl, rfl⟩
theorem k_joiningOf_61  : zM E YSp_joiningOf 1 [.int 61] (σ) (some (.int (uJoin 61))) (σ) := by
  refine zM.of oSp_joiningOf (by decide +kernel) rfl rfl (fun n => ?_)
  refine zj_iload_n 0 rfl rfl rfl ?_
  refine zj_lsw (t := 96) 1 rfl rfl (by decide +kernel) (by decide +kernel) ?_
  refine zj_bipush 10 (-15) rfl rfl (by decide) ?_
  refine zj_ireturn 11 rfl rfl rfl ?_
  exact ⟨zrt (by decide +kernel), rfl, rfl⟩
theorem k_joiningOf_43  : zM E YSp_joiningOf 1 [.int 43] (σ) (some (.int (uJoin 43))) (σ) := by
  refine zM.of oSp_joiningOf (by decide +kernel) rfl rfl (fun n => ?_)
  refine zj_iload_n 0 rfl rfl rfl ?_
  refine zj_lsw (t := 99) 1 rfl rfl (by decide +kernel) (by decide +kernel) ?_
  refine zj_bipush 12 (-16) rfl rfl (by decide) ?_
  refine zj_ireturn 13 rfl rfl rfl ?_
  exact ⟨zrt (by decide +kernel), rfl, rfl⟩
theorem k_joiningOf_45  : zM E YSp_joiningOf 1 [.int 45] (σ) (some (.int (uJoin 45))) (σ) := by
  refine zM.of oSp_joiningOf (by decide +kernel) rfl rfl (fun n => ?_)
  refine zj_iload_n 0 rfl rfl rfl ?_
  refine zj_lsw (t := 102) 1 rfl rfl (by decide +kernel) (by decide +kernel) ?_
  refine zj_bipush 14 (-17) rfl rfl (by decide) ?_
  refine zj_ireturn 15 rfl rfl rfl ?_
  exact ⟨zrt (by decide +kernel), rfl, rfl⟩
theorem k_joiningOf_42  : zM E YSp_joiningOf 1 [.int 42] (σ) (some (.int (uJoin 42))) (σ) := by
  refine zM.of oSp_joiningOf (by decide +kernel) rfl rfl (fun n => ?_)
  refine zj_iload_n 0 rfl rfl rfl ?_
  refine zj_lsw (t := 105) 1 rfl rfl (by decide +kernel) (by decide +kernel) ?_
  refine zj_bipush 16 (-18) rfl rfl (by decide) ?_
  refine zj_ireturn 17 rfl rfl rfl ?_
  exact ⟨zrt (by decide +kernel), rfl, rfl⟩
theorem k_joiningOf_47  : zM E YSp_joiningOf 1 [.int 47] (σ) (some (.int (uJoin 47))) (σ) := by
  refine zM.of oSp_joiningOf (by decide +kernel) rfl rfl (fun n => ?_)
  refine zj_iload_n 0 rfl rfl rfl ?_
  refine zj_lsw (t := 108) 1 rfl rfl (by decide +kernel) (by decide +kernel) ?_
  refine zj_bipush 18 (-19) rfl rfl (by decide) ?_
  refine zj_ireturn 19 rfl rfl rfl ?_
  exact ⟨zrt (by decide +kernel), rfl, rfl⟩
theorem k_joiningOf_d (c : Int32) (h0 : ¬ c = 124) (h1 : ¬ c = 38) (h2 : ¬ c = 60) (h3 : ¬ c = 62) (h4 : ¬ c = 61) (h5 : ¬ c = 43) (h6 : ¬ c = 45) (h7 : ¬ c = 42) (h8 : ¬ c = 47) : zM E YSp_joiningOf 1 [.int c] (σ) (some (.int (uJoin c))) (σ) := by
  refine zM.of oSp_joiningOf (by decide +kernel) rfl rfl (fun n => ?_)
  refine zj_iload_n 0 rfl rfl rfl ?_
  refine zj_lsw (t := 111) 1 rfl rfl (by decide +kernel) (zlsw_d [38, 42, 43, 45, 47, 60, 61, 62, 124] (by decide +kernel) (fun v hv => by
      simp only [List.mem_cons, List.not_mem_nil, or_false] at hv
      rcases hv with rfl | rfl | rfl | rfl | rfl | rfl | rfl | rfl | rfl
      · exact zti_ne 38 h1 (by decide +kernel)
      · exact zti_ne 42 h7 (by decide +kernel)
      · exact zti_ne 43 h5 (by decide +kernel)
      · exact zti_ne 45 h6 (by decide +kernel)
      · exact zti_ne 47 h8 (by decide +kernel)
      · exact zti_ne 60 h2 (by decide +kernel)
      · exact zti_ne 61 h4 (by decide +kernel)
      · exact zti_ne 62 h3 (by decide +kernel)
      · exact zti_ne 124 h0 (by decide +kernel))) ?_
  refine zj_iconst 20 (0) rfl rfl (by decide) ?_
  refine zj_ireturn 21 rfl rfl rfl ?_
  exact ⟨zrt (by unfold uJoin; rw [if_neg h0, if_neg h1, if_neg h2, if_neg h3, if_neg h4, if_neg h5, if_neg h6, if_neg h7, if_neg h8]), rfl, rfl⟩
theorem k_joiningOf (c : Int32) : zM E YSp_joiningOf 1 [.int c] σ (some (.int (uJoin c))) σ := by
  by_cases h0 : c = 124
  · subst h0; exact k_joiningOf_124
  by_cases h1 : c = 38
  · subst h1; exact k_joiningOf_38
  by_cases h2 : c = 60
  · subst h2; exact k_joiningOf_60
  by_cases h3 : c = 62
  · subst h3; exact k_joiningOf_62
  by_cases h4 : c = 61
  · subst h4; exact k_joiningOf_61
  by_cases h5 : c = 43
  · subst h5; exact k_joiningOf_43
  by_cases h6 : c = 45
  · subst h6; exact k_joiningOf_45
  by_cases h7 : c = 42
  · subst h7; exact k_joiningOf_42
  by_cases h8 : c = 47
  · subst h8; exact k_joiningOf_47
  exact k_joiningOf_d c h0 h1 h2 h3 h4 h5 h6 h7 h8
theorem k_levelOf_m11  : zM E YLa_levelOf 1 [.int (-11)] (σ) (some (.int (uLev (-11)))) (σ) := by
  refine zM.of oLa_levelOf (by decide +kernel) rfl rfl (fun n => ?_)
  refine zj_iload_n 0 rfl rfl rfl ?_
  refine zj_tsw (t := 52) 1 rfl rfl (by decide +kernel) (by decide +kernel) ?_
  refine zj_iconst 2 (0) rfl rfl (by decide) ?_
  refine zj_ireturn 3 rfl rfl rfl ?_
  exact ⟨zrt (by decide +kernel), rfl, rfl⟩
theorem k_levelOf_m12  : zM E YLa_levelOf 1 [.int (-12)] (σ) (some (.int (uLev (-12)))) (σ) := by
  refine zM.of oLa_levelOf (by decide +kernel) rfl rfl (fun n => ?_)
  refine zj_iload_n 0 rfl rfl rfl ?_
  refine zj_tsw (t := 54) 1 rfl rfl (by decide +kernel) (by decide +kernel) ?_
  refine zj_iconst 4 (1) rfl rfl (by decide) ?_
  refine zj_ireturn 5 rfl rfl rfl ?_
  exact ⟨zrt (by decide +kernel), rfl, rfl⟩
theorem k_levelOf_m16  : zM E YLa_levelOf 1 [.int (-16)] (σ) (some (.int (uLev (-16)))) (σ) := by
  refine zM.of oLa_levelOf (by decide +kernel) rfl rfl (fun n => ?_)
  refine zj_iload_n 0 rfl rfl rfl ?_
  refine zj_tsw (t := 56) 1 rfl rfl (by decide +kernel) (by decide +kernel) ?_
  refine zj_iconst 6 (3) rfl rfl (by decide) ?_
  refine zj_ireturn 7 rfl rfl rfl ?_
  exact ⟨zrt (by decide +kernel), rfl, rfl⟩
theorem k_levelOf_m17  : zM E YLa_levelOf 1 [.int (-17)] (σ) (some (.int (uLev (-17)))) (σ) := by
  refine zM.of oLa_levelOf (by decide +kernel) rfl rfl (fun n => ?_)
  refine zj_iload_n 0 rfl rfl rfl ?_
  refine zj_tsw (t := 56) 1 rfl rfl (by decide +kernel) (by decide +kernel) ?_
  refine zj_iconst 6 (3) rfl rfl (by decide) ?_
  refine zj_ireturn 7 rfl rfl rfl ?_
  exact ⟨zrt (by decide +kernel), rfl, rfl⟩
theorem k_levelOf_m18  : zM E YLa_levelOf 1 [.int (-18)] (σ) (some (.int (uLev (-18)))) (σ) := by
  refine zM.of oLa_levelOf (by decide +kernel) rfl rfl (fun n => ?_)
  refine zj_iload_n 0 rfl rfl rfl ?_
  refine zj_tsw (t := 58) 1 rfl rfl (by decide +kernel) (by decide +kernel) ?_
  refine zj_iconst 8 (4) rfl rfl (by decide) ?_
  refine zj_ireturn 9 rfl rfl rfl ?_
  exact ⟨zrt (by decide +kernel), rfl, rfl⟩
theorem k_levelOf_m19  : zM E YLa_levelOf 1 [.int (-19)] (σ) (some (.int (uLev (-19)))) (σ) := by
  refine zM.of oLa_levelOf (by decide +kernel) rfl rfl (fun n => ?_)
  refine zj_iload_n 0 rfl rfl rfl ?_
  refine zj_tsw (t := 58) 1 rfl rfl (by decide +kernel) (by decide +kernel) ?_
  refine zj_iconst 8 (4) rfl rfl (by decide) ?_
  refine zj_ireturn 9 rfl rfl rfl ?_
  exact ⟨zrt (by decide +kernel), rfl, rfl⟩
theorem k_levelOf_d (c : Int32) (h0 : ¬ c = (-11)) (h1 : ¬ c = (-12)) (h2 : ¬ c = (-16)) (h3 : ¬ c = (-17)) (h4 : ¬ c = (-18)) (h5 : ¬ c = (-19)) : zM E YLa_levelOf 1 [.int c] (σ) (some (.int (uLev c))) (σ) := by
  refine zM.of oLa_levelOf (by decide +kernel) rfl rfl (fun n => ?_)
  refine zj_iload_n 0 rfl rfl rfl ?_
  refine zj_tsw (t := 60) 1 rfl rfl (ztsw_d [-19, -18, -17, -16, -12, -11] (by decide +kernel) (by decide +kernel) (fun v hv => by
      simp only [List.mem_cons, List.not_mem_nil, or_false] at hv
      rcases hv with rfl | rfl | rfl | rfl | rfl | rfl
      · exact zti_ne (-19) h5 (by decide +kernel)
      · exact zti_ne (-18) h4 (by decide +kernel)
      · exact zti_ne (-17) h3 (by decide +kernel)
      · exact zti_ne (-16) h2 (by decide +kernel)
      · exact zti_ne (-12) h1 (by decide +kernel)
      · exact zti_ne (-11) h0 (by decide +kernel))) (by decide +kernel) ?_
  refine zj_iconst 10 (2) rfl rfl (by decide) ?_
  refine zj_ireturn 11 rfl rfl rfl ?_
  exact ⟨zrt (by unfold uLev; rw [if_neg h0, if_neg h1, if_neg h2, if_neg h3, if_neg h4, if_neg h5]), rfl, rfl⟩
theorem k_levelOf (c : Int32) : zM E YLa_levelOf 1 [.int c] σ (some (.int (uLev c))) σ := by
  by_cases h0 : c = (-11)
  · subst h0; exact k_levelOf_m11
  by_cases h1 : c = (-12)
  · subst h1; exact k_levelOf_m12
  by_cases h2 : c = (-16)
  · subst h2; exact k_levelOf_m16
  by_cases h3 : c = (-17)
  · subst h3; exact k_levelOf_m17
  by_cases h4 : c = (-18)
  · subst h4; exact k_levelOf_m18
  by_cases h5 : c = (-19)
  · subst h5; exact k_levelOf_m19
  exact k_levelOf_d c h0 h1 h2 h3 h4 h5
end
