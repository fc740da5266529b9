def YLw (nm : String) : zY := (⟨"DiscLinesLaw", nm, "([I)Z"⟩, 10, code, 4, (some .boolean), rLw_law)
theorem oLw (nm : String) : zok (YLw nm) := oLw_law
theorem lq_0 {nm : String} (i : Nat) : (YLw nm).rows[i + 0]? = (rLw0 ++ (rLw1 ++ (rLw2 ++ (rLw3 ++ (rLw4 ++ (rLw5 ++ (rLw6 ++ (rLw7 ++ (rLw8 ++ (rLw9 ++ (rLw10 ++ (rLw11 ++ (rLw12 ++ (rLw13 ++ (rLw14 ++ (rLw15 ++ (rLw16 ++ (rLw17 ++ (rLw18 ++ (rLw19 ++ (rLw20)))))))))))))))))))))[i]? := rfl
theorem lq_1 {nm : String} (i : Nat) : (YLw nm).rows[i + 50]? = (rLw1 ++ (rLw2 ++ (rLw3 ++ (rLw4 ++ (rLw5 ++ (rLw6 ++ (rLw7 ++ (rLw8 ++ (rLw9 ++ (rLw10 ++ (rLw11 ++ (rLw12 ++ (rLw13 ++ (rLw14 ++ (rLw15 ++ (rLw16 ++ (rLw17 ++ (rLw18 ++ (rLw19 ++ (rLw20))))))))))))))))))))[i]? := by
  have h := lq_0 (nm := nm) (i + 50)
  rw [show i + 50 + 0 = i + 50 by omega] at h
  rw [h, List.getElem?_append_right (show rLw0.length ≤ i + 50 from Nat.le_add_left 50 i)]
  exact congrArg (fun x => (rLw1 ++ (rLw2 ++ (rLw3 ++ (rLw4 ++ (rLw5 ++ (rLw6 ++ (rLw7 ++ (rLw8 ++ (rLw9 ++ (rLw10 ++ (rLw11 ++ (rLw12 ++ (rLw13 ++ (rLw14 ++ (rLw15 ++ (rLw16 ++ (rLw17 ++ (rLw18 ++ (rLw19 ++ (rLw20))))))))))))))))))))[x]?) (Nat.add_sub_cancel i 50)
theorem lq_2 {nm : String} (i : Nat) : (YLw nm).rows[i + 100]? = (rLw2 ++ (rLw3 ++ (rLw4 ++ (rLw5 ++ (rLw6 ++ (rLw7 ++ (rLw8 ++ (rLw9 ++ (rLw10 ++ (rLw11 ++ (rLw12 ++ (rLw13 ++ (rLw14 ++ (rLw15 ++ (rLw16 ++ (rLw17 ++ (rLw18 ++ (rLw19 ++ (rLw20)))))))))))))))))))[i]? := by
  have h := lq_1 (nm := nm) (i + 50)
  rw [show i + 50 + 50 = i + 100 by omega] at h
  rw [h, List.getElem?_append_right (show rLw1.length ≤ i + 50 from Nat.le_add_left 50 i)]
  exact congrArg (fun x => (rLw2 ++ (rLw3 ++ (rLw4 ++ (rLw5 ++ (rLw6 ++ (rLw7 ++ (rLw8 ++ (rLw9 ++ (rLw10 ++ (rLw11 ++ (rLw12 ++ (rLw13 ++ (rLw14 ++ (rLw15 ++ (rLw16 ++ (rLw17 ++ (rLw18 ++ (rLw19 ++ (rLw20)))))))))))))))))))[x]?) (Nat.add_sub_cancel i 50)
theorem lq_3 {nm : String} (i : Nat) : (YLw nm).rows[i + 150]? = (rLw3 ++ (rLw4 ++ (rLw5 ++ (rLw6 ++ (rLw7 ++ (rLw8 ++ (rLw9 ++ (rLw10 ++ (rLw11 ++ (rLw12 ++ (rLw13 ++ (rLw14 ++ (rLw15 ++ (rLw16 ++ (rLw17 ++ (rLw18 ++ (rLw19 ++ (rLw20))))))))))))))))))[i]? := by
  have h := lq_2 (nm := nm) (i + 50)
  rw [show i + 50 + 100 = i + 150 by omega] at h
  rw [h, List.getElem?_append_right (show rLw2.length ≤ i + 50 from Nat.le_add_left 50 i)]
  exact congrArg (fun x => (rLw3 ++ (rLw4 ++ (rLw5 ++ (rLw6 ++ (rLw7 ++ (rLw8 ++ (rLw9 ++ (rLw10 ++ (rLw11 ++ (rLw12 ++ (rLw13 ++ (rLw14 ++ (rLw15 ++ (rLw16 ++ (rLw17 ++ (rLw18 ++ (rLw19 ++ (rLw20))))))))))))))))))[x]?) (Nat.add_sub_cancel i 50)
theorem lq_4 {nm : String} (i : Nat) : (YLw nm).rows[i + 200]? = (rLw4 ++ (rLw5 ++ (rLw6 ++ (rLw7 ++ (rLw8 ++ (rLw9 ++ (rLw10 ++ (rLw11 ++ (rLw12 ++ (rLw13 ++ (rLw14 ++ (rLw15 ++ (rLw16 ++ (rLw17 ++ (rLw18 ++ (rLw19 ++ (rLw20)))))))))))))))))[i]? := by
  have h := lq_3 (nm := nm) (i + 50)
  rw [show i + 50 + 150 = i + 200 by omega] at h
  rw [h, List.getElem?_append_right (show rLw3.length ≤ i + 50 from Nat.le_add_left 50 i)]
  exact congrArg (fun x => (rLw4 ++ (rLw5 ++ (rLw6 ++ (rLw7 ++ (rLw8 ++ (rLw9 ++ (rLw10 ++ (rLw11 ++ (rLw12 ++ (rLw13 ++ (rLw14 ++ (rLw15 ++ (rLw16 ++ (rLw17 ++ (rLw18 ++ (rLw19 ++ (rLw20)))))))))))))))))[x]?) (Nat.add_sub_cancel i 50)
theorem lq_5 {nm : String} (i : Nat) : (YLw nm).rows[i + 250]? = (rLw5 ++ (rLw6 ++ (rLw7 ++ (rLw8 ++ (rLw9 ++ (rLw10 ++ (rLw11 ++ (rLw12 ++ (rLw13 ++ (rLw14 ++ (rLw15 ++ (rLw16 ++ (rLw17 ++ (rLw18 ++ (rLw19 ++ (rLw20))))))))))))))))[i]? := by
  have h := lq_4 (nm := nm) (i + 50)
  rw [show i + 50 + 200 = i + 250 by omega] at h
  rw [h, List.getElem?_append_right (show rLw4.length ≤ i + 50 from Nat.le_add_left 50 i)]
  exact congrArg (fun x => (rLw5 ++ (rLw6 ++ (rLw7 ++ (rLw8 ++ (rLw9 ++ (rLw10 ++ (rLw11 ++ (rLw12 ++ (rLw13 ++ (rLw14 ++ (rLw15 ++ (rLw16 ++ (rLw17 ++ (rLw18 ++ (rLw19 ++ (rLw20))))))))))))))))[x]?) (Nat.add_sub_cancel i 50)
theorem lq_6 {nm : String} (i : Nat) : (YLw nm).rows[i + 300]? = (rLw6 ++ (rLw7 ++ (rLw8 ++ (rLw9 ++ (rLw10 ++ (rLw11 ++ (rLw12 ++ (rLw13 ++ (rLw14 ++ (rLw15 ++ (rLw16 ++ (rLw17 ++ (rLw18 ++ (rLw19 ++ (rLw20)))))))))))))))[i]? := by
  have h := lq_5 (nm := nm) (i + 50)
  rw [show i + 50 + 250 = i + 300 by omega] at h
  rw [h, List.getElem?_append_right (show rLw5.length ≤ i + 50 from Nat.le_add_left 50 i)]
  exact congrArg (fun x => (rLw6 ++ (rLw7 ++ (rLw8 ++ (rLw9 ++ (rLw10 ++ (rLw11 ++ (rLw12 ++ (rLw13 ++ (rLw14 ++ (rLw15 ++ (rLw16 ++ (rLw17 ++ (rLw18 ++ (rLw19 ++ (rLw20)))))))))))))))[x]?) (Nat.add_sub_cancel i 50)
theorem lq_7 {nm : String} (i : Nat) : (YLw nm).rows[i + 350]? = (rLw7 ++ (rLw8 ++ (rLw9 ++ (rLw10 ++ (rLw11 ++ (rLw12 ++ (rLw13 ++ (rLw14 ++ (rLw15 ++ (rLw16 ++ (rLw17 ++ (rLw18 ++ (rLw19 ++ (rLw20))))))))))))))[i]? := by
  have h := lq_6 (nm := nm) (i + 50)
  rw [show i + 50 + 300 = i + 350 by omega] at h
  rw [h, List.getElem?_append_right (show rLw6.length ≤ i + 50 from Nat.le_add_left 50 i)]
  exact congrArg (fun x => (rLw7 ++ (rLw8 ++ (rLw9 ++ (rLw10 ++ (rLw11 ++ (rLw12 ++ (rLw13 ++ (rLw14 ++ (rLw15 ++ (rLw16 ++ (rLw17 ++ (rLw18 ++ (rLw19 ++ (rLw20))))))))))))))[x]?) (Nat.add_sub_cancel i 50)
theorem lq_8 {nm : String} (i : Nat) : (YLw nm).rows[i + 400]? = (rLw8 ++ (rLw9 ++ (rLw10 ++ (rLw11 ++ (rLw12 ++ (rLw13 ++ (rLw14 ++ (rLw15 ++ (rLw16 ++ (rLw17 ++ (rLw18 ++ (rLw19 ++ (rLw20)))))))))))))[i]? := by
  have h := lq_7 (nm := nm) (i + 50)
  rw [show i + 50 + 350 = i + 400 by omega] at h
  rw [h, List.getElem?_append_right (show rLw7.length ≤ i + 50 from Nat.le_add_left 50 i)]
  exact congrArg (fun x => (rLw8 ++ (rLw9 ++ (rLw10 ++ (rLw11 ++ (rLw12 ++ (rLw13 ++ (rLw14 ++ (rLw15 ++ (rLw16 ++ (rLw17 ++ (rLw18 ++ (rLw19 ++ (rLw20)))))))))))))[x]?) (Nat.add_sub_cancel i 50)
theorem lq_9 {nm : String} (i : Nat) : (YLw nm).rows[i + 450]? = (rLw9 ++ (rLw10 ++ (rLw11 ++ (rLw12 ++ (rLw13 ++ (rLw14 ++ (rLw15 ++ (rLw16 ++ (rLw17 ++ (rLw18 ++ (rLw19 ++ (rLw20))))))))))))[i]? := by
  have h := lq_8 (nm := nm) (i + 50)
  rw [show i + 50 + 400 = i + 450 by omega] at h
  rw [h, List.getElem?_append_right (show rLw8.length ≤ i + 50 from Nat.le_add_left 50 i)]
  exact congrArg (fun x => (rLw9 ++ (rLw10 ++ (rLw11 ++ (rLw12 ++ (rLw13 ++ (rLw14 ++ (rLw15 ++ (rLw16 ++ (rLw17 ++ (rLw18 ++ (rLw19 ++ (rLw20))))))))))))[x]?) (Nat.add_sub_cancel i 50)
theorem lq_10 {nm : String} (i : Nat) : (YLw nm).rows[i + 500]? = (rLw10 ++ (rLw11 ++ (rLw12 ++ (rLw13 ++ (rLw14 ++ (rLw15 ++ (rLw16 ++ (rLw17 ++ (rLw18 ++ (rLw19 ++ (rLw20)))))))))))[i]? := by
  have h := lq_9 (nm := nm) (i + 50)
  rw [show i + 50 + 450 = i + 500 by omega] at h
  rw [h, List.getElem?_append_right (show rLw9.length ≤ i + 50 from Nat.le_add_left 50 i)]
  exact congrArg (fun x => (rLw10 ++ (rLw11 ++ (rLw12 ++ (rLw13 ++ (rLw14 ++ (rLw15 ++ (rLw16 ++ (rLw17 ++ (rLw18 ++ (rLw19 ++ (rLw20)))))))))))[x]?) (Nat.add_sub_cancel i 50)
theorem lq_11 {nm : String} (i : Nat) : (YLw nm).rows[i + 550]? = (rLw11 ++ (rLw12 ++ (rLw13 ++ (rLw14 ++ (rLw15 ++ (rLw16 ++ (rLw17 ++ (rLw18 ++ (rLw19 ++ (rLw20))))))))))[i]? := by
  have h := lq_10 (nm := nm) (i + 50)
  rw [show i + 50 + 500 = i + 550 by omega] at h
  rw [h, List.getElem?_append_right (show rLw10.length ≤ i + 50 from Nat.le_add_left 50 i)]
  exact congrArg (fun x => (rLw11 ++ (rLw12 ++ (rLw13 ++ (rLw14 ++ (rLw15 ++ (rLw16 ++ (rLw17 ++ (rLw18 ++ (rLw19 ++ (rLw20))))))))))[x]?) (Nat.add_sub_cancel i 50)
theorem lq_12 {nm : String} (i : Nat) : (YLw nm).rows[i + 600]? = (rLw12 ++ (rLw13 ++ (rLw14 ++ (rLw15 ++ (rLw16 ++ (rLw17 ++ (rLw18 ++ (rLw19 ++ (rLw20)))))))))[i]? := by
  have h := lq_11 (nm := nm) (i + 50)
  rw [show i + 50 + 550 = i + 600 by omega] at h
  rw [h, List.getElem?_append_right (show rLw11.length ≤ i + 50 from Nat.le_add_left 50 i)]
  exact congrArg (fun x => (rLw12 ++ (rLw13 ++ (rLw14 ++ (rLw15 ++ (rLw16 ++ (rLw17 ++ (rLw18 ++ (rLw19 ++ (rLw20)))))))))[x]?) (Nat.add_sub_cancel i 50)
theorem lq_13 {nm : String} (i : Nat) : (YLw nm).rows[i + 650]? = (rLw13 ++ (rLw14 ++ (rLw15 ++ (rLw16 ++ (rLw17 ++ (rLw18 ++ (rLw19 ++ (rLw20))))))))[i]? := by
  have h := lq_12 (nm := nm) (i + 50)
  rw [show i + 50 + 600 = i + 650 by omega] at h
  rw [h, List.getElem?_append_right (show rLw12.length ≤ i + 50 from Nat.le_add_left 50 i)]
  exact congrArg (fun x => (rLw13 ++ (rLw14 ++ (rLw15 ++ (rLw16 ++ (rLw17 ++ (rLw18 ++ (rLw19 ++ (rLw20))))))))[x]?) (Nat.add_sub_cancel i 50)
theorem lq_14 {nm : String} (i : Nat) : (YLw nm).rows[i + 700]? = (rLw14 ++ (rLw15 ++ (rLw16 ++ (rLw17 ++ (rLw18 ++ (rLw19 ++ (rLw20)))))))[i]? := by
  have h := lq_13 (nm := nm) (i + 50)
  rw [show i + 50 + 650 = i + 700 by omega] at h
  rw [h, List.getElem?_append_right (show rLw13.length ≤ i + 50 from Nat.le_add_left 50 i)]
  exact congrArg (fun x => (rLw14 ++ (rLw15 ++ (rLw16 ++ (rLw17 ++ (rLw18 ++ (rLw19 ++ (rLw20)))))))[x]?) (Nat.add_sub_cancel i 50)
theorem lq_15 {nm : String} (i : Nat) : (YLw nm).rows[i + 750]? = (rLw15 ++ (rLw16 ++ (rLw17 ++ (rLw18 ++ (rLw19 ++ (rLw20))))))[i]? := by
  have h := lq_14 (nm := nm) (i + 50)
  rw [show i + 50 + 700 = i + 750 by omega] at h
  rw [h, List.getElem?_append_right (show rLw14.length ≤ i + 50 from Nat.le_add_left 50 i)]
  exact congrArg (fun x => (rLw15 ++ (rLw16 ++ (rLw17 ++ (rLw18 ++ (rLw19 ++ (rLw20))))))[x]?) (Nat.add_sub_cancel i 50)
theorem lq_16 {nm : String} (i : Nat) : (YLw nm).rows[i + 800]? = (rLw16 ++ (rLw17 ++ (rLw18 ++ (rLw19 ++ (rLw20)))))[i]? := by
  have h := lq_15 (nm := nm) (i + 50)
  rw [show i + 50 + 750 = i + 800 by omega] at h
  rw [h, List.getElem?_append_right (show rLw15.length ≤ i + 50 from Nat.le_add_left 50 i)]
  exact congrArg (fun x => (rLw16 ++ (rLw17 ++ (rLw18 ++ (rLw19 ++ (rLw20)))))[x]?) (Nat.add_sub_cancel i 50)
theorem lq_17 {nm : String} (i : Nat) : (YLw nm).rows[i + 850]? = (rLw17 ++ (rLw18 ++ (rLw19 ++ (rLw20))))[i]? := by
  have h := lq_16 (nm := nm) (i + 50)
  rw [show i + 50 + 800 = i + 850 by omega] at h
  rw [h, List.getElem?_append_right (show rLw16.length ≤ i + 50 from Nat.le_add_left 50 i)]
  exact congrArg (fun x => (rLw17 ++ (rLw18 ++ (rLw19 ++ (rLw20))))[x]?) (Nat.add_sub_cancel i 50)
theorem lq_18 {nm : String} (i : Nat) : (YLw nm).rows[i + 900]? = (rLw18 ++ (rLw19 ++ (rLw20)))[i]? := by
  have h := lq_17 (nm := nm) (i + 50)
  rw [show i + 50 + 850 = i + 900 by omega] at h
  rw [h, List.getElem?_append_right (show rLw17.length ≤ i + 50 from Nat.le_add_left 50 i)]
  exact congrArg (fun x => (rLw18 ++ (rLw19 ++ (rLw20)))[x]?) (Nat.add_sub_cancel i 50)
theorem lq_19 {nm : String} (i : Nat) : (YLw nm).rows[i + 950]? = (rLw19 ++ (rLw20))[i]? := by
  have h := lq_18 (nm := nm) (i + 50)
  rw [show i + 50 + 900 = i + 950 by omega] at h
  rw [h, List.getElem?_append_right (show rLw18.length ≤ i + 50 from Nat.le_add_left 50 i)]
  exact congrArg (fun x => (rLw19 ++ (rLw20))[x]?) (Nat.add_sub_cancel i 50)
theorem lq_20 {nm : String} (i : Nat) : (YLw nm).rows[i + 1000]? = (rLw20)[i]? := by
  have h := lq_19 (nm := nm) (i + 50)
  rw [show i + 50 + 950 = i + 1000 by omega] at h
  rw [h, List.getElem?_append_right (show rLw19.length ≤ i + 50 from Nat.le_add_left 50 i)]
  exact congrArg (fun x => (rLw20)[x]?) (Nat.add_sub_cancel i 50)
/-! the law: its cases -/
abbrev finL (E : zE) : zF := fun below args s t => (s.heap.size = E.z ∧ args = #[Value.ref E.b]) → lw_Z below #[Value.ref E.b] s t
theorem zj_lawend {nm : String} {E : zE} {n cells slots pc q u v : Nat} {w : Int} {σ : zH} {L : List (Option Value)} (k : Nat) (h : (YLw nm).rows[k]? = some (pc, .ireturn, q, u, v, w)) (hq : pc + 1 = q) (hc : cells ≤ 600000) (hs : slots ≤ 7302250) : zJ E (YLw nm) room_1 (finL E) n cells slots σ pc L [.int 1] := by
  intro p e s m args below meth c H locs ls C hR hf hl
  by_cases hz : s.heap.size = E.z ∧ args = #[Value.ref E.b]
  · obtain ⟨hz1, rfl⟩ := hz
    have hW : W p E.l e room_1 s m #[Value.ref E.b] below meth c H locs cells slots (lw_Z below #[Value.ref E.b] s) (F0 m pc ls [.int 1]) := by
      refine va_forget (fun q hq => by rw [hz1]; exact hf q hq) ?_
      refine W.widen hc hs ?_
      exact lw_ret C.1 C.2.1 C.2.2.2.1 C.2.2.2.2.1 (zdec C.2.2.2.2.2.2.2.2.2 h hq).1
    intro T hT X
    obtain ⟨t, a1, b1⟩ := hW T hT X
    exact ⟨t, a1, fun _ => b1⟩
  · intro T hT X
    exact ⟨_, Steps.refl _, fun g => absurd g hz⟩
theorem mw_keep {σ τ : zH} {a c : Nat} {M : zMo} (z : zsm (mw σ a M) τ c (c + 134)) (hd : c + 134 ≤ a) : mw τ a M = τ :=
  mw_id ((z a (by omega)).trans mw_0) ((z _ (by omega)).trans mw_1) ((z _ (by omega)).trans mw_2) ((z _ (by omega)).trans mw_3) ((z _ (by omega)).trans mw_4) ((z _ (by omega)).trans mw_5) ((z _ (by omega)).trans mw_6) ((z _ (by omega)).trans mw_7) ((z _ (by omega)).trans mw_8) ((z _ (by omega)).trans mw_9) ((z _ (by omega)).trans mw_10) ((z _ (by omega)).trans mw_11)
theorem mw_smm {σ : zH} {a : Nat} {M : zMo} : zsm σ (mw σ a M) a (a + 12) := fun q hq => mw_ne hq
theorem law_cond {L i : Nat} (hL : L ≤ 3584) (hi : i ≤ L) (h : ¬ nI L - 7 < nI i) : i + 7 ≤ L := by
  rw [show (7 : Int32) = nI 7 from rfl, Int32.lt_iff_toInt_lt, pk_sub_toInt (by omega) (by omega), nI_toInt (by omega)] at h
  omega
section
variable {nm : String} {E : zE} {c a n i : Nat} {σ2 : zH} {M : zMo} {K : zDc} {fin : zF}
theorem lc_shade (h : dAt (mw σ2 a M) c K) (hi : inv K (mCo M)) (hd : c + 134 ≤ a) (hiL : i + 7 ≤ E.L) (hL31 : E.L < 2 ^ 31) (kk : ∀ σ2 M K, dAt (mw σ2 a M) c K → inv K (mCo M) → zJ E (YLw nm) room_1 fin n 146 6187 (mw σ2 a M) 1373 [some (.ref E.b), some (.ref c), some (.ref a), some (.int (nI i))] []) : zJ E (YLw nm) room_1 fin n 146 6187 (mw σ2 a M) 184 [some (.ref E.b), some (.ref c), some (.ref a), some (.int (nI i))] [] := by
  obtain ⟨v, R', hD, hM⟩ := w_shade (E := E) (a := a) h hi (E.xs (i + 1)) (E.xs (i + 2)) (E.xs (i + 3))
  refine zj_aload_n 22 rfl rfl rfl ?_
  refine zj_aload_n 23 rfl rfl rfl ?_
  refine zj_iload_n 24 rfl rfl rfl ?_
  refine zj_iconst 25 (1) rfl rfl (by decide) ?_
  refine zn_iadd 26 (i) (1) rfl rfl rfl rfl ?_
  refine zj_sld 27 (i + 1) rfl rfl rfl (by omega) hL31 ?_
  refine zj_aload_n 28 rfl rfl rfl ?_
  refine zj_iload_n 29 rfl rfl rfl ?_
  refine zj_iconst 30 (2) rfl rfl (by decide) ?_
  refine zn_iadd 31 (i) (2) rfl rfl rfl rfl ?_
  refine zj_sld 32 (i + 2) rfl rfl rfl (by omega) hL31 ?_
  refine zj_aload_n 33 rfl rfl rfl ?_
  refine zj_iload_n 34 rfl rfl rfl ?_
  refine zj_iconst 35 (3) rfl rfl (by decide) ?_
  refine zn_iadd 36 (i) (3) rfl rfl rfl rfl ?_
  refine zj_sld 37 (i + 3) rfl rfl rfl (by omega) hL31 ?_
  refine zj_cvxX 38 rfl rfl lk_10_13 ckD_shade hD rfl h.1 rfl rfl rfl (fun s1 hP1 => ?_)
  obtain ⟨z1, K1, h1, i1⟩ := hP1
  have em := mw_keep z1 hd
  rw [← em]
  refine zj_aload_n 39 rfl rfl rfl ?_
  refine zj_aload_n 40 rfl rfl rfl ?_
  refine zj_iload_n 41 rfl rfl rfl ?_
  refine zj_iconst 42 (1) rfl rfl (by decide) ?_
  refine zn_iadd 43 (i) (1) rfl rfl rfl rfl ?_
  refine zj_sld 44 (i + 1) rfl rfl rfl (by omega) hL31 ?_
  refine zj_aload_n 45 rfl rfl rfl ?_
  refine zj_iload_n 46 rfl rfl rfl ?_
  refine zj_iconst 47 (2) rfl rfl (by decide) ?_
  refine zn_iadd 48 (i) (2) rfl rfl rfl rfl ?_
  refine zj_sld 49 (i + 2) rfl rfl rfl (by omega) hL31 ?_
  refine zj_aload_n 50 rfl rfl rfl ?_
  refine zj_iload_n 51 rfl rfl rfl ?_
  refine zj_iconst 52 (3) rfl rfl (by decide) ?_
  refine zn_iadd 53 (i) (3) rfl rfl rfl rfl ?_
  refine zj_sld 54 (i + 3) rfl rfl rfl (by omega) hL31 ?_
  refine zj_cvxX 55 rfl rfl lk_10_17 ckM_shade (hM _ M rfl) rfl mw_0 rfl rfl rfl (fun s1 hP1 => ?_)
  obtain ⟨M2, rfl, hR⟩ := hP1
  refine zj_icmp_eq 56 rfl rfl (fun c222 => ?_) (fun c222 => ?_)
  · subst hR
    exact kk _ M2 K1 (h1.sm mw_smm (Or.inl hd)) i1
  · exact absurd rfl c222
theorem lc_green (h : dAt (mw σ2 a M) c K) (hi : inv K (mCo M)) (hd : c + 134 ≤ a) (hiL : i + 7 ≤ E.L) (hL31 : E.L < 2 ^ 31) (kk : ∀ σ2 M K, dAt (mw σ2 a M) c K → inv K (mCo M) → zJ E (YLw nm) room_1 fin n 146 6187 (mw σ2 a M) 1373 [some (.ref E.b), some (.ref c), some (.ref a), some (.int (nI i))] []) : zJ E (YLw nm) room_1 fin n 146 6187 (mw σ2 a M) 227 [some (.ref E.b), some (.ref c), some (.ref a), some (.int (nI i))] [] := by
  obtain ⟨v, R', hD, hM⟩ := w_green (E := E) (a := a) h hi (E.xs (i + 1)) (E.xs (i + 2)) (E.xs (i + 3))
  refine zj_aload_n 59 rfl rfl rfl ?_
  refine zj_aload_n 60 rfl rfl rfl ?_
  refine zj_iload_n 61 rfl rfl rfl ?_
  refine zj_iconst 62 (1) rfl rfl (by decide) ?_
  refine zn_iadd 63 (i) (1) rfl rfl rfl rfl ?_
  refine zj_sld 64 (i + 1) rfl rfl rfl (by omega) hL31 ?_
  refine zj_aload_n 65 rfl rfl rfl ?_
  refine zj_iload_n 66 rfl rfl rfl ?_
  refine zj_iconst 67 (2) rfl rfl (by decide) ?_
  refine zn_iadd 68 (i) (2) rfl rfl rfl rfl ?_
  refine zj_sld 69 (i + 2) rfl rfl rfl (by omega) hL31 ?_
  refine zj_aload_n 70 rfl rfl rfl ?_
  refine zj_iload_n 71 rfl rfl rfl ?_
  refine zj_iconst 72 (3) rfl rfl (by decide) ?_
  refine zn_iadd 73 (i) (3) rfl rfl rfl rfl ?_
  refine zj_sld 74 (i + 3) rfl rfl rfl (by omega) hL31 ?_
  refine zj_cvxX 75 rfl rfl lk_10_18 ckD_green hD rfl h.1 rfl rfl rfl (fun s1 hP1 => ?_)
  obtain ⟨z1, K1, h1, i1⟩ := hP1
  have em := mw_keep z1 hd
  rw [← em]
  refine zj_aload_n 76 rfl rfl rfl ?_
  refine zj_aload_n 77 rfl rfl rfl ?_
  refine zj_iload_n 78 rfl rfl rfl ?_
  refine zj_iconst 79 (1) rfl rfl (by decide) ?_
  refine zn_iadd 80 (i) (1) rfl rfl rfl rfl ?_
  refine zj_sld 81 (i + 1) rfl rfl rfl (by omega) hL31 ?_
  refine zj_aload_n 82 rfl rfl rfl ?_
  refine zj_iload_n 83 rfl rfl rfl ?_
  refine zj_iconst 84 (2) rfl rfl (by decide) ?_
  refine zn_iadd 85 (i) (2) rfl rfl rfl rfl ?_
  refine zj_sld 86 (i + 2) rfl rfl rfl (by omega) hL31 ?_
  refine zj_aload_n 87 rfl rfl rfl ?_
  refine zj_iload_n 88 rfl rfl rfl ?_
  refine zj_iconst 89 (3) rfl rfl (by decide) ?_
  refine zn_iadd 90 (i) (3) rfl rfl rfl rfl ?_
  refine zj_sld 91 (i + 3) rfl rfl rfl (by omega) hL31 ?_
  refine zj_cvxX 92 rfl rfl lk_10_21 ckM_green (hM _ M rfl) rfl mw_0 rfl rfl rfl (fun s1 hP1 => ?_)
  obtain ⟨M2, rfl, hR⟩ := hP1
  refine zj_icmp_eq 93 rfl rfl (fun c265 => ?_) (fun c265 => ?_)
  · subst hR
    exact kk _ M2 K1 (h1.sm mw_smm (Or.inl hd)) i1
  · exact absurd rfl c265
theorem lc_mark (h : dAt (mw σ2 a M) c K) (hi : inv K (mCo M)) (hd : c + 134 ≤ a) (hiL : i + 7 ≤ E.L) (hL31 : E.L < 2 ^ 31) (kk : ∀ σ2 M K, dAt (mw σ2 a M) c K → inv K (mCo M) → zJ E (YLw nm) room_1 fin n 146 6187 (mw σ2 a M) 1373 [some (.ref E.b), some (.ref c), some (.ref a), some (.int (nI i))] []) : zJ E (YLw nm) room_1 fin n 146 6187 (mw σ2 a M) 270 [some (.ref E.b), some (.ref c), some (.ref a), some (.int (nI i))] [] := by
  obtain ⟨v, R', hD, hM⟩ := w_mark (E := E) (a := a) h hi (E.xs (i + 1)) (E.xs (i + 2))
  refine zj_aload_n 96 rfl rfl rfl ?_
  refine zj_aload_n 97 rfl rfl rfl ?_
  refine zj_iload_n 98 rfl rfl rfl ?_
  refine zj_iconst 99 (1) rfl rfl (by decide) ?_
  refine zn_iadd 100 (i) (1) ((lq_2 0).trans rfl) rfl rfl rfl ?_
  refine zj_sld 101 (i + 1) ((lq_2 1).trans rfl) rfl rfl (by omega) hL31 ?_
  refine zj_aload_n 102 ((lq_2 2).trans rfl) rfl rfl ?_
  refine zj_iload_n 103 ((lq_2 3).trans rfl) rfl rfl ?_
  refine zj_iconst 104 (2) ((lq_2 4).trans rfl) rfl (by decide) ?_
  refine zn_iadd 105 (i) (2) ((lq_2 5).trans rfl) rfl rfl rfl ?_
  refine zj_sld 106 (i + 2) ((lq_2 6).trans rfl) rfl rfl (by omega) hL31 ?_
  refine zj_cvxX 107 ((lq_2 7).trans rfl) rfl lk_10_22 ckD_mark hD rfl h.1 rfl rfl rfl (fun s1 hP1 => ?_)
  obtain ⟨z1, K1, h1, i1⟩ := hP1
  have em := mw_keep z1 hd
  rw [← em]
  refine zj_aload_n 108 ((lq_2 8).trans rfl) rfl rfl ?_
  refine zj_aload_n 109 ((lq_2 9).trans rfl) rfl rfl ?_
  refine zj_iload_n 110 ((lq_2 10).trans rfl) rfl rfl ?_
  refine zj_iconst 111 (1) ((lq_2 11).trans rfl) rfl (by decide) ?_
  refine zn_iadd 112 (i) (1) ((lq_2 12).trans rfl) rfl rfl rfl ?_
  refine zj_sld 113 (i + 1) ((lq_2 13).trans rfl) rfl rfl (by omega) hL31 ?_
  refine zj_aload_n 114 ((lq_2 14).trans rfl) rfl rfl ?_
  refine zj_iload_n 115 ((lq_2 15).trans rfl) rfl rfl ?_
  refine zj_iconst 116 (2) ((lq_2 16).trans rfl) rfl (by decide) ?_
  refine zn_iadd 117 (i) (2) ((lq_2 17).trans rfl) rfl rfl rfl ?_
  refine zj_sld 118 (i + 2) ((lq_2 18).trans rfl) rfl rfl (by omega) hL31 ?_
  refine zj_cvxX 119 ((lq_2 19).trans rfl) rfl lk_10_26 ckM_mark (hM _ M rfl) rfl mw_0 rfl rfl rfl (fun s1 hP1 => ?_)
  obtain ⟨M2, rfl, hR⟩ := hP1
  refine zj_icmp_eq 120 ((lq_2 20).trans rfl) rfl (fun c298 => ?_) (fun c298 => ?_)
  · subst hR
    exact kk _ M2 K1 (h1.sm mw_smm (Or.inl hd)) i1
  · exact absurd rfl c298
theorem lc_seen (h : dAt (mw σ2 a M) c K) (hi : inv K (mCo M)) (hd : c + 134 ≤ a) (hiL : i + 7 ≤ E.L) (hL31 : E.L < 2 ^ 31) (kk : ∀ σ2 M K, dAt (mw σ2 a M) c K → inv K (mCo M) → zJ E (YLw nm) room_1 fin n 146 6187 (mw σ2 a M) 1373 [some (.ref E.b), some (.ref c), some (.ref a), some (.int (nI i))] []) : zJ E (YLw nm) room_1 fin n 146 6187 (mw σ2 a M) 303 [some (.ref E.b), some (.ref c), some (.ref a), some (.int (nI i))] [] := by
  obtain ⟨v, R', hD, hM⟩ := w_seen (E := E) (a := a) h hi (E.xs (i + 1)) (E.xs (i + 2)) (E.xs (i + 3)) (E.xs (i + 4)) (E.xs (i + 5))
  refine zj_aload_n 123 ((lq_2 23).trans rfl) rfl rfl ?_
  refine zj_aload_n 124 ((lq_2 24).trans rfl) rfl rfl ?_
  refine zj_iload_n 125 ((lq_2 25).trans rfl) rfl rfl ?_
  refine zj_iconst 126 (1) ((lq_2 26).trans rfl) rfl (by decide) ?_
  refine zn_iadd 127 (i) (1) ((lq_2 27).trans rfl) rfl rfl rfl ?_
  refine zj_sld 128 (i + 1) ((lq_2 28).trans rfl) rfl rfl (by omega) hL31 ?_
  refine zj_aload_n 129 ((lq_2 29).trans rfl) rfl rfl ?_
  refine zj_iload_n 130 ((lq_2 30).trans rfl) rfl rfl ?_
  refine zj_iconst 131 (2) ((lq_2 31).trans rfl) rfl (by decide) ?_
  refine zn_iadd 132 (i) (2) ((lq_2 32).trans rfl) rfl rfl rfl ?_
  refine zj_sld 133 (i + 2) ((lq_2 33).trans rfl) rfl rfl (by omega) hL31 ?_
  refine zj_aload_n 134 ((lq_2 34).trans rfl) rfl rfl ?_
  refine zj_iload_n 135 ((lq_2 35).trans rfl) rfl rfl ?_
  refine zj_iconst 136 (3) ((lq_2 36).trans rfl) rfl (by decide) ?_
  refine zn_iadd 137 (i) (3) ((lq_2 37).trans rfl) rfl rfl rfl ?_
  refine zj_sld 138 (i + 3) ((lq_2 38).trans rfl) rfl rfl (by omega) hL31 ?_
  refine zj_aload_n 139 ((lq_2 39).trans rfl) rfl rfl ?_
  refine zj_iload_n 140 ((lq_2 40).trans rfl) rfl rfl ?_
  refine zj_iconst 141 (4) ((lq_2 41).trans rfl) rfl (by decide) ?_
  refine zn_iadd 142 (i) (4) ((lq_2 42).trans rfl) rfl rfl rfl ?_
  refine zj_sld 143 (i + 4) ((lq_2 43).trans rfl) rfl rfl (by omega) hL31 ?_
  refine zj_aload_n 144 ((lq_2 44).trans rfl) rfl rfl ?_
  refine zj_iload_n 145 ((lq_2 45).trans rfl) rfl rfl ?_
  refine zj_iconst 146 (5) ((lq_2 46).trans rfl) rfl (by decide) ?_
  refine zn_iadd 147 (i) (5) ((lq_2 47).trans rfl) rfl rfl rfl ?_
  refine zj_sld 148 (i + 5) ((lq_2 48).trans rfl) rfl rfl (by omega) hL31 ?_
  refine zj_cvxX 149 ((lq_2 49).trans rfl) rfl lk_10_27 ckD_seen hD rfl h.1 rfl rfl rfl (fun s1 hP1 => ?_)
  obtain ⟨z1, K1, h1, i1⟩ := hP1
  have em := mw_keep z1 hd
  rw [← em]
  refine zj_aload_n 150 ((lq_3 0).trans rfl) rfl rfl ?_
  refine zj_aload_n 151 ((lq_3 1).trans rfl) rfl rfl ?_
  refine zj_iload_n 152 ((lq_3 2).trans rfl) rfl rfl ?_
  refine zj_iconst 153 (1) ((lq_3 3).trans rfl) rfl (by decide) ?_
  refine zn_iadd 154 (i) (1) ((lq_3 4).trans rfl) rfl rfl rfl ?_
  refine zj_sld 155 (i + 1) ((lq_3 5).trans rfl) rfl rfl (by omega) hL31 ?_
  refine zj_aload_n 156 ((lq_3 6).trans rfl) rfl rfl ?_
  refine zj_iload_n 157 ((lq_3 7).trans rfl) rfl rfl ?_
  refine zj_iconst 158 (2) ((lq_3 8).trans rfl) rfl (by decide) ?_
  refine zn_iadd 159 (i) (2) ((lq_3 9).trans rfl) rfl rfl rfl ?_
  refine zj_sld 160 (i + 2) ((lq_3 10).trans rfl) rfl rfl (by omega) hL31 ?_
  refine zj_aload_n 161 ((lq_3 11).trans rfl) rfl rfl ?_
  refine zj_iload_n 162 ((lq_3 12).trans rfl) rfl rfl ?_
  refine zj_iconst 163 (3) ((lq_3 13).trans rfl) rfl (by decide) ?_
  refine zn_iadd 164 (i) (3) ((lq_3 14).trans rfl) rfl rfl rfl ?_
  refine zj_sld 165 (i + 3) ((lq_3 15).trans rfl) rfl rfl (by omega) hL31 ?_
  refine zj_aload_n 166 ((lq_3 16).trans rfl) rfl rfl ?_
  refine zj_iload_n 167 ((lq_3 17).trans rfl) rfl rfl ?_
  refine zj_iconst 168 (4) ((lq_3 18).trans rfl) rfl (by decide) ?_
  refine zn_iadd 169 (i) (4) ((lq_3 19).trans rfl) rfl rfl rfl ?_
  refine zj_sld 170 (i + 4) ((lq_3 20).trans rfl) rfl rfl (by omega) hL31 ?_
  refine zj_aload_n 171 ((lq_3 21).trans rfl) rfl rfl ?_
  refine zj_iload_n 172 ((lq_3 22).trans rfl) rfl rfl ?_
  refine zj_iconst 173 (5) ((lq_3 23).trans rfl) rfl (by decide) ?_
  refine zn_iadd 174 (i) (5) ((lq_3 24).trans rfl) rfl rfl rfl ?_
  refine zj_sld 175 (i + 5) ((lq_3 25).trans rfl) rfl rfl (by omega) hL31 ?_
  refine zj_cvxX 176 ((lq_3 26).trans rfl) rfl lk_10_31 ckM_seen (hM _ M rfl) rfl mw_0 rfl rfl rfl (fun s1 hP1 => ?_)
  obtain ⟨M2, rfl, hR⟩ := hP1
  refine zj_icmp_eq 177 ((lq_3 27).trans rfl) rfl (fun c361 => ?_) (fun c361 => ?_)
  · subst hR
    exact kk _ M2 K1 (h1.sm mw_smm (Or.inl hd)) i1
  · exact absurd rfl c361
theorem lc_line (h : dAt (mw σ2 a M) c K) (hi : inv K (mCo M)) (hd : c + 134 ≤ a) (hiL : i + 7 ≤ E.L) (hL31 : E.L < 2 ^ 31) (kk : ∀ σ2 M K, dAt (mw σ2 a M) c K → inv K (mCo M) → zJ E (YLw nm) room_1 fin n 146 6187 (mw σ2 a M) 1373 [some (.ref E.b), some (.ref c), some (.ref a), some (.int (nI i))] []) : zJ E (YLw nm) room_1 fin n 146 6187 (mw σ2 a M) 366 [some (.ref E.b), some (.ref c), some (.ref a), some (.int (nI i))] [] := by
  obtain ⟨v, R', hD, hM⟩ := w_line (E := E) (a := a) h hi (E.xs (i + 1)) (E.xs (i + 2))
  refine zj_aload_n 180 ((lq_3 30).trans rfl) rfl rfl ?_
  refine zj_aload_n 181 ((lq_3 31).trans rfl) rfl rfl ?_
  refine zj_iload_n 182 ((lq_3 32).trans rfl) rfl rfl ?_
  refine zj_iconst 183 (1) ((lq_3 33).trans rfl) rfl (by decide) ?_
  refine zn_iadd 184 (i) (1) ((lq_3 34).trans rfl) rfl rfl rfl ?_
  refine zj_sld 185 (i + 1) ((lq_3 35).trans rfl) rfl rfl (by omega) hL31 ?_
  refine zj_aload_n 186 ((lq_3 36).trans rfl) rfl rfl ?_
  refine zj_iload_n 187 ((lq_3 37).trans rfl) rfl rfl ?_
  refine zj_iconst 188 (2) ((lq_3 38).trans rfl) rfl (by decide) ?_
  refine zn_iadd 189 (i) (2) ((lq_3 39).trans rfl) rfl rfl rfl ?_
  refine zj_sld 190 (i + 2) ((lq_3 40).trans rfl) rfl rfl (by omega) hL31 ?_
  refine zj_cvxX 191 ((lq_3 41).trans rfl) rfl lk_10_32 ckD_line hD rfl h.1 rfl rfl rfl (fun s1 hP1 => ?_)
  obtain ⟨z1, K1, h1, i1⟩ := hP1
  have em := mw_keep z1 hd
  rw [← em]
  refine zj_aload_n 192 ((lq_3 42).trans rfl) rfl rfl ?_
  refine zj_aload_n 193 ((lq_3 43).trans rfl) rfl rfl ?_
  refine zj_iload_n 194 ((lq_3 44).trans rfl) rfl rfl ?_
  refine zj_iconst 195 (1) ((lq_3 45).trans rfl) rfl (by decide) ?_
  refine zn_iadd 196 (i) (1) ((lq_3 46).trans rfl) rfl rfl rfl ?_
  refine zj_sld 197 (i + 1) ((lq_3 47).trans rfl) rfl rfl (by omega) hL31 ?_
  refine zj_aload_n 198 ((lq_3 48).trans rfl) rfl rfl ?_
  refine zj_iload_n 199 ((lq_3 49).trans rfl) rfl rfl ?_
  refine zj_iconst 200 (2) ((lq_4 0).trans rfl) rfl (by decide) ?_
  refine zn_iadd 201 (i) (2) ((lq_4 1).trans rfl) rfl rfl rfl ?_
  refine zj_sld 202 (i + 2) ((lq_4 2).trans rfl) rfl rfl (by omega) hL31 ?_
  refine zj_cvxX 203 ((lq_4 3).trans rfl) rfl lk_10_35 ckM_line (hM _ M rfl) rfl mw_0 rfl rfl rfl (fun s1 hP1 => ?_)
  obtain ⟨M2, rfl, hR⟩ := hP1
  refine zj_icmp_eq 204 ((lq_4 4).trans rfl) rfl (fun c394 => ?_) (fun c394 => ?_)
  · subst hR
    exact kk _ M2 K1 (h1.sm mw_smm (Or.inl hd)) i1
  · exact absurd rfl c394
theorem lc_write (h : dAt (mw σ2 a M) c K) (hi : inv K (mCo M)) (hd : c + 134 ≤ a) (hiL : i + 7 ≤ E.L) (hL31 : E.L < 2 ^ 31) (kk : ∀ σ2 M K, dAt (mw σ2 a M) c K → inv K (mCo M) → zJ E (YLw nm) room_1 fin n 146 6187 (mw σ2 a M) 1373 [some (.ref E.b), some (.ref c), some (.ref a), some (.int (nI i))] []) : zJ E (YLw nm) room_1 fin n 146 6187 (mw σ2 a M) 399 [some (.ref E.b), some (.ref c), some (.ref a), some (.int (nI i))] [] := by
  obtain ⟨v, R', hD, hM⟩ := w_write (E := E) (a := a) h hi (E.xs (i + 1)) (E.xs (i + 2))
  refine zj_aload_n 207 ((lq_4 7).trans rfl) rfl rfl ?_
  refine zj_aload_n 208 ((lq_4 8).trans rfl) rfl rfl ?_
  refine zj_iload_n 209 ((lq_4 9).trans rfl) rfl rfl ?_
  refine zj_iconst 210 (1) ((lq_4 10).trans rfl) rfl (by decide) ?_
  refine zn_iadd 211 (i) (1) ((lq_4 11).trans rfl) rfl rfl rfl ?_
  refine zj_sld 212 (i + 1) ((lq_4 12).trans rfl) rfl rfl (by omega) hL31 ?_
  refine zj_aload_n 213 ((lq_4 13).trans rfl) rfl rfl ?_
  refine zj_iload_n 214 ((lq_4 14).trans rfl) rfl rfl ?_
  refine zj_iconst 215 (2) ((lq_4 15).trans rfl) rfl (by decide) ?_
  refine zn_iadd 216 (i) (2) ((lq_4 16).trans rfl) rfl rfl rfl ?_
  refine zj_sld 217 (i + 2) ((lq_4 17).trans rfl) rfl rfl (by omega) hL31 ?_
  refine zj_cvxX 218 ((lq_4 18).trans rfl) rfl lk_10_36 ckD_write hD rfl h.1 rfl rfl rfl (fun s1 hP1 => ?_)
  obtain ⟨z1, K1, h1, i1⟩ := hP1
  have em := mw_keep z1 hd
  rw [← em]
  refine zj_aload_n 219 ((lq_4 19).trans rfl) rfl rfl ?_
  refine zj_aload_n 220 ((lq_4 20).trans rfl) rfl rfl ?_
  refine zj_iload_n 221 ((lq_4 21).trans rfl) rfl rfl ?_
  refine zj_iconst 222 (1) ((lq_4 22).trans rfl) rfl (by decide) ?_
  refine zn_iadd 223 (i) (1) ((lq_4 23).trans rfl) rfl rfl rfl ?_
  refine zj_sld 224 (i + 1) ((lq_4 24).trans rfl) rfl rfl (by omega) hL31 ?_
  refine zj_aload_n 225 ((lq_4 25).trans rfl) rfl rfl ?_
  refine zj_iload_n 226 ((lq_4 26).trans rfl) rfl rfl ?_
  refine zj_iconst 227 (2) ((lq_4 27).trans rfl) rfl (by decide) ?_
  refine zn_iadd 228 (i) (2) ((lq_4 28).trans rfl) rfl rfl rfl ?_
  refine zj_sld 229 (i + 2) ((lq_4 29).trans rfl) rfl rfl (by omega) hL31 ?_
  refine zj_cvxX 230 ((lq_4 30).trans rfl) rfl lk_10_39 ckM_write (hM _ M rfl) rfl mw_0 rfl rfl rfl (fun s1 hP1 => ?_)
  obtain ⟨M2, rfl, hR⟩ := hP1
  refine zj_icmp_eq 231 ((lq_4 31).trans rfl) rfl (fun c427 => ?_) (fun c427 => ?_)
  · subst hR
    exact kk _ M2 K1 (h1.sm mw_smm (Or.inl hd)) i1
  · exact absurd rfl c427
theorem lc_erase (h : dAt (mw σ2 a M) c K) (hi : inv K (mCo M)) (hd : c + 134 ≤ a) (hiL : i + 7 ≤ E.L) (hL31 : E.L < 2 ^ 31) (kk : ∀ σ2 M K, dAt (mw σ2 a M) c K → inv K (mCo M) → zJ E (YLw nm) room_1 fin n 146 6187 (mw σ2 a M) 1373 [some (.ref E.b), some (.ref c), some (.ref a), some (.int (nI i))] []) : zJ E (YLw nm) room_1 fin n 146 6187 (mw σ2 a M) 432 [some (.ref E.b), some (.ref c), some (.ref a), some (.int (nI i))] [] := by
  obtain ⟨v, R', hD, hM⟩ := w_erase (E := E) (a := a) h hi (E.xs (i + 1))
  refine zj_aload_n 234 ((lq_4 34).trans rfl) rfl rfl ?_
  refine zj_aload_n 235 ((lq_4 35).trans rfl) rfl rfl ?_
  refine zj_iload_n 236 ((lq_4 36).trans rfl) rfl rfl ?_
  refine zj_iconst 237 (1) ((lq_4 37).trans rfl) rfl (by decide) ?_
  refine zn_iadd 238 (i) (1) ((lq_4 38).trans rfl) rfl rfl rfl ?_
  refine zj_sld 239 (i + 1) ((lq_4 39).trans rfl) rfl rfl (by omega) hL31 ?_
  refine zj_cvxX 240 ((lq_4 40).trans rfl) rfl lk_10_40 ckD_erase hD rfl h.1 rfl rfl rfl (fun s1 hP1 => ?_)
  obtain ⟨z1, K1, h1, i1⟩ := hP1
  have em := mw_keep z1 hd
  rw [← em]
  refine zj_aload_n 241 ((lq_4 41).trans rfl) rfl rfl ?_
  refine zj_aload_n 242 ((lq_4 42).trans rfl) rfl rfl ?_
  refine zj_iload_n 243 ((lq_4 43).trans rfl) rfl rfl ?_
  refine zj_iconst 244 (1) ((lq_4 44).trans rfl) rfl (by decide) ?_
  refine zn_iadd 245 (i) (1) ((lq_4 45).trans rfl) rfl rfl rfl ?_
  refine zj_sld 246 (i + 1) ((lq_4 46).trans rfl) rfl rfl (by omega) hL31 ?_
  refine zj_cvxX 247 ((lq_4 47).trans rfl) rfl lk_10_44 ckM_erase (hM _ M rfl) rfl mw_0 rfl rfl rfl (fun s1 hP1 => ?_)
  obtain ⟨M2, rfl, hR⟩ := hP1
  refine zj_icmp_eq 248 ((lq_4 48).trans rfl) rfl (fun c450 => ?_) (fun c450 => ?_)
  · subst hR
    exact kk _ M2 K1 (h1.sm mw_smm (Or.inl hd)) i1
  · exact absurd rfl c450
theorem lc_fault (h : dAt (mw σ2 a M) c K) (hi : inv K (mCo M)) (hd : c + 134 ≤ a) (hiL : i + 7 ≤ E.L) (hL31 : E.L < 2 ^ 31) (kk : ∀ σ2 M K, dAt (mw σ2 a M) c K → inv K (mCo M) → zJ E (YLw nm) room_1 fin n 146 6187 (mw σ2 a M) 1373 [some (.ref E.b), some (.ref c), some (.ref a), some (.int (nI i))] []) : zJ E (YLw nm) room_1 fin n 146 6187 (mw σ2 a M) 455 [some (.ref E.b), some (.ref c), some (.ref a), some (.int (nI i))] [] := by
  obtain ⟨v, R', hD, hM⟩ := w_fault (E := E) (a := a) h hi (E.xs (i + 1))
  refine zj_aload_n 251 ((lq_5 1).trans rfl) rfl rfl ?_
  refine zj_aload_n 252 ((lq_5 2).trans rfl) rfl rfl ?_
  refine zj_iload_n 253 ((lq_5 3).trans rfl) rfl rfl ?_
  refine zj_iconst 254 (1) ((lq_5 4).trans rfl) rfl (by decide) ?_
  refine zn_iadd 255 (i) (1) ((lq_5 5).trans rfl) rfl rfl rfl ?_
  refine zj_sld 256 (i + 1) ((lq_5 6).trans rfl) rfl rfl (by omega) hL31 ?_
  refine zj_cvxX 257 ((lq_5 7).trans rfl) rfl lk_10_45 ckD_fault hD rfl h.1 rfl rfl rfl (fun s1 hP1 => ?_)
  obtain ⟨z1, K1, h1, i1⟩ := hP1
  have em := mw_keep z1 hd
  rw [← em]
  refine zj_aload_n 258 ((lq_5 8).trans rfl) rfl rfl ?_
  refine zj_aload_n 259 ((lq_5 9).trans rfl) rfl rfl ?_
  refine zj_iload_n 260 ((lq_5 10).trans rfl) rfl rfl ?_
  refine zj_iconst 261 (1) ((lq_5 11).trans rfl) rfl (by decide) ?_
  refine zn_iadd 262 (i) (1) ((lq_5 12).trans rfl) rfl rfl rfl ?_
  refine zj_sld 263 (i + 1) ((lq_5 13).trans rfl) rfl rfl (by omega) hL31 ?_
  refine zj_cvxX 264 ((lq_5 14).trans rfl) rfl lk_10_48 ckM_fault (hM _ M rfl) rfl mw_0 rfl rfl rfl (fun s1 hP1 => ?_)
  obtain ⟨M2, rfl, hR⟩ := hP1
  refine zj_icmp_eq 265 ((lq_5 15).trans rfl) rfl (fun c473 => ?_) (fun c473 => ?_)
  · subst hR
    exact kk _ M2 K1 (h1.sm mw_smm (Or.inl hd)) i1
  · exact absurd rfl c473
theorem lc_drawn (h : dAt (mw σ2 a M) c K) (hi : inv K (mCo M)) (hd : c + 134 ≤ a) (hiL : i + 7 ≤ E.L) (hL31 : E.L < 2 ^ 31) (kk : ∀ σ2 M K, dAt (mw σ2 a M) c K → inv K (mCo M) → zJ E (YLw nm) room_1 fin n 146 6187 (mw σ2 a M) 1373 [some (.ref E.b), some (.ref c), some (.ref a), some (.int (nI i))] []) : zJ E (YLw nm) room_1 fin n 146 6187 (mw σ2 a M) 478 [some (.ref E.b), some (.ref c), some (.ref a), some (.int (nI i))] [] := by
  obtain ⟨v, R', hD, hM⟩ := w_drawn (E := E) (a := a) h hi (E.xs (i + 1)) (E.xs (i + 2)) (E.xs (i + 3)) (E.xs (i + 4)) (E.xs (i + 5)) (E.xs (i + 6))
  refine zj_aload_n 268 ((lq_5 18).trans rfl) rfl rfl ?_
  refine zj_aload_n 269 ((lq_5 19).trans rfl) rfl rfl ?_
  refine zj_iload_n 270 ((lq_5 20).trans rfl) rfl rfl ?_
  refine zj_iconst 271 (1) ((lq_5 21).trans rfl) rfl (by decide) ?_
  refine zn_iadd 272 (i) (1) ((lq_5 22).trans rfl) rfl rfl rfl ?_
  refine zj_sld 273 (i + 1) ((lq_5 23).trans rfl) rfl rfl (by omega) hL31 ?_
  refine zj_aload_n 274 ((lq_5 24).trans rfl) rfl rfl ?_
  refine zj_iload_n 275 ((lq_5 25).trans rfl) rfl rfl ?_
  refine zj_iconst 276 (2) ((lq_5 26).trans rfl) rfl (by decide) ?_
  refine zn_iadd 277 (i) (2) ((lq_5 27).trans rfl) rfl rfl rfl ?_
  refine zj_sld 278 (i + 2) ((lq_5 28).trans rfl) rfl rfl (by omega) hL31 ?_
  refine zj_aload_n 279 ((lq_5 29).trans rfl) rfl rfl ?_
  refine zj_iload_n 280 ((lq_5 30).trans rfl) rfl rfl ?_
  refine zj_iconst 281 (3) ((lq_5 31).trans rfl) rfl (by decide) ?_
  refine zn_iadd 282 (i) (3) ((lq_5 32).trans rfl) rfl rfl rfl ?_
  refine zj_sld 283 (i + 3) ((lq_5 33).trans rfl) rfl rfl (by omega) hL31 ?_
  refine zj_aload_n 284 ((lq_5 34).trans rfl) rfl rfl ?_
  refine zj_iload_n 285 ((lq_5 35).trans rfl) rfl rfl ?_
  refine zj_iconst 286 (4) ((lq_5 36).trans rfl) rfl (by decide) ?_
  refine zn_iadd 287 (i) (4) ((lq_5 37).trans rfl) rfl rfl rfl ?_
  refine zj_sld 288 (i + 4) ((lq_5 38).trans rfl) rfl rfl (by omega) hL31 ?_
  refine zj_aload_n 289 ((lq_5 39).trans rfl) rfl rfl ?_
  refine zj_iload_n 290 ((lq_5 40).trans rfl) rfl rfl ?_
  refine zj_iconst 291 (5) ((lq_5 41).trans rfl) rfl (by decide) ?_
  refine zn_iadd 292 (i) (5) ((lq_5 42).trans rfl) rfl rfl rfl ?_
  refine zj_sld 293 (i + 5) ((lq_5 43).trans rfl) rfl rfl (by omega) hL31 ?_
  refine zj_aload_n 294 ((lq_5 44).trans rfl) rfl rfl ?_
  refine zj_iload_n 295 ((lq_5 45).trans rfl) rfl rfl ?_
  refine zj_bipush 296 (6) ((lq_5 46).trans rfl) rfl (by decide) ?_
  refine zn_iadd 297 (i) (6) ((lq_5 47).trans rfl) rfl rfl rfl ?_
  refine zj_sld 298 (i + 6) ((lq_5 48).trans rfl) rfl rfl (by omega) hL31 ?_
  refine zj_cvxX 299 ((lq_5 49).trans rfl) rfl lk_10_49 ckD_drawn hD rfl h.1 rfl rfl rfl (fun s1 hP1 => ?_)
  obtain ⟨z1, K1, h1, i1⟩ := hP1
  have em := mw_keep z1 hd
  rw [← em]
  refine zj_aload_n 300 ((lq_6 0).trans rfl) rfl rfl ?_
  refine zj_aload_n 301 ((lq_6 1).trans rfl) rfl rfl ?_
  refine zj_iload_n 302 ((lq_6 2).trans rfl) rfl rfl ?_
  refine zj_iconst 303 (1) ((lq_6 3).trans rfl) rfl (by decide) ?_
  refine zn_iadd 304 (i) (1) ((lq_6 4).trans rfl) rfl rfl rfl ?_
  refine zj_sld 305 (i + 1) ((lq_6 5).trans rfl) rfl rfl (by omega) hL31 ?_
  refine zj_aload_n 306 ((lq_6 6).trans rfl) rfl rfl ?_
  refine zj_iload_n 307 ((lq_6 7).trans rfl) rfl rfl ?_
  refine zj_iconst 308 (2) ((lq_6 8).trans rfl) rfl (by decide) ?_
  refine zn_iadd 309 (i) (2) ((lq_6 9).trans rfl) rfl rfl rfl ?_
  refine zj_sld 310 (i + 2) ((lq_6 10).trans rfl) rfl rfl (by omega) hL31 ?_
  refine zj_aload_n 311 ((lq_6 11).trans rfl) rfl rfl ?_
  refine zj_iload_n 312 ((lq_6 12).trans rfl) rfl rfl ?_
  refine zj_iconst 313 (3) ((lq_6 13).trans rfl) rfl (by decide) ?_
  refine zn_iadd 314 (i) (3) ((lq_6 14).trans rfl) rfl rfl rfl ?_
  refine zj_sld 315 (i + 3) ((lq_6 15).trans rfl) rfl rfl (by omega) hL31 ?_
  refine zj_aload_n 316 ((lq_6 16).trans rfl) rfl rfl ?_
  refine zj_iload_n 317 ((lq_6 17).trans rfl) rfl rfl ?_
  refine zj_iconst 318 (4) ((lq_6 18).trans rfl) rfl (by decide) ?_
  refine zn_iadd 319 (i) (4) ((lq_6 19).trans rfl) rfl rfl rfl ?_
  refine zj_sld 320 (i + 4) ((lq_6 20).trans rfl) rfl rfl (by omega) hL31 ?_
  refine zj_aload_n 321 ((lq_6 21).trans rfl) rfl rfl ?_
  refine zj_iload_n 322 ((lq_6 22).trans rfl) rfl rfl ?_
  refine zj_iconst 323 (5) ((lq_6 23).trans rfl) rfl (by decide) ?_
  refine zn_iadd 324 (i) (5) ((lq_6 24).trans rfl) rfl rfl rfl ?_
  refine zj_sld 325 (i + 5) ((lq_6 25).trans rfl) rfl rfl (by omega) hL31 ?_
  refine zj_aload_n 326 ((lq_6 26).trans rfl) rfl rfl ?_
  refine zj_iload_n 327 ((lq_6 27).trans rfl) rfl rfl ?_
  refine zj_bipush 328 (6) ((lq_6 28).trans rfl) rfl (by decide) ?_
  refine zn_iadd 329 (i) (6) ((lq_6 29).trans rfl) rfl rfl rfl ?_
  refine zj_sld 330 (i + 6) ((lq_6 30).trans rfl) rfl rfl (by omega) hL31 ?_
  refine zj_cvxX 331 ((lq_6 31).trans rfl) rfl lk_10_53 ckM_drawn (hM _ M rfl) rfl mw_0 rfl rfl rfl (fun s1 hP1 => ?_)
  obtain ⟨M2, rfl, hR⟩ := hP1
  refine zj_icmp_eq 332 ((lq_6 32).trans rfl) rfl (fun c548 => ?_) (fun c548 => ?_)
  · subst hR
    exact kk _ M2 K1 (h1.sm mw_smm (Or.inl hd)) i1
  · exact absurd rfl c548
theorem lc_far (h : dAt (mw σ2 a M) c K) (hi : inv K (mCo M)) (hd : c + 134 ≤ a) (hiL : i + 7 ≤ E.L) (hL31 : E.L < 2 ^ 31) (kk : ∀ σ2 M K, dAt (mw σ2 a M) c K → inv K (mCo M) → zJ E (YLw nm) room_1 fin n 146 6187 (mw σ2 a M) 1373 [some (.ref E.b), some (.ref c), some (.ref a), some (.int (nI i))] []) : zJ E (YLw nm) room_1 fin n 146 6187 (mw σ2 a M) 553 [some (.ref E.b), some (.ref c), some (.ref a), some (.int (nI i))] [] := by
  obtain ⟨v, R', hD, hM⟩ := w_far (E := E) (a := a) h hi (E.xs (i + 1)) (E.xs (i + 2)) (E.xs (i + 3))
  refine zj_aload_n 335 ((lq_6 35).trans rfl) rfl rfl ?_
  refine zj_aload_n 336 ((lq_6 36).trans rfl) rfl rfl ?_
  refine zj_iload_n 337 ((lq_6 37).trans rfl) rfl rfl ?_
  refine zj_iconst 338 (1) ((lq_6 38).trans rfl) rfl (by decide) ?_
  refine zn_iadd 339 (i) (1) ((lq_6 39).trans rfl) rfl rfl rfl ?_
  refine zj_sld 340 (i + 1) ((lq_6 40).trans rfl) rfl rfl (by omega) hL31 ?_
  refine zj_aload_n 341 ((lq_6 41).trans rfl) rfl rfl ?_
  refine zj_iload_n 342 ((lq_6 42).trans rfl) rfl rfl ?_
  refine zj_iconst 343 (2) ((lq_6 43).trans rfl) rfl (by decide) ?_
  refine zn_iadd 344 (i) (2) ((lq_6 44).trans rfl) rfl rfl rfl ?_
  refine zj_sld 345 (i + 2) ((lq_6 45).trans rfl) rfl rfl (by omega) hL31 ?_
  refine zj_aload_n 346 ((lq_6 46).trans rfl) rfl rfl ?_
  refine zj_iload_n 347 ((lq_6 47).trans rfl) rfl rfl ?_
  refine zj_iconst 348 (3) ((lq_6 48).trans rfl) rfl (by decide) ?_
  refine zn_iadd 349 (i) (3) ((lq_6 49).trans rfl) rfl rfl rfl ?_
  refine zj_sld 350 (i + 3) ((lq_7 0).trans rfl) rfl rfl (by omega) hL31 ?_
  refine zj_cvxX 351 ((lq_7 1).trans rfl) rfl lk_10_54 ckD_far hD rfl h.1 rfl rfl rfl (fun s1 hP1 => ?_)
  obtain ⟨z1, K1, h1, i1⟩ := hP1
  have em := mw_keep z1 hd
  rw [← em]
  refine zj_aload_n 352 ((lq_7 2).trans rfl) rfl rfl ?_
  refine zj_aload_n 353 ((lq_7 3).trans rfl) rfl rfl ?_
  refine zj_iload_n 354 ((lq_7 4).trans rfl) rfl rfl ?_
  refine zj_iconst 355 (1) ((lq_7 5).trans rfl) rfl (by decide) ?_
  refine zn_iadd 356 (i) (1) ((lq_7 6).trans rfl) rfl rfl rfl ?_
  refine zj_sld 357 (i + 1) ((lq_7 7).trans rfl) rfl rfl (by omega) hL31 ?_
  refine zj_aload_n 358 ((lq_7 8).trans rfl) rfl rfl ?_
  refine zj_iload_n 359 ((lq_7 9).trans rfl) rfl rfl ?_
  refine zj_iconst 360 (2) ((lq_7 10).trans rfl) rfl (by decide) ?_
  refine zn_iadd 361 (i) (2) ((lq_7 11).trans rfl) rfl rfl rfl ?_
  refine zj_sld 362 (i + 2) ((lq_7 12).trans rfl) rfl rfl (by omega) hL31 ?_
  refine zj_aload_n 363 ((lq_7 13).trans rfl) rfl rfl ?_
  refine zj_iload_n 364 ((lq_7 14).trans rfl) rfl rfl ?_
  refine zj_iconst 365 (3) ((lq_7 15).trans rfl) rfl (by decide) ?_
  refine zn_iadd 366 (i) (3) ((lq_7 16).trans rfl) rfl rfl rfl ?_
  refine zj_sld 367 (i + 3) ((lq_7 17).trans rfl) rfl rfl (by omega) hL31 ?_
  refine zj_cvxX 368 ((lq_7 18).trans rfl) rfl lk_10_57 ckM_far (hM _ M rfl) rfl mw_0 rfl rfl rfl (fun s1 hP1 => ?_)
  obtain ⟨M2, rfl, hR⟩ := hP1
  refine zj_icmp_eq 369 ((lq_7 19).trans rfl) rfl (fun c591 => ?_) (fun c591 => ?_)
  · subst hR
    exact kk _ M2 K1 (h1.sm mw_smm (Or.inl hd)) i1
  · exact absurd rfl c591
theorem lc_fairest (h : dAt (mw σ2 a M) c K) (hi : inv K (mCo M)) (hd : c + 134 ≤ a) (hiL : i + 7 ≤ E.L) (hL31 : E.L < 2 ^ 31) (kk : ∀ σ2 M K, dAt (mw σ2 a M) c K → inv K (mCo M) → zJ E (YLw nm) room_1 fin n 146 6187 (mw σ2 a M) 1373 [some (.ref E.b), some (.ref c), some (.ref a), some (.int (nI i))] []) : zJ E (YLw nm) room_1 fin n 146 6187 (mw σ2 a M) 596 [some (.ref E.b), some (.ref c), some (.ref a), some (.int (nI i))] [] := by
  obtain ⟨v, R', hD, hM⟩ := w_fairest (E := E) (a := a) h hi (E.xs (i + 1)) (E.xs (i + 2)) (E.xs (i + 3)) (E.xs (i + 4))
  refine zj_aload_n 372 ((lq_7 22).trans rfl) rfl rfl ?_
  refine zj_aload_n 373 ((lq_7 23).trans rfl) rfl rfl ?_
  refine zj_iload_n 374 ((lq_7 24).trans rfl) rfl rfl ?_
  refine zj_iconst 375 (1) ((lq_7 25).trans rfl) rfl (by decide) ?_
  refine zn_iadd 376 (i) (1) ((lq_7 26).trans rfl) rfl rfl rfl ?_
  refine zj_sld 377 (i + 1) ((lq_7 27).trans rfl) rfl rfl (by omega) hL31 ?_
  refine zj_aload_n 378 ((lq_7 28).trans rfl) rfl rfl ?_
  refine zj_iload_n 379 ((lq_7 29).trans rfl) rfl rfl ?_
  refine zj_iconst 380 (2) ((lq_7 30).trans rfl) rfl (by decide) ?_
  refine zn_iadd 381 (i) (2) ((lq_7 31).trans rfl) rfl rfl rfl ?_
  refine zj_sld 382 (i + 2) ((lq_7 32).trans rfl) rfl rfl (by omega) hL31 ?_
  refine zj_aload_n 383 ((lq_7 33).trans rfl) rfl rfl ?_
  refine zj_iload_n 384 ((lq_7 34).trans rfl) rfl rfl ?_
  refine zj_iconst 385 (3) ((lq_7 35).trans rfl) rfl (by decide) ?_
  refine zn_iadd 386 (i) (3) ((lq_7 36).trans rfl) rfl rfl rfl ?_
  refine zj_sld 387 (i + 3) ((lq_7 37).trans rfl) rfl rfl (by omega) hL31 ?_
  refine zj_aload_n 388 ((lq_7 38).trans rfl) rfl rfl ?_
  refine zj_iload_n 389 ((lq_7 39).trans rfl) rfl rfl ?_
  refine zj_iconst 390 (4) ((lq_7 40).trans rfl) rfl (by decide) ?_
  refine zn_iadd 391 (i) (4) ((lq_7 41).trans rfl) rfl rfl rfl ?_
  refine zj_sld 392 (i + 4) ((lq_7 42).trans rfl) rfl rfl (by omega) hL31 ?_
  refine zj_cvxX 393 ((lq_7 43).trans rfl) rfl lk_10_58 ckD_fairest hD rfl h.1 rfl rfl rfl (fun s1 hP1 => ?_)
  obtain ⟨z1, K1, h1, i1⟩ := hP1
  have em := mw_keep z1 hd
  rw [← em]
  refine zj_aload_n 394 ((lq_7 44).trans rfl) rfl rfl ?_
  refine zj_aload_n 395 ((lq_7 45).trans rfl) rfl rfl ?_
  refine zj_iload_n 396 ((lq_7 46).trans rfl) rfl rfl ?_
  refine zj_iconst 397 (1) ((lq_7 47).trans rfl) rfl (by decide) ?_
  refine zn_iadd 398 (i) (1) ((lq_7 48).trans rfl) rfl rfl rfl ?_
  refine zj_sld 399 (i + 1) ((lq_7 49).trans rfl) rfl rfl (by omega) hL31 ?_
  refine zj_aload_n 400 ((lq_8 0).trans rfl) rfl rfl ?_
  refine zj_iload_n 401 ((lq_8 1).trans rfl) rfl rfl ?_
  refine zj_iconst 402 (2) ((lq_8 2).trans rfl) rfl (by decide) ?_
  refine zn_iadd 403 (i) (2) ((lq_8 3).trans rfl) rfl rfl rfl ?_
  refine zj_sld 404 (i + 2) ((lq_8 4).trans rfl) rfl rfl (by omega) hL31 ?_
  refine zj_aload_n 405 ((lq_8 5).trans rfl) rfl rfl ?_
  refine zj_iload_n 406 ((lq_8 6).trans rfl) rfl rfl ?_
  refine zj_iconst 407 (3) ((lq_8 7).trans rfl) rfl (by decide) ?_
  refine zn_iadd 408 (i) (3) ((lq_8 8).trans rfl) rfl rfl rfl ?_
  refine zj_sld 409 (i + 3) ((lq_8 9).trans rfl) rfl rfl (by omega) hL31 ?_
  refine zj_aload_n 410 ((lq_8 10).trans rfl) rfl rfl ?_
  refine zj_iload_n 411 ((lq_8 11).trans rfl) rfl rfl ?_
  refine zj_iconst 412 (4) ((lq_8 12).trans rfl) rfl (by decide) ?_
  refine zn_iadd 413 (i) (4) ((lq_8 13).trans rfl) rfl rfl rfl ?_
  refine zj_sld 414 (i + 4) ((lq_8 14).trans rfl) rfl rfl (by omega) hL31 ?_
  refine zj_cvxX 415 ((lq_8 15).trans rfl) rfl lk_10_62 ckM_fairest (hM _ M rfl) rfl mw_0 rfl rfl rfl (fun s1 hP1 => ?_)
  obtain ⟨M2, rfl, hR⟩ := hP1
  refine zj_icmp_eq 416 ((lq_8 16).trans rfl) rfl (fun c644 => ?_) (fun c644 => ?_)
  · subst hR
    exact kk _ M2 K1 (h1.sm mw_smm (Or.inl hd)) i1
  · exact absurd rfl c644
theorem lc_observer (h : dAt (mw σ2 a M) c K) (hi : inv K (mCo M)) (hd : c + 134 ≤ a) (hiL : i + 7 ≤ E.L) (hL31 : E.L < 2 ^ 31) (kk : ∀ σ2 M K, dAt (mw σ2 a M) c K → inv K (mCo M) → zJ E (YLw nm) room_1 fin n 146 6187 (mw σ2 a M) 1373 [some (.ref E.b), some (.ref c), some (.ref a), some (.int (nI i))] []) : zJ E (YLw nm) room_1 fin n 146 6187 (mw σ2 a M) 649 [some (.ref E.b), some (.ref c), some (.ref a), some (.int (nI i))] [] := by
  obtain ⟨v, R', hD, hM⟩ := w_observer (E := E) (a := a) h hi (E.xs (i + 1)) (E.xs (i + 2))
  refine zj_aload_n 419 ((lq_8 19).trans rfl) rfl rfl ?_
  refine zj_aload_n 420 ((lq_8 20).trans rfl) rfl rfl ?_
  refine zj_iload_n 421 ((lq_8 21).trans rfl) rfl rfl ?_
  refine zj_iconst 422 (1) ((lq_8 22).trans rfl) rfl (by decide) ?_
  refine zn_iadd 423 (i) (1) ((lq_8 23).trans rfl) rfl rfl rfl ?_
  refine zj_sld 424 (i + 1) ((lq_8 24).trans rfl) rfl rfl (by omega) hL31 ?_
  refine zj_aload_n 425 ((lq_8 25).trans rfl) rfl rfl ?_
  refine zj_iload_n 426 ((lq_8 26).trans rfl) rfl rfl ?_
  refine zj_iconst 427 (2) ((lq_8 27).trans rfl) rfl (by decide) ?_
  refine zn_iadd 428 (i) (2) ((lq_8 28).trans rfl) rfl rfl rfl ?_
  refine zj_sld 429 (i + 2) ((lq_8 29).trans rfl) rfl rfl (by omega) hL31 ?_
  refine zj_cvxX 430 ((lq_8 30).trans rfl) rfl lk_10_63 ckD_observer hD rfl h.1 rfl rfl rfl (fun s1 hP1 => ?_)
  obtain ⟨z1, K1, h1, i1⟩ := hP1
  have em := mw_keep z1 hd
  rw [← em]
  refine zj_aload_n 431 ((lq_8 31).trans rfl) rfl rfl ?_
  refine zj_aload_n 432 ((lq_8 32).trans rfl) rfl rfl ?_
  refine zj_iload_n 433 ((lq_8 33).trans rfl) rfl rfl ?_
  refine zj_iconst 434 (1) ((lq_8 34).trans rfl) rfl (by decide) ?_
  refine zn_iadd 435 (i) (1) ((lq_8 35).trans rfl) rfl rfl rfl ?_
  refine zj_sld 436 (i + 1) ((lq_8 36).trans rfl) rfl rfl (by omega) hL31 ?_
  refine zj_aload_n 437 ((lq_8 37).trans rfl) rfl rfl ?_
  refine zj_iload_n 438 ((lq_8 38).trans rfl) rfl rfl ?_
  refine zj_iconst 439 (2) ((lq_8 39).trans rfl) rfl (by decide) ?_
  refine zn_iadd 440 (i) (2) ((lq_8 40).trans rfl) rfl rfl rfl ?_
  refine zj_sld 441 (i + 2) ((lq_8 41).trans rfl) rfl rfl (by omega) hL31 ?_
  refine zj_cvxX 442 ((lq_8 42).trans rfl) rfl lk_10_66 ckM_observer (hM _ M rfl) rfl mw_0 rfl rfl rfl (fun s1 hP1 => ?_)
  obtain ⟨M2, rfl, hR⟩ := hP1
  refine zj_icmp_eq 443 ((lq_8 43).trans rfl) rfl (fun c677 => ?_) (fun c677 => ?_)
  · subst hR
    exact kk _ M2 K1 (h1.sm mw_smm (Or.inl hd)) i1
  · exact absurd rfl c677
theorem lc_sheet (h : dAt (mw σ2 a M) c K) (hi : inv K (mCo M)) (hd : c + 134 ≤ a) (hiL : i + 7 ≤ E.L) (hL31 : E.L < 2 ^ 31) (kk : ∀ σ2 M K, dAt (mw σ2 a M) c K → inv K (mCo M) → zJ E (YLw nm) room_1 fin n 146 6187 (mw σ2 a M) 1373 [some (.ref E.b), some (.ref c), some (.ref a), some (.int (nI i))] []) : zJ E (YLw nm) room_1 fin n 146 6187 (mw σ2 a M) 682 [some (.ref E.b), some (.ref c), some (.ref a), some (.int (nI i))] [] := by
  obtain ⟨v, R', hD, hM⟩ := w_sheet (E := E) (a := a) h hi (E.xs (i + 1)) (E.xs (i + 2)) (E.xs (i + 3))
  refine zj_aload_n 446 ((lq_8 46).trans rfl) rfl rfl ?_
  refine zj_aload_n 447 ((lq_8 47).trans rfl) rfl rfl ?_
  refine zj_iload_n 448 ((lq_8 48).trans rfl) rfl rfl ?_
  refine zj_iconst 449 (1) ((lq_8 49).trans rfl) rfl (by decide) ?_
  refine zn_iadd 450 (i) (1) ((lq_9 0).trans rfl) rfl rfl rfl ?_
  refine zj_sld 451 (i + 1) ((lq_9 1).trans rfl) rfl rfl (by omega) hL31 ?_
  refine zj_aload_n 452 ((lq_9 2).trans rfl) rfl rfl ?_
  refine zj_iload_n 453 ((lq_9 3).trans rfl) rfl rfl ?_
  refine zj_iconst 454 (2) ((lq_9 4).trans rfl) rfl (by decide) ?_
  refine zn_iadd 455 (i) (2) ((lq_9 5).trans rfl) rfl rfl rfl ?_
  refine zj_sld 456 (i + 2) ((lq_9 6).trans rfl) rfl rfl (by omega) hL31 ?_
  refine zj_aload_n 457 ((lq_9 7).trans rfl) rfl rfl ?_
  refine zj_iload_n 458 ((lq_9 8).trans rfl) rfl rfl ?_
  refine zj_iconst 459 (3) ((lq_9 9).trans rfl) rfl (by decide) ?_
  refine zn_iadd 460 (i) (3) ((lq_9 10).trans rfl) rfl rfl rfl ?_
  refine zj_sld 461 (i + 3) ((lq_9 11).trans rfl) rfl rfl (by omega) hL31 ?_
  refine zj_cvxX 462 ((lq_9 12).trans rfl) rfl lk_10_67 ckD_sheet hD rfl h.1 rfl rfl rfl (fun s1 hP1 => ?_)
  obtain ⟨z1, K1, h1, i1⟩ := hP1
  have em := mw_keep z1 hd
  rw [← em]
  refine zj_aload_n 463 ((lq_9 13).trans rfl) rfl rfl ?_
  refine zj_aload_n 464 ((lq_9 14).trans rfl) rfl rfl ?_
  refine zj_iload_n 465 ((lq_9 15).trans rfl) rfl rfl ?_
  refine zj_iconst 466 (1) ((lq_9 16).trans rfl) rfl (by decide) ?_
  refine zn_iadd 467 (i) (1) ((lq_9 17).trans rfl) rfl rfl rfl ?_
  refine zj_sld 468 (i + 1) ((lq_9 18).trans rfl) rfl rfl (by omega) hL31 ?_
  refine zj_aload_n 469 ((lq_9 19).trans rfl) rfl rfl ?_
  refine zj_iload_n 470 ((lq_9 20).trans rfl) rfl rfl ?_
  refine zj_iconst 471 (2) ((lq_9 21).trans rfl) rfl (by decide) ?_
  refine zn_iadd 472 (i) (2) ((lq_9 22).trans rfl) rfl rfl rfl ?_
  refine zj_sld 473 (i + 2) ((lq_9 23).trans rfl) rfl rfl (by omega) hL31 ?_
  refine zj_aload_n 474 ((lq_9 24).trans rfl) rfl rfl ?_
  refine zj_iload_n 475 ((lq_9 25).trans rfl) rfl rfl ?_
  refine zj_iconst 476 (3) ((lq_9 26).trans rfl) rfl (by decide) ?_
  refine zn_iadd 477 (i) (3) ((lq_9 27).trans rfl) rfl rfl rfl ?_
  refine zj_sld 478 (i + 3) ((lq_9 28).trans rfl) rfl rfl (by omega) hL31 ?_
  refine zj_cvxX 479 ((lq_9 29).trans rfl) rfl lk_10_70 ckM_sheet (hM _ M rfl) rfl mw_0 rfl rfl rfl (fun s1 hP1 => ?_)
  obtain ⟨M2, rfl, hR⟩ := hP1
  refine zj_icmp_eq 480 ((lq_9 30).trans rfl) rfl (fun c720 => ?_) (fun c720 => ?_)
  · subst hR
    exact kk _ M2 K1 (h1.sm mw_smm (Or.inl hd)) i1
  · exact absurd rfl c720
theorem lc_draw (h : dAt (mw σ2 a M) c K) (hi : inv K (mCo M)) (hd : c + 134 ≤ a) (hiL : i + 7 ≤ E.L) (hL31 : E.L < 2 ^ 31) (kk : ∀ σ2 M K, dAt (mw σ2 a M) c K → inv K (mCo M) → zJ E (YLw nm) room_1 fin n 146 6187 (mw σ2 a M) 1373 [some (.ref E.b), some (.ref c), some (.ref a), some (.int (nI i))] []) : zJ E (YLw nm) room_1 fin n 146 6187 (mw σ2 a M) 725 [some (.ref E.b), some (.ref c), some (.ref a), some (.int (nI i))] [] := by
  obtain ⟨v, R', hD, hM⟩ := w_draw (E := E) (a := a) h hi (E.xs (i + 1)) (E.xs (i + 2)) (E.xs (i + 3)) (E.xs (i + 4)) (E.xs (i + 5)) (E.xs (i + 6))
  refine zj_aload_n 483 ((lq_9 33).trans rfl) rfl rfl ?_
  refine zj_aload_n 484 ((lq_9 34).trans rfl) rfl rfl ?_
  refine zj_iload_n 485 ((lq_9 35).trans rfl) rfl rfl ?_
  refine zj_iconst 486 (1) ((lq_9 36).trans rfl) rfl (by decide) ?_
  refine zn_iadd 487 (i) (1) ((lq_9 37).trans rfl) rfl rfl rfl ?_
  refine zj_sld 488 (i + 1) ((lq_9 38).trans rfl) rfl rfl (by omega) hL31 ?_
  refine zj_aload_n 489 ((lq_9 39).trans rfl) rfl rfl ?_
  refine zj_iload_n 490 ((lq_9 40).trans rfl) rfl rfl ?_
  refine zj_iconst 491 (2) ((lq_9 41).trans rfl) rfl (by decide) ?_
  refine zn_iadd 492 (i) (2) ((lq_9 42).trans rfl) rfl rfl rfl ?_
  refine zj_sld 493 (i + 2) ((lq_9 43).trans rfl) rfl rfl (by omega) hL31 ?_
  refine zj_aload_n 494 ((lq_9 44).trans rfl) rfl rfl ?_
  refine zj_iload_n 495 ((lq_9 45).trans rfl) rfl rfl ?_
  refine zj_iconst 496 (3) ((lq_9 46).trans rfl) rfl (by decide) ?_
  refine zn_iadd 497 (i) (3) ((lq_9 47).trans rfl) rfl rfl rfl ?_
  refine zj_sld 498 (i + 3) ((lq_9 48).trans rfl) rfl rfl (by omega) hL31 ?_
  refine zj_aload_n 499 ((lq_9 49).trans rfl) rfl rfl ?_
  refine zj_iload_n 500 ((lq_10 0).trans rfl) rfl rfl ?_
  refine zj_iconst 501 (4) ((lq_10 1).trans rfl) rfl (by decide) ?_
  refine zn_iadd 502 (i) (4) ((lq_10 2).trans rfl) rfl rfl rfl ?_
  refine zj_sld 503 (i + 4) ((lq_10 3).trans rfl) rfl rfl (by omega) hL31 ?_
  refine zj_aload_n 504 ((lq_10 4).trans rfl) rfl rfl ?_
  refine zj_iload_n 505 ((lq_10 5).trans rfl) rfl rfl ?_
  refine zj_iconst 506 (5) ((lq_10 6).trans rfl) rfl (by decide) ?_
  refine zn_iadd 507 (i) (5) ((lq_10 7).trans rfl) rfl rfl rfl ?_
  refine zj_sld 508 (i + 5) ((lq_10 8).trans rfl) rfl rfl (by omega) hL31 ?_
  refine zj_aload_n 509 ((lq_10 9).trans rfl) rfl rfl ?_
  refine zj_iload_n 510 ((lq_10 10).trans rfl) rfl rfl ?_
  refine zj_bipush 511 (6) ((lq_10 11).trans rfl) rfl (by decide) ?_
  refine zn_iadd 512 (i) (6) ((lq_10 12).trans rfl) rfl rfl rfl ?_
  refine zj_sld 513 (i + 6) ((lq_10 13).trans rfl) rfl rfl (by omega) hL31 ?_
  refine zj_cvxX 514 ((lq_10 14).trans rfl) rfl lk_10_71 ckD_draw hD rfl h.1 rfl rfl rfl (fun s1 hP1 => ?_)
  obtain ⟨z1, K1, h1, i1⟩ := hP1
  have em := mw_keep z1 hd
  rw [← em]
  refine zj_aload_n 515 ((lq_10 15).trans rfl) rfl rfl ?_
  refine zj_aload_n 516 ((lq_10 16).trans rfl) rfl rfl ?_
  refine zj_iload_n 517 ((lq_10 17).trans rfl) rfl rfl ?_
  refine zj_iconst 518 (1) ((lq_10 18).trans rfl) rfl (by decide) ?_
  refine zn_iadd 519 (i) (1) ((lq_10 19).trans rfl) rfl rfl rfl ?_
  refine zj_sld 520 (i + 1) ((lq_10 20).trans rfl) rfl rfl (by omega) hL31 ?_
  refine zj_aload_n 521 ((lq_10 21).trans rfl) rfl rfl ?_
  refine zj_iload_n 522 ((lq_10 22).trans rfl) rfl rfl ?_
  refine zj_iconst 523 (2) ((lq_10 23).trans rfl) rfl (by decide) ?_
  refine zn_iadd 524 (i) (2) ((lq_10 24).trans rfl) rfl rfl rfl ?_
  refine zj_sld 525 (i + 2) ((lq_10 25).trans rfl) rfl rfl (by omega) hL31 ?_
  refine zj_aload_n 526 ((lq_10 26).trans rfl) rfl rfl ?_
  refine zj_iload_n 527 ((lq_10 27).trans rfl) rfl rfl ?_
  refine zj_iconst 528 (3) ((lq_10 28).trans rfl) rfl (by decide) ?_
  refine zn_iadd 529 (i) (3) ((lq_10 29).trans rfl) rfl rfl rfl ?_
  refine zj_sld 530 (i + 3) ((lq_10 30).trans rfl) rfl rfl (by omega) hL31 ?_
  refine zj_aload_n 531 ((lq_10 31).trans rfl) rfl rfl ?_
  refine zj_iload_n 532 ((lq_10 32).trans rfl) rfl rfl ?_
  refine zj_iconst 533 (4) ((lq_10 33).trans rfl) rfl (by decide) ?_
  refine zn_iadd 534 (i) (4) ((lq_10 34).trans rfl) rfl rfl rfl ?_
  refine zj_sld 535 (i + 4) ((lq_10 35).trans rfl) rfl rfl (by omega) hL31 ?_
  refine zj_aload_n 536 ((lq_10 36).trans rfl) rfl rfl ?_
  refine zj_iload_n 537 ((lq_10 37).trans rfl) rfl rfl ?_
  refine zj_iconst 538 (5) ((lq_10 38).trans rfl) rfl (by decide) ?_
  refine zn_iadd 539 (i) (5) ((lq_10 39).trans rfl) rfl rfl rfl ?_
  refine zj_sld 540 (i + 5) ((lq_10 40).trans rfl) rfl rfl (by omega) hL31 ?_
  refine zj_aload_n 541 ((lq_10 41).trans rfl) rfl rfl ?_
  refine zj_iload_n 542 ((lq_10 42).trans rfl) rfl rfl ?_
  refine zj_bipush 543 (6) ((lq_10 43).trans rfl) rfl (by decide) ?_
  refine zn_iadd 544 (i) (6) ((lq_10 44).trans rfl) rfl rfl rfl ?_
  refine zj_sld 545 (i + 6) ((lq_10 45).trans rfl) rfl rfl (by omega) hL31 ?_
  refine zj_cvxX 546 ((lq_10 46).trans rfl) rfl lk_10_74 ckM_draw (hM _ M rfl) rfl mw_0 rfl rfl rfl (fun s1 hP1 => ?_)
  obtain ⟨M2, rfl, hR⟩ := hP1
  refine zj_icmp_eq 547 ((lq_10 47).trans rfl) rfl (fun c795 => ?_) (fun c795 => ?_)
  · subst hR
    exact kk _ M2 K1 (h1.sm mw_smm (Or.inl hd)) i1
  · exact absurd rfl c795
theorem lc_show (h : dAt (mw σ2 a M) c K) (hi : inv K (mCo M)) (hd : c + 134 ≤ a) (hiL : i + 7 ≤ E.L) (hL31 : E.L < 2 ^ 31) (kk : ∀ σ2 M K, dAt (mw σ2 a M) c K → inv K (mCo M) → zJ E (YLw nm) room_1 fin n 146 6187 (mw σ2 a M) 1373 [some (.ref E.b), some (.ref c), some (.ref a), some (.int (nI i))] []) : zJ E (YLw nm) room_1 fin n 146 6187 (mw σ2 a M) 800 [some (.ref E.b), some (.ref c), some (.ref a), some (.int (nI i))] [] := by
  obtain ⟨v, R', hD, hM⟩ := w_show (E := E) (a := a) h hi (E.xs (i + 1)) (E.xs (i + 2)) (E.xs (i + 3))
  refine zj_aload_n 550 ((lq_11 0).trans rfl) rfl rfl ?_
  refine zj_aload_n 551 ((lq_11 1).trans rfl) rfl rfl ?_
  refine zj_iload_n 552 ((lq_11 2).trans rfl) rfl rfl ?_
  refine zj_iconst 553 (1) ((lq_11 3).trans rfl) rfl (by decide) ?_
  refine zn_iadd 554 (i) (1) ((lq_11 4).trans rfl) rfl rfl rfl ?_
  refine zj_sld 555 (i + 1) ((lq_11 5).trans rfl) rfl rfl (by omega) hL31 ?_
  refine zj_aload_n 556 ((lq_11 6).trans rfl) rfl rfl ?_
  refine zj_iload_n 557 ((lq_11 7).trans rfl) rfl rfl ?_
  refine zj_iconst 558 (2) ((lq_11 8).trans rfl) rfl (by decide) ?_
  refine zn_iadd 559 (i) (2) ((lq_11 9).trans rfl) rfl rfl rfl ?_
  refine zj_sld 560 (i + 2) ((lq_11 10).trans rfl) rfl rfl (by omega) hL31 ?_
  refine zj_aload_n 561 ((lq_11 11).trans rfl) rfl rfl ?_
  refine zj_iload_n 562 ((lq_11 12).trans rfl) rfl rfl ?_
  refine zj_iconst 563 (3) ((lq_11 13).trans rfl) rfl (by decide) ?_
  refine zn_iadd 564 (i) (3) ((lq_11 14).trans rfl) rfl rfl rfl ?_
  refine zj_sld 565 (i + 3) ((lq_11 15).trans rfl) rfl rfl (by omega) hL31 ?_
  refine zj_cvxX 566 ((lq_11 16).trans rfl) rfl lk_10_75 ckD_show hD rfl h.1 rfl rfl rfl (fun s1 hP1 => ?_)
  obtain ⟨z1, K1, h1, i1⟩ := hP1
  have em := mw_keep z1 hd
  rw [← em]
  refine zj_aload_n 567 ((lq_11 17).trans rfl) rfl rfl ?_
  refine zj_aload_n 568 ((lq_11 18).trans rfl) rfl rfl ?_
  refine zj_iload_n 569 ((lq_11 19).trans rfl) rfl rfl ?_
  refine zj_iconst 570 (1) ((lq_11 20).trans rfl) rfl (by decide) ?_
  refine zn_iadd 571 (i) (1) ((lq_11 21).trans rfl) rfl rfl rfl ?_
  refine zj_sld 572 (i + 1) ((lq_11 22).trans rfl) rfl rfl (by omega) hL31 ?_
  refine zj_aload_n 573 ((lq_11 23).trans rfl) rfl rfl ?_
  refine zj_iload_n 574 ((lq_11 24).trans rfl) rfl rfl ?_
  refine zj_iconst 575 (2) ((lq_11 25).trans rfl) rfl (by decide) ?_
  refine zn_iadd 576 (i) (2) ((lq_11 26).trans rfl) rfl rfl rfl ?_
  refine zj_sld 577 (i + 2) ((lq_11 27).trans rfl) rfl rfl (by omega) hL31 ?_
  refine zj_aload_n 578 ((lq_11 28).trans rfl) rfl rfl ?_
  refine zj_iload_n 579 ((lq_11 29).trans rfl) rfl rfl ?_
  refine zj_iconst 580 (3) ((lq_11 30).trans rfl) rfl (by decide) ?_
  refine zn_iadd 581 (i) (3) ((lq_11 31).trans rfl) rfl rfl rfl ?_
  refine zj_sld 582 (i + 3) ((lq_11 32).trans rfl) rfl rfl (by omega) hL31 ?_
  refine zj_cvxX 583 ((lq_11 33).trans rfl) rfl lk_10_78 ckM_show (hM _ M rfl) rfl mw_0 rfl rfl rfl (fun s1 hP1 => ?_)
  obtain ⟨M2, rfl, hR⟩ := hP1
  refine zj_icmp_eq 584 ((lq_11 34).trans rfl) rfl (fun c838 => ?_) (fun c838 => ?_)
  · subst hR
    exact kk _ M2 K1 (h1.sm mw_smm (Or.inl hd)) i1
  · exact absurd rfl c838
theorem lc_of (h : dAt (mw σ2 a M) c K) (hi : inv K (mCo M)) (hd : c + 134 ≤ a) (hiL : i + 7 ≤ E.L) (hL31 : E.L < 2 ^ 31) (kk : ∀ σ2 M K, dAt (mw σ2 a M) c K → inv K (mCo M) → zJ E (YLw nm) room_1 fin n 146 6187 (mw σ2 a M) 1373 [some (.ref E.b), some (.ref c), some (.ref a), some (.int (nI i))] []) : zJ E (YLw nm) room_1 fin n 146 6187 (mw σ2 a M) 843 [some (.ref E.b), some (.ref c), some (.ref a), some (.int (nI i))] [] := by
  obtain ⟨v, R', hD, hM⟩ := w_of (E := E) (a := a) h hi (E.xs (i + 1)) (E.xs (i + 2))
  refine zj_aload_n 587 ((lq_11 37).trans rfl) rfl rfl ?_
  refine zj_aload_n 588 ((lq_11 38).trans rfl) rfl rfl ?_
  refine zj_iload_n 589 ((lq_11 39).trans rfl) rfl rfl ?_
  refine zj_iconst 590 (1) ((lq_11 40).trans rfl) rfl (by decide) ?_
  refine zn_iadd 591 (i) (1) ((lq_11 41).trans rfl) rfl rfl rfl ?_
  refine zj_sld 592 (i + 1) ((lq_11 42).trans rfl) rfl rfl (by omega) hL31 ?_
  refine zj_aload_n 593 ((lq_11 43).trans rfl) rfl rfl ?_
  refine zj_iload_n 594 ((lq_11 44).trans rfl) rfl rfl ?_
  refine zj_iconst 595 (2) ((lq_11 45).trans rfl) rfl (by decide) ?_
  refine zn_iadd 596 (i) (2) ((lq_11 46).trans rfl) rfl rfl rfl ?_
  refine zj_sld 597 (i + 2) ((lq_11 47).trans rfl) rfl rfl (by omega) hL31 ?_
  refine zj_cvxX 598 ((lq_11 48).trans rfl) rfl lk_10_79 ckD_of hD rfl h.1 rfl rfl rfl (fun s1 hP1 => ?_)
  obtain ⟨z1, K1, h1, i1⟩ := hP1
  have em := mw_keep z1 hd
  rw [← em]
  refine zj_aload_n 599 ((lq_11 49).trans rfl) rfl rfl ?_
  refine zj_aload_n 600 ((lq_12 0).trans rfl) rfl rfl ?_
  refine zj_iload_n 601 ((lq_12 1).trans rfl) rfl rfl ?_
  refine zj_iconst 602 (1) ((lq_12 2).trans rfl) rfl (by decide) ?_
  refine zn_iadd 603 (i) (1) ((lq_12 3).trans rfl) rfl rfl rfl ?_
  refine zj_sld 604 (i + 1) ((lq_12 4).trans rfl) rfl rfl (by omega) hL31 ?_
  refine zj_aload_n 605 ((lq_12 5).trans rfl) rfl rfl ?_
  refine zj_iload_n 606 ((lq_12 6).trans rfl) rfl rfl ?_
  refine zj_iconst 607 (2) ((lq_12 7).trans rfl) rfl (by decide) ?_
  refine zn_iadd 608 (i) (2) ((lq_12 8).trans rfl) rfl rfl rfl ?_
  refine zj_sld 609 (i + 2) ((lq_12 9).trans rfl) rfl rfl (by omega) hL31 ?_
  refine zj_cvxX 610 ((lq_12 10).trans rfl) rfl lk_10_82 ckM_of (hM _ M rfl) rfl mw_0 rfl rfl rfl (fun s1 hP1 => ?_)
  obtain ⟨M2, rfl, hR⟩ := hP1
  refine zj_icmp_eq 611 ((lq_12 11).trans rfl) rfl (fun c871 => ?_) (fun c871 => ?_)
  · subst hR
    exact kk _ M2 K1 (h1.sm mw_smm (Or.inl hd)) i1
  · exact absurd rfl c871
theorem lc_agree (h : dAt (mw σ2 a M) c K) (hi : inv K (mCo M)) (hd : c + 134 ≤ a) (hiL : i + 7 ≤ E.L) (hL31 : E.L < 2 ^ 31) (kk : ∀ σ2 M K, dAt (mw σ2 a M) c K → inv K (mCo M) → zJ E (YLw nm) room_1 fin n 146 6187 (mw σ2 a M) 1373 [some (.ref E.b), some (.ref c), some (.ref a), some (.int (nI i))] []) : zJ E (YLw nm) room_1 fin n 146 6187 (mw σ2 a M) 876 [some (.ref E.b), some (.ref c), some (.ref a), some (.int (nI i))] [] := by
  obtain ⟨v, R', hD, hM⟩ := w_agree (E := E) (a := a) h hi (E.xs (i + 1)) (E.xs (i + 2)) (E.xs (i + 3))
  refine zj_aload_n 614 ((lq_12 14).trans rfl) rfl rfl ?_
  refine zj_aload_n 615 ((lq_12 15).trans rfl) rfl rfl ?_
  refine zj_iload_n 616 ((lq_12 16).trans rfl) rfl rfl ?_
  refine zj_iconst 617 (1) ((lq_12 17).trans rfl) rfl (by decide) ?_
  refine zn_iadd 618 (i) (1) ((lq_12 18).trans rfl) rfl rfl rfl ?_
  refine zj_sld 619 (i + 1) ((lq_12 19).trans rfl) rfl rfl (by omega) hL31 ?_
  refine zj_aload_n 620 ((lq_12 20).trans rfl) rfl rfl ?_
  refine zj_iload_n 621 ((lq_12 21).trans rfl) rfl rfl ?_
  refine zj_iconst 622 (2) ((lq_12 22).trans rfl) rfl (by decide) ?_
  refine zn_iadd 623 (i) (2) ((lq_12 23).trans rfl) rfl rfl rfl ?_
  refine zj_sld 624 (i + 2) ((lq_12 24).trans rfl) rfl rfl (by omega) hL31 ?_
  refine zj_aload_n 625 ((lq_12 25).trans rfl) rfl rfl ?_
  refine zj_iload_n 626 ((lq_12 26).trans rfl) rfl rfl ?_
  refine zj_iconst 627 (3) ((lq_12 27).trans rfl) rfl (by decide) ?_
  refine zn_iadd 628 (i) (3) ((lq_12 28).trans rfl) rfl rfl rfl ?_
  refine zj_sld 629 (i + 3) ((lq_12 29).trans rfl) rfl rfl (by omega) hL31 ?_
  refine zj_cvxX 630 ((lq_12 30).trans rfl) rfl lk_10_83 ckD_agree hD rfl h.1 rfl rfl rfl (fun s1 hP1 => ?_)
  obtain ⟨z1, K1, h1, i1⟩ := hP1
  have em := mw_keep z1 hd
  rw [← em]
  refine zj_aload_n 631 ((lq_12 31).trans rfl) rfl rfl ?_
  refine zj_aload_n 632 ((lq_12 32).trans rfl) rfl rfl ?_
  refine zj_iload_n 633 ((lq_12 33).trans rfl) rfl rfl ?_
  refine zj_iconst 634 (1) ((lq_12 34).trans rfl) rfl (by decide) ?_
  refine zn_iadd 635 (i) (1) ((lq_12 35).trans rfl) rfl rfl rfl ?_
  refine zj_sld 636 (i + 1) ((lq_12 36).trans rfl) rfl rfl (by omega) hL31 ?_
  refine zj_aload_n 637 ((lq_12 37).trans rfl) rfl rfl ?_
  refine zj_iload_n 638 ((lq_12 38).trans rfl) rfl rfl ?_
  refine zj_iconst 639 (2) ((lq_12 39).trans rfl) rfl (by decide) ?_
  refine zn_iadd 640 (i) (2) ((lq_12 40).trans rfl) rfl rfl rfl ?_
  refine zj_sld 641 (i + 2) ((lq_12 41).trans rfl) rfl rfl (by omega) hL31 ?_
  refine zj_aload_n 642 ((lq_12 42).trans rfl) rfl rfl ?_
  refine zj_iload_n 643 ((lq_12 43).trans rfl) rfl rfl ?_
  refine zj_iconst 644 (3) ((lq_12 44).trans rfl) rfl (by decide) ?_
  refine zn_iadd 645 (i) (3) ((lq_12 45).trans rfl) rfl rfl rfl ?_
  refine zj_sld 646 (i + 3) ((lq_12 46).trans rfl) rfl rfl (by omega) hL31 ?_
  refine zj_cvxX 647 ((lq_12 47).trans rfl) rfl lk_10_86 ckM_agree (hM _ M rfl) rfl mw_0 rfl rfl rfl (fun s1 hP1 => ?_)
  obtain ⟨M2, rfl, hR⟩ := hP1
  refine zj_icmp_eq 648 ((lq_12 48).trans rfl) rfl (fun c914 => ?_) (fun c914 => ?_)
  · subst hR
    exact kk _ M2 K1 (h1.sm mw_smm (Or.inl hd)) i1
  · exact absurd rfl c914
theorem lc_chance (h : dAt (mw σ2 a M) c K) (hi : inv K (mCo M)) (hd : c + 134 ≤ a) (hiL : i + 7 ≤ E.L) (hL31 : E.L < 2 ^ 31) (kk : ∀ σ2 M K, dAt (mw σ2 a M) c K → inv K (mCo M) → zJ E (YLw nm) room_1 fin n 146 6187 (mw σ2 a M) 1373 [some (.ref E.b), some (.ref c), some (.ref a), some (.int (nI i))] []) : zJ E (YLw nm) room_1 fin n 146 6187 (mw σ2 a M) 919 [some (.ref E.b), some (.ref c), some (.ref a), some (.int (nI i))] [] := by
  obtain ⟨v, R', hD, hM⟩ := w_chance (E := E) (a := a) h hi (E.xs (i + 1)) (E.xs (i + 2))
  refine zj_aload_n 651 ((lq_13 1).trans rfl) rfl rfl ?_
  refine zj_aload_n 652 ((lq_13 2).trans rfl) rfl rfl ?_
  refine zj_iload_n 653 ((lq_13 3).trans rfl) rfl rfl ?_
  refine zj_iconst 654 (1) ((lq_13 4).trans rfl) rfl (by decide) ?_
  refine zn_iadd 655 (i) (1) ((lq_13 5).trans rfl) rfl rfl rfl ?_
  refine zj_sld 656 (i + 1) ((lq_13 6).trans rfl) rfl rfl (by omega) hL31 ?_
  refine zj_aload_n 657 ((lq_13 7).trans rfl) rfl rfl ?_
  refine zj_iload_n 658 ((lq_13 8).trans rfl) rfl rfl ?_
  refine zj_iconst 659 (2) ((lq_13 9).trans rfl) rfl (by decide) ?_
  refine zn_iadd 660 (i) (2) ((lq_13 10).trans rfl) rfl rfl rfl ?_
  refine zj_sld 661 (i + 2) ((lq_13 11).trans rfl) rfl rfl (by omega) hL31 ?_
  refine zj_cvxX 662 ((lq_13 12).trans rfl) rfl lk_10_87 ckD_chance hD rfl h.1 rfl rfl rfl (fun s1 hP1 => ?_)
  obtain ⟨z1, K1, h1, i1⟩ := hP1
  have em := mw_keep z1 hd
  rw [← em]
  refine zj_aload_n 663 ((lq_13 13).trans rfl) rfl rfl ?_
  refine zj_aload_n 664 ((lq_13 14).trans rfl) rfl rfl ?_
  refine zj_iload_n 665 ((lq_13 15).trans rfl) rfl rfl ?_
  refine zj_iconst 666 (1) ((lq_13 16).trans rfl) rfl (by decide) ?_
  refine zn_iadd 667 (i) (1) ((lq_13 17).trans rfl) rfl rfl rfl ?_
  refine zj_sld 668 (i + 1) ((lq_13 18).trans rfl) rfl rfl (by omega) hL31 ?_
  refine zj_aload_n 669 ((lq_13 19).trans rfl) rfl rfl ?_
  refine zj_iload_n 670 ((lq_13 20).trans rfl) rfl rfl ?_
  refine zj_iconst 671 (2) ((lq_13 21).trans rfl) rfl (by decide) ?_
  refine zn_iadd 672 (i) (2) ((lq_13 22).trans rfl) rfl rfl rfl ?_
  refine zj_sld 673 (i + 2) ((lq_13 23).trans rfl) rfl rfl (by omega) hL31 ?_
  refine zj_cvxX 674 ((lq_13 24).trans rfl) rfl lk_10_90 ckM_chance (hM _ M rfl) rfl mw_0 rfl rfl rfl (fun s1 hP1 => ?_)
  obtain ⟨M2, rfl, hR⟩ := hP1
  refine zj_icmp_eq 675 ((lq_13 25).trans rfl) rfl (fun c947 => ?_) (fun c947 => ?_)
  · subst hR
    exact kk _ M2 K1 (h1.sm mw_smm (Or.inl hd)) i1
  · exact absurd rfl c947
theorem lc_part (h : dAt (mw σ2 a M) c K) (hi : inv K (mCo M)) (hd : c + 134 ≤ a) (hiL : i + 7 ≤ E.L) (hL31 : E.L < 2 ^ 31) (kk : ∀ σ2 M K, dAt (mw σ2 a M) c K → inv K (mCo M) → zJ E (YLw nm) room_1 fin n 146 6187 (mw σ2 a M) 1373 [some (.ref E.b), some (.ref c), some (.ref a), some (.int (nI i))] []) : zJ E (YLw nm) room_1 fin n 146 6187 (mw σ2 a M) 952 [some (.ref E.b), some (.ref c), some (.ref a), some (.int (nI i))] [] := by
  obtain ⟨v, R', hD, hM⟩ := w_part (E := E) (a := a) h hi (E.xs (i + 1))
  refine zj_aload_n 678 ((lq_13 28).trans rfl) rfl rfl ?_
  refine zj_aload_n 679 ((lq_13 29).trans rfl) rfl rfl ?_
  refine zj_iload_n 680 ((lq_13 30).trans rfl) rfl rfl ?_
  refine zj_iconst 681 (1) ((lq_13 31).trans rfl) rfl (by decide) ?_
  refine zn_iadd 682 (i) (1) ((lq_13 32).trans rfl) rfl rfl rfl ?_
  refine zj_sld 683 (i + 1) ((lq_13 33).trans rfl) rfl rfl (by omega) hL31 ?_
  refine zj_cvxX 684 ((lq_13 34).trans rfl) rfl lk_10_91 ckD_part hD rfl h.1 rfl rfl rfl (fun s1 hP1 => ?_)
  obtain ⟨z1, K1, h1, i1⟩ := hP1
  have em := mw_keep z1 hd
  rw [← em]
  refine zj_aload_n 685 ((lq_13 35).trans rfl) rfl rfl ?_
  refine zj_aload_n 686 ((lq_13 36).trans rfl) rfl rfl ?_
  refine zj_iload_n 687 ((lq_13 37).trans rfl) rfl rfl ?_
  refine zj_iconst 688 (1) ((lq_13 38).trans rfl) rfl (by decide) ?_
  refine zn_iadd 689 (i) (1) ((lq_13 39).trans rfl) rfl rfl rfl ?_
  refine zj_sld 690 (i + 1) ((lq_13 40).trans rfl) rfl rfl (by omega) hL31 ?_
  refine zj_cvxX 691 ((lq_13 41).trans rfl) rfl lk_10_95 ckM_part (hM _ M rfl) rfl mw_0 rfl rfl rfl (fun s1 hP1 => ?_)
  obtain ⟨M2, rfl, hR⟩ := hP1
  refine zj_lcmp 692 ((lq_13 42).trans rfl) rfl ?_
  refine zj_if_eq 693 ((lq_13 43).trans rfl) rfl (fun c971 => ?_) (fun c971 => ?_)
  · subst hR
    exact kk _ M2 K1 (h1.sm mw_smm (Or.inl hd)) i1
  · exact absurd ((lg_cmp_eq _ _).mpr rfl) c971
theorem lc_own (h : dAt (mw σ2 a M) c K) (hi : inv K (mCo M)) (hd : c + 134 ≤ a) (hiL : i + 7 ≤ E.L) (hL31 : E.L < 2 ^ 31) (kk : ∀ σ2 M K, dAt (mw σ2 a M) c K → inv K (mCo M) → zJ E (YLw nm) room_1 fin n 146 6187 (mw σ2 a M) 1373 [some (.ref E.b), some (.ref c), some (.ref a), some (.int (nI i))] []) : zJ E (YLw nm) room_1 fin n 146 6187 (mw σ2 a M) 976 [some (.ref E.b), some (.ref c), some (.ref a), some (.int (nI i))] [] := by
  obtain ⟨v, R', hD, hM⟩ := w_own (E := E) (a := a) h hi (E.xs (i + 1))
  refine zj_aload_n 696 ((lq_13 46).trans rfl) rfl rfl ?_
  refine zj_aload_n 697 ((lq_13 47).trans rfl) rfl rfl ?_
  refine zj_iload_n 698 ((lq_13 48).trans rfl) rfl rfl ?_
  refine zj_iconst 699 (1) ((lq_13 49).trans rfl) rfl (by decide) ?_
  refine zn_iadd 700 (i) (1) ((lq_14 0).trans rfl) rfl rfl rfl ?_
  refine zj_sld 701 (i + 1) ((lq_14 1).trans rfl) rfl rfl (by omega) hL31 ?_
  refine zj_cvxX 702 ((lq_14 2).trans rfl) rfl lk_10_96 ckD_own hD rfl h.1 rfl rfl rfl (fun s1 hP1 => ?_)
  obtain ⟨z1, K1, h1, i1⟩ := hP1
  have em := mw_keep z1 hd
  rw [← em]
  refine zj_aload_n 703 ((lq_14 3).trans rfl) rfl rfl ?_
  refine zj_aload_n 704 ((lq_14 4).trans rfl) rfl rfl ?_
  refine zj_iload_n 705 ((lq_14 5).trans rfl) rfl rfl ?_
  refine zj_iconst 706 (1) ((lq_14 6).trans rfl) rfl (by decide) ?_
  refine zn_iadd 707 (i) (1) ((lq_14 7).trans rfl) rfl rfl rfl ?_
  refine zj_sld 708 (i + 1) ((lq_14 8).trans rfl) rfl rfl (by omega) hL31 ?_
  refine zj_cvxX 709 ((lq_14 9).trans rfl) rfl lk_10_99 ckM_own (hM _ M rfl) rfl mw_0 rfl rfl rfl (fun s1 hP1 => ?_)
  obtain ⟨M2, rfl, hR⟩ := hP1
  refine zj_icmp_eq 710 ((lq_14 10).trans rfl) rfl (fun c994 => ?_) (fun c994 => ?_)
  · subst hR
    exact kk _ M2 K1 (h1.sm mw_smm (Or.inl hd)) i1
  · exact absurd rfl c994
theorem lc_took (h : dAt (mw σ2 a M) c K) (hi : inv K (mCo M)) (hd : c + 134 ≤ a) (hiL : i + 7 ≤ E.L) (hL31 : E.L < 2 ^ 31) (kk : ∀ σ2 M K, dAt (mw σ2 a M) c K → inv K (mCo M) → zJ E (YLw nm) room_1 fin n 146 6187 (mw σ2 a M) 1373 [some (.ref E.b), some (.ref c), some (.ref a), some (.int (nI i))] []) : zJ E (YLw nm) room_1 fin n 146 6187 (mw σ2 a M) 999 [some (.ref E.b), some (.ref c), some (.ref a), some (.int (nI i))] [] := by
  obtain ⟨v, R', hD, hM⟩ := w_took (E := E) (a := a) h hi (E.xs (i + 1)) (E.xs (i + 2))
  refine zj_aload_n 713 ((lq_14 13).trans rfl) rfl rfl ?_
  refine zj_aload_n 714 ((lq_14 14).trans rfl) rfl rfl ?_
  refine zj_iload_n 715 ((lq_14 15).trans rfl) rfl rfl ?_
  refine zj_iconst 716 (1) ((lq_14 16).trans rfl) rfl (by decide) ?_
  refine zn_iadd 717 (i) (1) ((lq_14 17).trans rfl) rfl rfl rfl ?_
  refine zj_sld 718 (i + 1) ((lq_14 18).trans rfl) rfl rfl (by omega) hL31 ?_
  refine zj_aload_n 719 ((lq_14 19).trans rfl) rfl rfl ?_
  refine zj_iload_n 720 ((lq_14 20).trans rfl) rfl rfl ?_
  refine zj_iconst 721 (2) ((lq_14 21).trans rfl) rfl (by decide) ?_
  refine zn_iadd 722 (i) (2) ((lq_14 22).trans rfl) rfl rfl rfl ?_
  refine zj_sld 723 (i + 2) ((lq_14 23).trans rfl) rfl rfl (by omega) hL31 ?_
  refine zj_cvxX 724 ((lq_14 24).trans rfl) rfl lk_10_100 ckD_took hD rfl h.1 rfl rfl rfl (fun s1 hP1 => ?_)
  obtain ⟨z1, K1, h1, i1⟩ := hP1
  have em := mw_keep z1 hd
  rw [← em]
  refine zj_aload_n 725 ((lq_14 25).trans rfl) rfl rfl ?_
  refine zj_aload_n 726 ((lq_14 26).trans rfl) rfl rfl ?_
  refine zj_iload_n 727 ((lq_14 27).trans rfl) rfl rfl ?_
  refine zj_iconst 728 (1) ((lq_14 28).trans rfl) rfl (by decide) ?_
  refine zn_iadd 729 (i) (1) ((lq_14 29).trans rfl) rfl rfl rfl ?_
  refine zj_sld 730 (i + 1) ((lq_14 30).trans rfl) rfl rfl (by omega) hL31 ?_
  refine zj_aload_n 731 ((lq_14 31).trans rfl) rfl rfl ?_
  refine zj_iload_n 732 ((lq_14 32).trans rfl) rfl rfl ?_
  refine zj_iconst 733 (2) ((lq_14 33).trans rfl) rfl (by decide) ?_
  refine zn_iadd 734 (i) (2) ((lq_14 34).trans rfl) rfl rfl rfl ?_
  refine zj_sld 735 (i + 2) ((lq_14 35).trans rfl) rfl rfl (by omega) hL31 ?_
  refine zj_cvxX 736 ((lq_14 36).trans rfl) rfl lk_10_103 ckM_took (hM _ M rfl) rfl mw_0 rfl rfl rfl (fun s1 hP1 => ?_)
  obtain ⟨M2, rfl, hR⟩ := hP1
  refine zj_icmp_eq 737 ((lq_14 37).trans rfl) rfl (fun c1027 => ?_) (fun c1027 => ?_)
  · subst hR
    exact kk _ M2 K1 (h1.sm mw_smm (Or.inl hd)) i1
  · exact absurd rfl c1027
theorem lc_ways (h : dAt (mw σ2 a M) c K) (hi : inv K (mCo M)) (hd : c + 134 ≤ a) (hiL : i + 7 ≤ E.L) (hL31 : E.L < 2 ^ 31) (kk : ∀ σ2 M K, dAt (mw σ2 a M) c K → inv K (mCo M) → zJ E (YLw nm) room_1 fin n 146 6187 (mw σ2 a M) 1373 [some (.ref E.b), some (.ref c), some (.ref a), some (.int (nI i))] []) : zJ E (YLw nm) room_1 fin n 146 6187 (mw σ2 a M) 1032 [some (.ref E.b), some (.ref c), some (.ref a), some (.int (nI i))] [] := by
  obtain ⟨v, R', hD, hM⟩ := w_ways (E := E) (a := a) h hi 
  refine zj_aload_n 740 ((lq_14 40).trans rfl) rfl rfl ?_
  refine zj_cvxX 741 ((lq_14 41).trans rfl) rfl lk_10_104 ckD_ways hD rfl h.1 rfl rfl rfl (fun s1 hP1 => ?_)
  obtain ⟨z1, K1, h1, i1⟩ := hP1
  have em := mw_keep z1 hd
  rw [← em]
  refine zj_aload_n 742 ((lq_14 42).trans rfl) rfl rfl ?_
  refine zj_cvxX 743 ((lq_14 43).trans rfl) rfl lk_10_108 ckM_ways (hM _ M rfl) rfl mw_0 rfl rfl rfl (fun s1 hP1 => ?_)
  obtain ⟨M2, rfl, hR⟩ := hP1
  refine zj_lcmp 744 ((lq_14 44).trans rfl) rfl ?_
  refine zj_if_eq 745 ((lq_14 45).trans rfl) rfl (fun c1041 => ?_) (fun c1041 => ?_)
  · subst hR
    exact kk _ M2 K1 (h1.sm mw_smm (Or.inl hd)) i1
  · exact absurd ((lg_cmp_eq _ _).mpr rfl) c1041
theorem lc_guess (h : dAt (mw σ2 a M) c K) (hi : inv K (mCo M)) (hd : c + 134 ≤ a) (hiL : i + 7 ≤ E.L) (hL31 : E.L < 2 ^ 31) (kk : ∀ σ2 M K, dAt (mw σ2 a M) c K → inv K (mCo M) → zJ E (YLw nm) room_1 fin n 146 6187 (mw σ2 a M) 1373 [some (.ref E.b), some (.ref c), some (.ref a), some (.int (nI i))] []) : zJ E (YLw nm) room_1 fin n 146 6187 (mw σ2 a M) 1046 [some (.ref E.b), some (.ref c), some (.ref a), some (.int (nI i))] [] := by
  obtain ⟨v, R', hD, hM⟩ := w_guess (E := E) (a := a) h hi (E.xs (i + 1)) (E.xs (i + 2)) (E.xs (i + 3))
  refine zj_aload_n 748 ((lq_14 48).trans rfl) rfl rfl ?_
  refine zj_aload_n 749 ((lq_14 49).trans rfl) rfl rfl ?_
  refine zj_iload_n 750 ((lq_15 0).trans rfl) rfl rfl ?_
  refine zj_iconst 751 (1) ((lq_15 1).trans rfl) rfl (by decide) ?_
  refine zn_iadd 752 (i) (1) ((lq_15 2).trans rfl) rfl rfl rfl ?_
  refine zj_sld 753 (i + 1) ((lq_15 3).trans rfl) rfl rfl (by omega) hL31 ?_
  refine zj_aload_n 754 ((lq_15 4).trans rfl) rfl rfl ?_
  refine zj_iload_n 755 ((lq_15 5).trans rfl) rfl rfl ?_
  refine zj_iconst 756 (2) ((lq_15 6).trans rfl) rfl (by decide) ?_
  refine zn_iadd 757 (i) (2) ((lq_15 7).trans rfl) rfl rfl rfl ?_
  refine zj_sld 758 (i + 2) ((lq_15 8).trans rfl) rfl rfl (by omega) hL31 ?_
  refine zj_aload_n 759 ((lq_15 9).trans rfl) rfl rfl ?_
  refine zj_iload_n 760 ((lq_15 10).trans rfl) rfl rfl ?_
  refine zj_iconst 761 (3) ((lq_15 11).trans rfl) rfl (by decide) ?_
  refine zn_iadd 762 (i) (3) ((lq_15 12).trans rfl) rfl rfl rfl ?_
  refine zj_sld 763 (i + 3) ((lq_15 13).trans rfl) rfl rfl (by omega) hL31 ?_
  refine zj_cvxX 764 ((lq_15 14).trans rfl) rfl lk_10_109 ckD_guess hD rfl h.1 rfl rfl rfl (fun s1 hP1 => ?_)
  obtain ⟨z1, K1, h1, i1⟩ := hP1
  have em := mw_keep z1 hd
  rw [← em]
  refine zj_aload_n 765 ((lq_15 15).trans rfl) rfl rfl ?_
  refine zj_aload_n 766 ((lq_15 16).trans rfl) rfl rfl ?_
  refine zj_iload_n 767 ((lq_15 17).trans rfl) rfl rfl ?_
  refine zj_iconst 768 (1) ((lq_15 18).trans rfl) rfl (by decide) ?_
  refine zn_iadd 769 (i) (1) ((lq_15 19).trans rfl) rfl rfl rfl ?_
  refine zj_sld 770 (i + 1) ((lq_15 20).trans rfl) rfl rfl (by omega) hL31 ?_
  refine zj_aload_n 771 ((lq_15 21).trans rfl) rfl rfl ?_
  refine zj_iload_n 772 ((lq_15 22).trans rfl) rfl rfl ?_
  refine zj_iconst 773 (2) ((lq_15 23).trans rfl) rfl (by decide) ?_
  refine zn_iadd 774 (i) (2) ((lq_15 24).trans rfl) rfl rfl rfl ?_
  refine zj_sld 775 (i + 2) ((lq_15 25).trans rfl) rfl rfl (by omega) hL31 ?_
  refine zj_aload_n 776 ((lq_15 26).trans rfl) rfl rfl ?_
  refine zj_iload_n 777 ((lq_15 27).trans rfl) rfl rfl ?_
  refine zj_iconst 778 (3) ((lq_15 28).trans rfl) rfl (by decide) ?_
  refine zn_iadd 779 (i) (3) ((lq_15 29).trans rfl) rfl rfl rfl ?_
  refine zj_sld 780 (i + 3) ((lq_15 30).trans rfl) rfl rfl (by omega) hL31 ?_
  refine zj_cvxX 781 ((lq_15 31).trans rfl) rfl lk_10_112 ckM_guess (hM _ M rfl) rfl mw_0 rfl rfl rfl (fun s1 hP1 => ?_)
  obtain ⟨M2, rfl, hR⟩ := hP1
  refine zj_icmp_eq 782 ((lq_15 32).trans rfl) rfl (fun c1084 => ?_) (fun c1084 => ?_)
  · subst hR
    exact kk _ M2 K1 (h1.sm mw_smm (Or.inl hd)) i1
  · exact absurd rfl c1084
theorem lc_error (h : dAt (mw σ2 a M) c K) (hi : inv K (mCo M)) (hd : c + 134 ≤ a) (hiL : i + 7 ≤ E.L) (hL31 : E.L < 2 ^ 31) (kk : ∀ σ2 M K, dAt (mw σ2 a M) c K → inv K (mCo M) → zJ E (YLw nm) room_1 fin n 146 6187 (mw σ2 a M) 1373 [some (.ref E.b), some (.ref c), some (.ref a), some (.int (nI i))] []) : zJ E (YLw nm) room_1 fin n 146 6187 (mw σ2 a M) 1089 [some (.ref E.b), some (.ref c), some (.ref a), some (.int (nI i))] [] := by
  obtain ⟨v, R', hD, hM⟩ := w_error (E := E) (a := a) h hi (E.xs (i + 1))
  refine zj_aload_n 785 ((lq_15 35).trans rfl) rfl rfl ?_
  refine zj_aload_n 786 ((lq_15 36).trans rfl) rfl rfl ?_
  refine zj_iload_n 787 ((lq_15 37).trans rfl) rfl rfl ?_
  refine zj_iconst 788 (1) ((lq_15 38).trans rfl) rfl (by decide) ?_
  refine zn_iadd 789 (i) (1) ((lq_15 39).trans rfl) rfl rfl rfl ?_
  refine zj_sld 790 (i + 1) ((lq_15 40).trans rfl) rfl rfl (by omega) hL31 ?_
  refine zj_cvxX 791 ((lq_15 41).trans rfl) rfl lk_10_113 ckD_error hD rfl h.1 rfl rfl rfl (fun s1 hP1 => ?_)
  obtain ⟨z1, K1, h1, i1⟩ := hP1
  have em := mw_keep z1 hd
  rw [← em]
  refine zj_aload_n 792 ((lq_15 42).trans rfl) rfl rfl ?_
  refine zj_aload_n 793 ((lq_15 43).trans rfl) rfl rfl ?_
  refine zj_iload_n 794 ((lq_15 44).trans rfl) rfl rfl ?_
  refine zj_iconst 795 (1) ((lq_15 45).trans rfl) rfl (by decide) ?_
  refine zn_iadd 796 (i) (1) ((lq_15 46).trans rfl) rfl rfl rfl ?_
  refine zj_sld 797 (i + 1) ((lq_15 47).trans rfl) rfl rfl (by omega) hL31 ?_
  refine zj_cvxX 798 ((lq_15 48).trans rfl) rfl lk_10_116 ckM_error (hM _ M rfl) rfl mw_0 rfl rfl rfl (fun s1 hP1 => ?_)
  obtain ⟨M2, rfl, hR⟩ := hP1
  refine zj_icmp_eq 799 ((lq_15 49).trans rfl) rfl (fun c1107 => ?_) (fun c1107 => ?_)
  · subst hR
    exact kk _ M2 K1 (h1.sm mw_smm (Or.inl hd)) i1
  · exact absurd rfl c1107
theorem lc_allows (h : dAt (mw σ2 a M) c K) (hi : inv K (mCo M)) (hd : c + 134 ≤ a) (hiL : i + 7 ≤ E.L) (hL31 : E.L < 2 ^ 31) (kk : ∀ σ2 M K, dAt (mw σ2 a M) c K → inv K (mCo M) → zJ E (YLw nm) room_1 fin n 146 6187 (mw σ2 a M) 1373 [some (.ref E.b), some (.ref c), some (.ref a), some (.int (nI i))] []) : zJ E (YLw nm) room_1 fin n 146 6187 (mw σ2 a M) 1112 [some (.ref E.b), some (.ref c), some (.ref a), some (.int (nI i))] [] := by
  obtain ⟨v, R', hD, hM⟩ := w_allows (E := E) (a := a) h hi (E.xs (i + 1)) (E.xs (i + 2))
  refine zj_aload_n 802 ((lq_16 2).trans rfl) rfl rfl ?_
  refine zj_aload_n 803 ((lq_16 3).trans rfl) rfl rfl ?_
  refine zj_iload_n 804 ((lq_16 4).trans rfl) rfl rfl ?_
  refine zj_iconst 805 (1) ((lq_16 5).trans rfl) rfl (by decide) ?_
  refine zn_iadd 806 (i) (1) ((lq_16 6).trans rfl) rfl rfl rfl ?_
  refine zj_sld 807 (i + 1) ((lq_16 7).trans rfl) rfl rfl (by omega) hL31 ?_
  refine zj_aload_n 808 ((lq_16 8).trans rfl) rfl rfl ?_
  refine zj_iload_n 809 ((lq_16 9).trans rfl) rfl rfl ?_
  refine zj_iconst 810 (2) ((lq_16 10).trans rfl) rfl (by decide) ?_
  refine zn_iadd 811 (i) (2) ((lq_16 11).trans rfl) rfl rfl rfl ?_
  refine zj_sld 812 (i + 2) ((lq_16 12).trans rfl) rfl rfl (by omega) hL31 ?_
  refine zj_cvxX 813 ((lq_16 13).trans rfl) rfl lk_10_117 ckD_allows hD rfl h.1 rfl rfl rfl (fun s1 hP1 => ?_)
  obtain ⟨z1, K1, h1, i1⟩ := hP1
  have em := mw_keep z1 hd
  rw [← em]
  refine zj_aload_n 814 ((lq_16 14).trans rfl) rfl rfl ?_
  refine zj_aload_n 815 ((lq_16 15).trans rfl) rfl rfl ?_
  refine zj_iload_n 816 ((lq_16 16).trans rfl) rfl rfl ?_
  refine zj_iconst 817 (1) ((lq_16 17).trans rfl) rfl (by decide) ?_
  refine zn_iadd 818 (i) (1) ((lq_16 18).trans rfl) rfl rfl rfl ?_
  refine zj_sld 819 (i + 1) ((lq_16 19).trans rfl) rfl rfl (by omega) hL31 ?_
  refine zj_aload_n 820 ((lq_16 20).trans rfl) rfl rfl ?_
  refine zj_iload_n 821 ((lq_16 21).trans rfl) rfl rfl ?_
  refine zj_iconst 822 (2) ((lq_16 22).trans rfl) rfl (by decide) ?_
  refine zn_iadd 823 (i) (2) ((lq_16 23).trans rfl) rfl rfl rfl ?_
  refine zj_sld 824 (i + 2) ((lq_16 24).trans rfl) rfl rfl (by omega) hL31 ?_
  refine zj_cvxX 825 ((lq_16 25).trans rfl) rfl lk_10_120 ckM_allows (hM _ M rfl) rfl mw_0 rfl rfl rfl (fun s1 hP1 => ?_)
  obtain ⟨M2, rfl, hR⟩ := hP1
  refine zj_icmp_eq 826 ((lq_16 26).trans rfl) rfl (fun c1140 => ?_) (fun c1140 => ?_)
  · subst hR
    exact kk _ M2 K1 (h1.sm mw_smm (Or.inl hd)) i1
  · exact absurd rfl c1140
theorem lc_mayBe (h : dAt (mw σ2 a M) c K) (hi : inv K (mCo M)) (hd : c + 134 ≤ a) (hiL : i + 7 ≤ E.L) (hL31 : E.L < 2 ^ 31) (kk : ∀ σ2 M K, dAt (mw σ2 a M) c K → inv K (mCo M) → zJ E (YLw nm) room_1 fin n 146 6187 (mw σ2 a M) 1373 [some (.ref E.b), some (.ref c), some (.ref a), some (.int (nI i))] []) : zJ E (YLw nm) room_1 fin n 146 6187 (mw σ2 a M) 1145 [some (.ref E.b), some (.ref c), some (.ref a), some (.int (nI i))] [] := by
  obtain ⟨v, R', hD, hM⟩ := w_mayBe (E := E) (a := a) h hi (E.xs (i + 1))
  refine zj_aload_n 829 ((lq_16 29).trans rfl) rfl rfl ?_
  refine zj_aload_n 830 ((lq_16 30).trans rfl) rfl rfl ?_
  refine zj_iload_n 831 ((lq_16 31).trans rfl) rfl rfl ?_
  refine zj_iconst 832 (1) ((lq_16 32).trans rfl) rfl (by decide) ?_
  refine zn_iadd 833 (i) (1) ((lq_16 33).trans rfl) rfl rfl rfl ?_
  refine zj_sld 834 (i + 1) ((lq_16 34).trans rfl) rfl rfl (by omega) hL31 ?_
  refine zj_cvxX 835 ((lq_16 35).trans rfl) rfl lk_10_121 ckD_mayBe hD rfl h.1 rfl rfl rfl (fun s1 hP1 => ?_)
  obtain ⟨z1, K1, h1, i1⟩ := hP1
  have em := mw_keep z1 hd
  rw [← em]
  refine zj_aload_n 836 ((lq_16 36).trans rfl) rfl rfl ?_
  refine zj_aload_n 837 ((lq_16 37).trans rfl) rfl rfl ?_
  refine zj_iload_n 838 ((lq_16 38).trans rfl) rfl rfl ?_
  refine zj_iconst 839 (1) ((lq_16 39).trans rfl) rfl (by decide) ?_
  refine zn_iadd 840 (i) (1) ((lq_16 40).trans rfl) rfl rfl rfl ?_
  refine zj_sld 841 (i + 1) ((lq_16 41).trans rfl) rfl rfl (by omega) hL31 ?_
  refine zj_cvxX 842 ((lq_16 42).trans rfl) rfl lk_10_124 ckM_mayBe (hM _ M rfl) rfl mw_0 rfl rfl rfl (fun s1 hP1 => ?_)
  obtain ⟨M2, rfl, hR⟩ := hP1
  refine zj_icmp_eq 843 ((lq_16 43).trans rfl) rfl (fun c1163 => ?_) (fun c1163 => ?_)
  · subst hR
    exact kk _ M2 K1 (h1.sm mw_smm (Or.inl hd)) i1
  · exact absurd rfl c1163
theorem lc_there (h : dAt (mw σ2 a M) c K) (hi : inv K (mCo M)) (hd : c + 134 ≤ a) (hiL : i + 7 ≤ E.L) (hL31 : E.L < 2 ^ 31) (kk : ∀ σ2 M K, dAt (mw σ2 a M) c K → inv K (mCo M) → zJ E (YLw nm) room_1 fin n 146 6187 (mw σ2 a M) 1373 [some (.ref E.b), some (.ref c), some (.ref a), some (.int (nI i))] []) : zJ E (YLw nm) room_1 fin n 146 6187 (mw σ2 a M) 1168 [some (.ref E.b), some (.ref c), some (.ref a), some (.int (nI i))] [] := by
  obtain ⟨v, R', hD, hM⟩ := w_there (E := E) (a := a) h hi (E.xs (i + 1)) (E.xs (i + 2))
  refine zj_aload_n 846 ((lq_16 46).trans rfl) rfl rfl ?_
  refine zj_aload_n 847 ((lq_16 47).trans rfl) rfl rfl ?_
  refine zj_iload_n 848 ((lq_16 48).trans rfl) rfl rfl ?_
  refine zj_iconst 849 (1) ((lq_16 49).trans rfl) rfl (by decide) ?_
  refine zn_iadd 850 (i) (1) ((lq_17 0).trans rfl) rfl rfl rfl ?_
  refine zj_sld 851 (i + 1) ((lq_17 1).trans rfl) rfl rfl (by omega) hL31 ?_
  refine zj_aload_n 852 ((lq_17 2).trans rfl) rfl rfl ?_
  refine zj_iload_n 853 ((lq_17 3).trans rfl) rfl rfl ?_
  refine zj_iconst 854 (2) ((lq_17 4).trans rfl) rfl (by decide) ?_
  refine zn_iadd 855 (i) (2) ((lq_17 5).trans rfl) rfl rfl rfl ?_
  refine zj_sld 856 (i + 2) ((lq_17 6).trans rfl) rfl rfl (by omega) hL31 ?_
  refine zj_cvxX 857 ((lq_17 7).trans rfl) rfl lk_10_125 ckD_there hD rfl h.1 rfl rfl rfl (fun s1 hP1 => ?_)
  obtain ⟨z1, K1, h1, i1⟩ := hP1
  have em := mw_keep z1 hd
  rw [← em]
  refine zj_aload_n 858 ((lq_17 8).trans rfl) rfl rfl ?_
  refine zj_aload_n 859 ((lq_17 9).trans rfl) rfl rfl ?_
  refine zj_iload_n 860 ((lq_17 10).trans rfl) rfl rfl ?_
  refine zj_iconst 861 (1) ((lq_17 11).trans rfl) rfl (by decide) ?_
  refine zn_iadd 862 (i) (1) ((lq_17 12).trans rfl) rfl rfl rfl ?_
  refine zj_sld 863 (i + 1) ((lq_17 13).trans rfl) rfl rfl (by omega) hL31 ?_
  refine zj_aload_n 864 ((lq_17 14).trans rfl) rfl rfl ?_
  refine zj_iload_n 865 ((lq_17 15).trans rfl) rfl rfl ?_
  refine zj_iconst 866 (2) ((lq_17 16).trans rfl) rfl (by decide) ?_
  refine zn_iadd 867 (i) (2) ((lq_17 17).trans rfl) rfl rfl rfl ?_
  refine zj_sld 868 (i + 2) ((lq_17 18).trans rfl) rfl rfl (by omega) hL31 ?_
  refine zj_cvxX 869 ((lq_17 19).trans rfl) rfl lk_10_128 ckM_there (hM _ M rfl) rfl mw_0 rfl rfl rfl (fun s1 hP1 => ?_)
  obtain ⟨M2, rfl, hR⟩ := hP1
  refine zj_icmp_eq 870 ((lq_17 20).trans rfl) rfl (fun c1196 => ?_) (fun c1196 => ?_)
  · subst hR
    exact kk _ M2 K1 (h1.sm mw_smm (Or.inl hd)) i1
  · exact absurd rfl c1196
theorem lc_parts (h : dAt (mw σ2 a M) c K) (hi : inv K (mCo M)) (hd : c + 134 ≤ a) (hiL : i + 7 ≤ E.L) (hL31 : E.L < 2 ^ 31) (kk : ∀ σ2 M K, dAt (mw σ2 a M) c K → inv K (mCo M) → zJ E (YLw nm) room_1 fin n 146 6187 (mw σ2 a M) 1373 [some (.ref E.b), some (.ref c), some (.ref a), some (.int (nI i))] []) : zJ E (YLw nm) room_1 fin n 146 6187 (mw σ2 a M) 1201 [some (.ref E.b), some (.ref c), some (.ref a), some (.int (nI i))] [] := by
  obtain ⟨v, R', hD, hM⟩ := w_parts (E := E) (a := a) h hi (E.xs (i + 1)) (E.xs (i + 2))
  refine zj_aload_n 873 ((lq_17 23).trans rfl) rfl rfl ?_
  refine zj_aload_n 874 ((lq_17 24).trans rfl) rfl rfl ?_
  refine zj_iload_n 875 ((lq_17 25).trans rfl) rfl rfl ?_
  refine zj_iconst 876 (1) ((lq_17 26).trans rfl) rfl (by decide) ?_
  refine zn_iadd 877 (i) (1) ((lq_17 27).trans rfl) rfl rfl rfl ?_
  refine zj_sld 878 (i + 1) ((lq_17 28).trans rfl) rfl rfl (by omega) hL31 ?_
  refine zj_aload_n 879 ((lq_17 29).trans rfl) rfl rfl ?_
  refine zj_iload_n 880 ((lq_17 30).trans rfl) rfl rfl ?_
  refine zj_iconst 881 (2) ((lq_17 31).trans rfl) rfl (by decide) ?_
  refine zn_iadd 882 (i) (2) ((lq_17 32).trans rfl) rfl rfl rfl ?_
  refine zj_sld 883 (i + 2) ((lq_17 33).trans rfl) rfl rfl (by omega) hL31 ?_
  refine zj_cvxX 884 ((lq_17 34).trans rfl) rfl lk_10_129 ckD_parts hD rfl h.1 rfl rfl rfl (fun s1 hP1 => ?_)
  obtain ⟨z1, K1, h1, i1⟩ := hP1
  have em := mw_keep z1 hd
  rw [← em]
  refine zj_aload_n 885 ((lq_17 35).trans rfl) rfl rfl ?_
  refine zj_aload_n 886 ((lq_17 36).trans rfl) rfl rfl ?_
  refine zj_iload_n 887 ((lq_17 37).trans rfl) rfl rfl ?_
  refine zj_iconst 888 (1) ((lq_17 38).trans rfl) rfl (by decide) ?_
  refine zn_iadd 889 (i) (1) ((lq_17 39).trans rfl) rfl rfl rfl ?_
  refine zj_sld 890 (i + 1) ((lq_17 40).trans rfl) rfl rfl (by omega) hL31 ?_
  refine zj_aload_n 891 ((lq_17 41).trans rfl) rfl rfl ?_
  refine zj_iload_n 892 ((lq_17 42).trans rfl) rfl rfl ?_
  refine zj_iconst 893 (2) ((lq_17 43).trans rfl) rfl (by decide) ?_
  refine zn_iadd 894 (i) (2) ((lq_17 44).trans rfl) rfl rfl rfl ?_
  refine zj_sld 895 (i + 2) ((lq_17 45).trans rfl) rfl rfl (by omega) hL31 ?_
  refine zj_cvxX 896 ((lq_17 46).trans rfl) rfl lk_10_132 ckM_parts (hM _ M rfl) rfl mw_0 rfl rfl rfl (fun s1 hP1 => ?_)
  obtain ⟨M2, rfl, hR⟩ := hP1
  refine zj_icmp_eq 897 ((lq_17 47).trans rfl) rfl (fun c1229 => ?_) (fun c1229 => ?_)
  · subst hR
    exact kk _ M2 K1 (h1.sm mw_smm (Or.inl hd)) i1
  · exact absurd rfl c1229
theorem lc_weighed (h : dAt (mw σ2 a M) c K) (hi : inv K (mCo M)) (hd : c + 134 ≤ a) (hiL : i + 7 ≤ E.L) (hL31 : E.L < 2 ^ 31) (kk : ∀ σ2 M K, dAt (mw σ2 a M) c K → inv K (mCo M) → zJ E (YLw nm) room_1 fin n 146 6187 (mw σ2 a M) 1373 [some (.ref E.b), some (.ref c), some (.ref a), some (.int (nI i))] []) : zJ E (YLw nm) room_1 fin n 146 6187 (mw σ2 a M) 1234 [some (.ref E.b), some (.ref c), some (.ref a), some (.int (nI i))] [] := by
  obtain ⟨v, R', hD, hM⟩ := w_weighed (E := E) (a := a) h hi (E.xs (i + 1))
  refine zj_aload_n 900 ((lq_18 0).trans rfl) rfl rfl ?_
  refine zj_aload_n 901 ((lq_18 1).trans rfl) rfl rfl ?_
  refine zj_iload_n 902 ((lq_18 2).trans rfl) rfl rfl ?_
  refine zj_iconst 903 (1) ((lq_18 3).trans rfl) rfl (by decide) ?_
  refine zn_iadd 904 (i) (1) ((lq_18 4).trans rfl) rfl rfl rfl ?_
  refine zj_sld 905 (i + 1) ((lq_18 5).trans rfl) rfl rfl (by omega) hL31 ?_
  refine zj_cvxX 906 ((lq_18 6).trans rfl) rfl lk_10_133 ckD_weighed hD rfl h.1 rfl rfl rfl (fun s1 hP1 => ?_)
  obtain ⟨z1, K1, h1, i1⟩ := hP1
  have em := mw_keep z1 hd
  rw [← em]
  refine zj_aload_n 907 ((lq_18 7).trans rfl) rfl rfl ?_
  refine zj_aload_n 908 ((lq_18 8).trans rfl) rfl rfl ?_
  refine zj_iload_n 909 ((lq_18 9).trans rfl) rfl rfl ?_
  refine zj_iconst 910 (1) ((lq_18 10).trans rfl) rfl (by decide) ?_
  refine zn_iadd 911 (i) (1) ((lq_18 11).trans rfl) rfl rfl rfl ?_
  refine zj_sld 912 (i + 1) ((lq_18 12).trans rfl) rfl rfl (by omega) hL31 ?_
  refine zj_cvxX 913 ((lq_18 13).trans rfl) rfl lk_10_136 ckM_weighed (hM _ M rfl) rfl mw_0 rfl rfl rfl (fun s1 hP1 => ?_)
  obtain ⟨M2, rfl, hR⟩ := hP1
  refine zj_icmp_eq 914 ((lq_18 14).trans rfl) rfl (fun c1252 => ?_) (fun c1252 => ?_)
  · subst hR
    exact kk _ M2 K1 (h1.sm mw_smm (Or.inl hd)) i1
  · exact absurd rfl c1252
theorem lc_season (h : dAt (mw σ2 a M) c K) (hi : inv K (mCo M)) (hd : c + 134 ≤ a) (hiL : i + 7 ≤ E.L) (hL31 : E.L < 2 ^ 31) (kk : ∀ σ2 M K, dAt (mw σ2 a M) c K → inv K (mCo M) → zJ E (YLw nm) room_1 fin n 146 6187 (mw σ2 a M) 1373 [some (.ref E.b), some (.ref c), some (.ref a), some (.int (nI i))] []) : zJ E (YLw nm) room_1 fin n 146 6187 (mw σ2 a M) 1257 [some (.ref E.b), some (.ref c), some (.ref a), some (.int (nI i))] [] := by
  obtain ⟨v, R', hD, hM⟩ := w_season (E := E) (a := a) h hi (E.xs (i + 1)) (E.xs (i + 2))
  refine zj_aload_n 917 ((lq_18 17).trans rfl) rfl rfl ?_
  refine zj_aload_n 918 ((lq_18 18).trans rfl) rfl rfl ?_
  refine zj_iload_n 919 ((lq_18 19).trans rfl) rfl rfl ?_
  refine zj_iconst 920 (1) ((lq_18 20).trans rfl) rfl (by decide) ?_
  refine zn_iadd 921 (i) (1) ((lq_18 21).trans rfl) rfl rfl rfl ?_
  refine zj_sld 922 (i + 1) ((lq_18 22).trans rfl) rfl rfl (by omega) hL31 ?_
  refine zj_aload_n 923 ((lq_18 23).trans rfl) rfl rfl ?_
  refine zj_iload_n 924 ((lq_18 24).trans rfl) rfl rfl ?_
  refine zj_iconst 925 (2) ((lq_18 25).trans rfl) rfl (by decide) ?_
  refine zn_iadd 926 (i) (2) ((lq_18 26).trans rfl) rfl rfl rfl ?_
  refine zj_sld 927 (i + 2) ((lq_18 27).trans rfl) rfl rfl (by omega) hL31 ?_
  refine zj_cvxX 928 ((lq_18 28).trans rfl) rfl lk_10_137 ckD_season hD rfl h.1 rfl rfl rfl (fun s1 hP1 => ?_)
  obtain ⟨z1, K1, h1, i1⟩ := hP1
  have em := mw_keep z1 hd
  rw [← em]
  refine zj_aload_n 929 ((lq_18 29).trans rfl) rfl rfl ?_
  refine zj_aload_n 930 ((lq_18 30).trans rfl) rfl rfl ?_
  refine zj_iload_n 931 ((lq_18 31).trans rfl) rfl rfl ?_
  refine zj_iconst 932 (1) ((lq_18 32).trans rfl) rfl (by decide) ?_
  refine zn_iadd 933 (i) (1) ((lq_18 33).trans rfl) rfl rfl rfl ?_
  refine zj_sld 934 (i + 1) ((lq_18 34).trans rfl) rfl rfl (by omega) hL31 ?_
  refine zj_aload_n 935 ((lq_18 35).trans rfl) rfl rfl ?_
  refine zj_iload_n 936 ((lq_18 36).trans rfl) rfl rfl ?_
  refine zj_iconst 937 (2) ((lq_18 37).trans rfl) rfl (by decide) ?_
  refine zn_iadd 938 (i) (2) ((lq_18 38).trans rfl) rfl rfl rfl ?_
  refine zj_sld 939 (i + 2) ((lq_18 39).trans rfl) rfl rfl (by omega) hL31 ?_
  refine zj_cvxX 940 ((lq_18 40).trans rfl) rfl lk_10_140 ckM_season (hM _ M rfl) rfl mw_0 rfl rfl rfl (fun s1 hP1 => ?_)
  obtain ⟨M2, rfl, hR⟩ := hP1
  refine zj_icmp_eq 941 ((lq_18 41).trans rfl) rfl (fun c1285 => ?_) (fun c1285 => ?_)
  · subst hR
    exact kk _ M2 K1 (h1.sm mw_smm (Or.inl hd)) i1
  · exact absurd rfl c1285
theorem lc_image (h : dAt (mw σ2 a M) c K) (hi : inv K (mCo M)) (hd : c + 134 ≤ a) (hiL : i + 7 ≤ E.L) (hL31 : E.L < 2 ^ 31) (kk : ∀ σ2 M K, dAt (mw σ2 a M) c K → inv K (mCo M) → zJ E (YLw nm) room_1 fin n 146 6187 (mw σ2 a M) 1373 [some (.ref E.b), some (.ref c), some (.ref a), some (.int (nI i))] []) : zJ E (YLw nm) room_1 fin n 146 6187 (mw σ2 a M) 1290 [some (.ref E.b), some (.ref c), some (.ref a), some (.int (nI i))] [] := by
  obtain ⟨v, R', hD, hM⟩ := w_image (E := E) (a := a) h hi (E.xs (i + 1))
  refine zj_aload_n 944 ((lq_18 44).trans rfl) rfl rfl ?_
  refine zj_aload_n 945 ((lq_18 45).trans rfl) rfl rfl ?_
  refine zj_iload_n 946 ((lq_18 46).trans rfl) rfl rfl ?_
  refine zj_iconst 947 (1) ((lq_18 47).trans rfl) rfl (by decide) ?_
  refine zn_iadd 948 (i) (1) ((lq_18 48).trans rfl) rfl rfl rfl ?_
  refine zj_sld 949 (i + 1) ((lq_18 49).trans rfl) rfl rfl (by omega) hL31 ?_
  refine zj_cvxX 950 ((lq_19 0).trans rfl) rfl lk_10_141 ckD_image hD rfl h.1 rfl rfl rfl (fun s1 hP1 => ?_)
  obtain ⟨z1, K1, h1, i1⟩ := hP1
  have em := mw_keep z1 hd
  rw [← em]
  refine zj_aload_n 951 ((lq_19 1).trans rfl) rfl rfl ?_
  refine zj_aload_n 952 ((lq_19 2).trans rfl) rfl rfl ?_
  refine zj_iload_n 953 ((lq_19 3).trans rfl) rfl rfl ?_
  refine zj_iconst 954 (1) ((lq_19 4).trans rfl) rfl (by decide) ?_
  refine zn_iadd 955 (i) (1) ((lq_19 5).trans rfl) rfl rfl rfl ?_
  refine zj_sld 956 (i + 1) ((lq_19 6).trans rfl) rfl rfl (by omega) hL31 ?_
  refine zj_cvxX 957 ((lq_19 7).trans rfl) rfl lk_10_144 ckM_image (hM _ M rfl) rfl mw_0 rfl rfl rfl (fun s1 hP1 => ?_)
  obtain ⟨M2, rfl, hR⟩ := hP1
  refine zj_icmp_eq 958 ((lq_19 8).trans rfl) rfl (fun c1308 => ?_) (fun c1308 => ?_)
  · subst hR
    exact kk _ M2 K1 (h1.sm mw_smm (Or.inl hd)) i1
  · exact absurd rfl c1308
theorem lc_from (h : dAt (mw σ2 a M) c K) (hi : inv K (mCo M)) (hd : c + 134 ≤ a) (hiL : i + 7 ≤ E.L) (hL31 : E.L < 2 ^ 31) (kk : ∀ σ2 M K, dAt (mw σ2 a M) c K → inv K (mCo M) → zJ E (YLw nm) room_1 fin n 146 6187 (mw σ2 a M) 1373 [some (.ref E.b), some (.ref c), some (.ref a), some (.int (nI i))] []) : zJ E (YLw nm) room_1 fin n 146 6187 (mw σ2 a M) 1313 [some (.ref E.b), some (.ref c), some (.ref a), some (.int (nI i))] [] := by
  obtain ⟨v, R', hD, hM⟩ := w_from (E := E) (a := a) h hi (E.xs (i + 1))
  refine zj_aload_n 961 ((lq_19 11).trans rfl) rfl rfl ?_
  refine zj_aload_n 962 ((lq_19 12).trans rfl) rfl rfl ?_
  refine zj_iload_n 963 ((lq_19 13).trans rfl) rfl rfl ?_
  refine zj_iconst 964 (1) ((lq_19 14).trans rfl) rfl (by decide) ?_
  refine zn_iadd 965 (i) (1) ((lq_19 15).trans rfl) rfl rfl rfl ?_
  refine zj_sld 966 (i + 1) ((lq_19 16).trans rfl) rfl rfl (by omega) hL31 ?_
  refine zj_cvxX 967 ((lq_19 17).trans rfl) rfl lk_10_145 ckD_from hD rfl h.1 rfl rfl rfl (fun s1 hP1 => ?_)
  obtain ⟨z1, K1, h1, i1⟩ := hP1
  have em := mw_keep z1 hd
  rw [← em]
  refine zj_aload_n 968 ((lq_19 18).trans rfl) rfl rfl ?_
  refine zj_aload_n 969 ((lq_19 19).trans rfl) rfl rfl ?_
  refine zj_iload_n 970 ((lq_19 20).trans rfl) rfl rfl ?_
  refine zj_iconst 971 (1) ((lq_19 21).trans rfl) rfl (by decide) ?_
  refine zn_iadd 972 (i) (1) ((lq_19 22).trans rfl) rfl rfl rfl ?_
  refine zj_sld 973 (i + 1) ((lq_19 23).trans rfl) rfl rfl (by omega) hL31 ?_
  refine zj_cvxX 974 ((lq_19 24).trans rfl) rfl lk_10_148 ckM_from (hM _ M rfl) rfl mw_0 rfl rfl rfl (fun s1 hP1 => ?_)
  obtain ⟨M2, rfl, hR⟩ := hP1
  refine zj_icmp_eq 975 ((lq_19 25).trans rfl) rfl (fun c1331 => ?_) (fun c1331 => ?_)
  · subst hR
    exact kk _ M2 K1 (h1.sm mw_smm (Or.inl hd)) i1
  · exact absurd rfl c1331
theorem lc_count (h : dAt (mw σ2 a M) c K) (hi : inv K (mCo M)) (hd : c + 134 ≤ a) (hiL : i + 7 ≤ E.L) (hL31 : E.L < 2 ^ 31) (kk : ∀ σ2 M K, dAt (mw σ2 a M) c K → inv K (mCo M) → zJ E (YLw nm) room_1 fin n 146 6187 (mw σ2 a M) 1373 [some (.ref E.b), some (.ref c), some (.ref a), some (.int (nI i))] []) : zJ E (YLw nm) room_1 fin n 146 6187 (mw σ2 a M) 1336 [some (.ref E.b), some (.ref c), some (.ref a), some (.int (nI i))] [] := by
  obtain ⟨v, R', hD, hM⟩ := w_count (E := E) (a := a) h hi (E.xs (i + 1))
  refine zj_aload_n 978 ((lq_19 28).trans rfl) rfl rfl ?_
  refine zj_aload_n 979 ((lq_19 29).trans rfl) rfl rfl ?_
  refine zj_iload_n 980 ((lq_19 30).trans rfl) rfl rfl ?_
  refine zj_iconst 981 (1) ((lq_19 31).trans rfl) rfl (by decide) ?_
  refine zn_iadd 982 (i) (1) ((lq_19 32).trans rfl) rfl rfl rfl ?_
  refine zj_sld 983 (i + 1) ((lq_19 33).trans rfl) rfl rfl (by omega) hL31 ?_
  refine zj_cvxX 984 ((lq_19 34).trans rfl) rfl lk_10_149 ckD_count hD rfl h.1 rfl rfl rfl (fun s1 hP1 => ?_)
  obtain ⟨z1, K1, h1, i1⟩ := hP1
  have em := mw_keep z1 hd
  rw [← em]
  refine zj_aload_n 985 ((lq_19 35).trans rfl) rfl rfl ?_
  refine zj_aload_n 986 ((lq_19 36).trans rfl) rfl rfl ?_
  refine zj_iload_n 987 ((lq_19 37).trans rfl) rfl rfl ?_
  refine zj_iconst 988 (1) ((lq_19 38).trans rfl) rfl (by decide) ?_
  refine zn_iadd 989 (i) (1) ((lq_19 39).trans rfl) rfl rfl rfl ?_
  refine zj_sld 990 (i + 1) ((lq_19 40).trans rfl) rfl rfl (by omega) hL31 ?_
  refine zj_cvxX 991 ((lq_19 41).trans rfl) rfl lk_10_152 ckM_count (hM _ M rfl) rfl mw_0 rfl rfl rfl (fun s1 hP1 => ?_)
  obtain ⟨M2, rfl, hR⟩ := hP1
  refine zj_icmp_eq 992 ((lq_19 42).trans rfl) rfl (fun c1354 => ?_) (fun c1354 => ?_)
  · subst hR
    exact kk _ M2 K1 (h1.sm mw_smm (Or.inl hd)) i1
  · exact absurd rfl c1354
theorem lc_digest (h : dAt (mw σ2 a M) c K) (hi : inv K (mCo M)) (hd : c + 134 ≤ a) (hiL : i + 7 ≤ E.L) (hL31 : E.L < 2 ^ 31) (kk : ∀ σ2 M K, dAt (mw σ2 a M) c K → inv K (mCo M) → zJ E (YLw nm) room_1 fin n 146 6187 (mw σ2 a M) 1373 [some (.ref E.b), some (.ref c), some (.ref a), some (.int (nI i))] []) : zJ E (YLw nm) room_1 fin n 146 6187 (mw σ2 a M) 1359 [some (.ref E.b), some (.ref c), some (.ref a), some (.int (nI i))] [] := by
  obtain ⟨v, R', hD, hM⟩ := w_digest (E := E) (a := a) h hi 
  refine zj_aload_n 995 ((lq_19 45).trans rfl) rfl rfl ?_
  refine zj_cvxX 996 ((lq_19 46).trans rfl) rfl lk_10_153 ckD_digest hD rfl h.1 rfl rfl rfl (fun s1 hP1 => ?_)
  obtain ⟨z1, K1, h1, i1⟩ := hP1
  have em := mw_keep z1 hd
  rw [← em]
  refine zj_aload_n 997 ((lq_19 47).trans rfl) rfl rfl ?_
  refine zj_cvxX 998 ((lq_19 48).trans rfl) rfl lk_10_156 ckM_digest (hM _ M rfl) rfl mw_0 rfl rfl rfl (fun s1 hP1 => ?_)
  obtain ⟨M2, rfl, hR⟩ := hP1
  refine zj_lcmp 999 ((lq_19 49).trans rfl) rfl ?_
  refine zj_if_eq 1000 ((lq_20 0).trans rfl) rfl (fun c1368 => ?_) (fun c1368 => ?_)
  · subst hR
    exact kk _ M2 K1 (h1.sm mw_smm (Or.inl hd)) i1
  · exact absurd ((lg_cmp_eq _ _).mpr rfl) c1368
end
theorem law_loop {nm : String} {E : zE} {c a n : Nat} (hd : c + 134 ≤ a) (hL : E.L ≤ 3584) : ∀ (m i : Nat) (σ2 : zH) (M : zMo) (K : zDc), E.L ≤ i + m → i ≤ E.L → dAt (mw σ2 a M) c K → inv K (mCo M) → zJ E (YLw nm) room_1 (finL E) n 146 6187 (mw σ2 a M) 18 [some (.ref E.b), some (.ref c), some (.ref a), some (.int (nI i))] [] := by
  intro m
  induction m using Nat.strongRecOn with
  | ind m ih =>
  intro i σ2 M K hm hi1 h hi
  refine zj_iload_n 10 rfl rfl rfl ?_
  refine zj_aload_n 11 rfl rfl rfl ?_
  refine zj_slen 12 rfl rfl ?_
  refine zj_bipush 13 (7) rfl rfl (by decide) ?_
  refine zj_isub 14 rfl rfl ?_
  refine zj_icmp_gt 15 rfl rfl (fun c24 => ?_) (fun c24 => ?_)
  · refine zj_iconst 1005 (1) ((lq_20 5).trans rfl) rfl (by decide) ?_
    exact zj_lawend 1006 ((lq_20 6).trans rfl) rfl (by decide) (by decide)
  · have hi7 : i + 7 ≤ E.L := law_cond hL hi1 c24
    have hL31 : E.L < 2 ^ 31 := by omega
    refine zj_aload_n 16 rfl rfl rfl ?_
    refine zj_iload_n 17 rfl rfl rfl ?_
    refine zj_sld 18 i rfl rfl rfl (by omega) hL31 ?_
    refine zj_bipush 19 (63) rfl rfl (by decide) ?_
    refine zj_iand 20 rfl rfl ?_
    generalize E.xs i &&& 63 = x
    have kk : ∀ σ2 M K, dAt (mw σ2 a M) c K → inv K (mCo M) → zJ E (YLw nm) room_1 (finL E) n 146 6187 (mw σ2 a M) 1373 [some (.ref E.b), some (.ref c), some (.ref a), some (.int (nI i))] [] := fun σ2 M K h hi => by
      refine zj_iinc 1003 (7) ((lq_20 3).trans rfl) rfl rfl (by decide) ?_
      refine zj_goto 1004 ((lq_20 4).trans rfl) rfl ?_
      have hh := ih (m - 7) (by omega) (i + 7) σ2 M K (by omega) hi7 h hi
      rw [← nI_add] at hh
      exact hh
    by_cases hx : zr x 34
    · obtain ⟨j, hj, rfl⟩ := zr_nI (n := 34) hx
      match j, hj with
      | 0, _ =>
        refine zj_tsw (t := 184) 21 rfl rfl (by decide +kernel) (by decide +kernel) ?_
        exact lc_shade h hi hd hi7 hL31 kk
      | 1, _ =>
        refine zj_tsw (t := 227) 21 rfl rfl (by decide +kernel) (by decide +kernel) ?_
        exact lc_green h hi hd hi7 hL31 kk
      | 2, _ =>
        refine zj_tsw (t := 270) 21 rfl rfl (by decide +kernel) (by decide +kernel) ?_
        exact lc_mark h hi hd hi7 hL31 kk
      | 3, _ =>
        refine zj_tsw (t := 303) 21 rfl rfl (by decide +kernel) (by decide +kernel) ?_
        exact lc_seen h hi hd hi7 hL31 kk
      | 4, _ =>
        refine zj_tsw (t := 366) 21 rfl rfl (by decide +kernel) (by decide +kernel) ?_
        exact lc_line h hi hd hi7 hL31 kk
      | 5, _ =>
        refine zj_tsw (t := 399) 21 rfl rfl (by decide +kernel) (by decide +kernel) ?_
        exact lc_write h hi hd hi7 hL31 kk
      | 6, _ =>
        refine zj_tsw (t := 432) 21 rfl rfl (by decide +kernel) (by decide +kernel) ?_
        exact lc_erase h hi hd hi7 hL31 kk
      | 7, _ =>
        refine zj_tsw (t := 455) 21 rfl rfl (by decide +kernel) (by decide +kernel) ?_
        exact lc_fault h hi hd hi7 hL31 kk
      | 8, _ =>
        refine zj_tsw (t := 478) 21 rfl rfl (by decide +kernel) (by decide +kernel) ?_
        exact lc_drawn h hi hd hi7 hL31 kk
      | 9, _ =>
        refine zj_tsw (t := 553) 21 rfl rfl (by decide +kernel) (by decide +kernel) ?_
        exact lc_far h hi hd hi7 hL31 kk
      | 10, _ =>
        refine zj_tsw (t := 596) 21 rfl rfl (by decide +kernel) (by decide +kernel) ?_
        exact lc_fairest h hi hd hi7 hL31 kk
      | 11, _ =>
        refine zj_tsw (t := 649) 21 rfl rfl (by decide +kernel) (by decide +kernel) ?_
        exact lc_observer h hi hd hi7 hL31 kk
      | 12, _ =>
        refine zj_tsw (t := 682) 21 rfl rfl (by decide +kernel) (by decide +kernel) ?_
        exact lc_sheet h hi hd hi7 hL31 kk
      | 13, _ =>
        refine zj_tsw (t := 725) 21 rfl rfl (by decide +kernel) (by decide +kernel) ?_
        exact lc_draw h hi hd hi7 hL31 kk
      | 14, _ =>
        refine zj_tsw (t := 800) 21 rfl rfl (by decide +kernel) (by decide +kernel) ?_
        exact lc_show h hi hd hi7 hL31 kk
      | 15, _ =>
        refine zj_tsw (t := 843) 21 rfl rfl (by decide +kernel) (by decide +kernel) ?_
        exact lc_of h hi hd hi7 hL31 kk
      | 16, _ =>
        refine zj_tsw (t := 876) 21 rfl rfl (by decide +kernel) (by decide +kernel) ?_
        exact lc_agree h hi hd hi7 hL31 kk
      | 17, _ =>
        refine zj_tsw (t := 919) 21 rfl rfl (by decide +kernel) (by decide +kernel) ?_
        exact lc_chance h hi hd hi7 hL31 kk
      | 18, _ =>
        refine zj_tsw (t := 952) 21 rfl rfl (by decide +kernel) (by decide +kernel) ?_
        exact lc_part h hi hd hi7 hL31 kk
      | 19, _ =>
        refine zj_tsw (t := 976) 21 rfl rfl (by decide +kernel) (by decide +kernel) ?_
        exact lc_own h hi hd hi7 hL31 kk
      | 20, _ =>
        refine zj_tsw (t := 999) 21 rfl rfl (by decide +kernel) (by decide +kernel) ?_
        exact lc_took h hi hd hi7 hL31 kk
      | 21, _ =>
        refine zj_tsw (t := 1032) 21 rfl rfl (by decide +kernel) (by decide +kernel) ?_
        exact lc_ways h hi hd hi7 hL31 kk
      | 22, _ =>
        refine zj_tsw (t := 1046) 21 rfl rfl (by decide +kernel) (by decide +kernel) ?_
        exact lc_guess h hi hd hi7 hL31 kk
      | 23, _ =>
        refine zj_tsw (t := 1089) 21 rfl rfl (by decide +kernel) (by decide +kernel) ?_
        exact lc_error h hi hd hi7 hL31 kk
      | 24, _ =>
        refine zj_tsw (t := 1112) 21 rfl rfl (by decide +kernel) (by decide +kernel) ?_
        exact lc_allows h hi hd hi7 hL31 kk
      | 25, _ =>
        refine zj_tsw (t := 1145) 21 rfl rfl (by decide +kernel) (by decide +kernel) ?_
        exact lc_mayBe h hi hd hi7 hL31 kk
      | 26, _ =>
        refine zj_tsw (t := 1168) 21 rfl rfl (by decide +kernel) (by decide +kernel) ?_
        exact lc_there h hi hd hi7 hL31 kk
      | 27, _ =>
        refine zj_tsw (t := 1201) 21 rfl rfl (by decide +kernel) (by decide +kernel) ?_
        exact lc_parts h hi hd hi7 hL31 kk
      | 28, _ =>
        refine zj_tsw (t := 1234) 21 rfl rfl (by decide +kernel) (by decide +kernel) ?_
        exact lc_weighed h hi hd hi7 hL31 kk
      | 29, _ =>
        refine zj_tsw (t := 1257) 21 rfl rfl (by decide +kernel) (by decide +kernel) ?_
        exact lc_season h hi hd hi7 hL31 kk
      | 30, _ =>
        refine zj_tsw (t := 1290) 21 rfl rfl (by decide +kernel) (by decide +kernel) ?_
        exact lc_image h hi hd hi7 hL31 kk
      | 31, _ =>
        refine zj_tsw (t := 1313) 21 rfl rfl (by decide +kernel) (by decide +kernel) ?_
        exact lc_from h hi hd hi7 hL31 kk
      | 32, _ =>
        refine zj_tsw (t := 1336) 21 rfl rfl (by decide +kernel) (by decide +kernel) ?_
        exact lc_count h hi hd hi7 hL31 kk
      | 33, _ =>
        refine zj_tsw (t := 1359) 21 rfl rfl (by decide +kernel) (by decide +kernel) ?_
        exact lc_digest h hi hd hi7 hL31 kk
      | j + 34, hj => exact absurd hj (by omega)
    · refine zj_tsw (t := 1373) 21 rfl rfl (ztsw_d [0, 1, 2, 3, 4, 5, 6, 7, 8, 9, 10, 11, 12, 13, 14, 15, 16, 17, 18, 19, 20, 21, 22, 23, 24, 25, 26, 27, 28, 29, 30, 31, 32, 33] (by decide +kernel) (by decide +kernel) (fun v hv e => hx (by have g : ∀ v ∈ ([0, 1, 2, 3, 4, 5, 6, 7, 8, 9, 10, 11, 12, 13, 14, 15, 16, 17, 18, 19, 20, 21, 22, 23, 24, 25, 26, 27, 28, 29, 30, 31, 32, 33] : List Int), 0 ≤ v ∧ v < 34 := (by decide); have := g v hv; exact ⟨by omega, by omega⟩))) (by decide +kernel) ?_
      exact kk σ2 M K h hi
