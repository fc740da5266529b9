/-! the component: groups copied -/
section
variable {E : zE} {σ : zH} {a b : Nat} {M N : zMo}
theorem k_Wcopy (hN : zkwAt σ b N) (hd : a + 3 ≤ b ∨ b + 3 ≤ a) : zX E YWo_copy 3 [.ref a, .ref b] (zkw σ a M) (none) (fun s => ∃ M1, s = zkw σ a M1 ∧ zeqb [81, 9] 0 N M1) := by
  refine zX.of oWo_copy (by decide +kernel) rfl rfl (fun n => ?_)
  refine zj_aload_n 0 rfl rfl rfl ?_
  refine zj_get 1 rfl rfl (by rw [zkw_ne (by omega)]; exact hN.1) rfl ?_
  refine zj_aload_n 2 rfl rfl rfl ?_
  refine zj_get 3 rfl rfl zkw_0 rfl ?_
  refine zj_csv 4 rfl rfl lk_6_28 ckD_copyRow (k_copyRow' (b + 1) (a + 1) 81 _ _ (by rw [zkw_ne (by omega)]; exact hN.2.1) zkw_1 (by decide) zkw_u1) rfl rfl rfl rfl ?_
  refine zj_aload_n 5 rfl rfl rfl ?_
  refine zj_get 6 rfl rfl (by rw [zkw_ne (by omega)]; exact hN.1) rfl ?_
  refine zj_aload_n 7 rfl rfl rfl ?_
  refine zj_get 8 rfl rfl zkw_0 rfl ?_
  refine zj_csv 9 rfl rfl lk_6_28 ckD_copyRow (k_copyRow' (b + 2) (a + 2) 9 _ _ (by rw [zkw_ne (by omega)]; exact hN.2.2) zkw_2 (by decide) zkw_u2) rfl rfl rfl rfl ?_
  refine zj_return 10 rfl rfl rfl ?_
  refine ⟨rfl, rfl, _, rfl, fun i ln hi j hj => ?_, fun i hi => by omega⟩
  match i, hi with
  | 0, hi => simp at hi; subst hi; simp [va_up, zcpy_lt hj]
  | 1, hi => simp at hi; subst hi; simp [va_up, zcpy_lt hj]
  | i + 2, hi => simp at hi
theorem k_Gcopy (hN : zkgAt σ b N) (hd : a + 4 ≤ b ∨ b + 4 ≤ a) : zX E YGu_copy 3 [.ref a, .ref b] (zkg σ a M) (none) (fun s => ∃ M1, s = zkg σ a M1 ∧ zeqb [12, 12, 12] 1 N M1) := by
  refine zX.of oGu_copy (by decide +kernel) rfl rfl (fun n => ?_)
  refine zj_aload_n 0 rfl rfl rfl ?_
  refine zj_get 1 rfl rfl (by rw [zkg_ne (by omega)]; exact hN.1) rfl ?_
  refine zj_aload_n 2 rfl rfl rfl ?_
  refine zj_get 3 rfl rfl zkg_0 rfl ?_
  refine zj_csv 4 rfl rfl lk_2_32 ckD_copyRow (k_copyRow' (b + 1) (a + 1) 12 _ _ (by rw [zkg_ne (by omega)]; exact hN.2.1) zkg_1 (by decide) zkg_u1) rfl rfl rfl rfl ?_
  refine zj_aload_n 5 rfl rfl rfl ?_
  refine zj_get 6 rfl rfl (by rw [zkg_ne (by omega)]; exact hN.1) rfl ?_
  refine zj_aload_n 7 rfl rfl rfl ?_
  refine zj_get 8 rfl rfl zkg_0 rfl ?_
  refine zj_csv 9 rfl rfl lk_2_32 ckD_copyRow (k_copyRow' (b + 2) (a + 2) 12 _ _ (by rw [zkg_ne (by omega)]; exact hN.2.2.1) zkg_2 (by decide) zkg_u2) rfl rfl rfl rfl ?_
  refine zj_aload_n 10 rfl rfl rfl ?_
  refine zj_get 11 rfl rfl (by rw [zkg_ne (by omega)]; exact hN.1) rfl ?_
  refine zj_aload_n 12 rfl rfl rfl ?_
  refine zj_get 13 rfl rfl zkg_0 rfl ?_
  refine zj_csv 14 rfl rfl lk_2_32 ckD_copyRow (k_copyRow' (b + 3) (a + 3) 12 _ _ (by rw [zkg_ne (by omega)]; exact hN.2.2.2) zkg_3 (by decide) zkg_u3) rfl rfl rfl rfl ?_
  refine zj_aload_n 15 rfl rfl rfl ?_
  refine zj_aload_n 16 rfl rfl rfl ?_
  refine zj_get 17 rfl rfl (by rw [zkg_ne (by omega)]; exact hN.1) rfl ?_
  refine zn_put 18 rfl rfl zkg_0 rfl rfl rfl rfl zkg_p_size ?_
  refine zj_return 19 rfl rfl rfl ?_
  refine ⟨rfl, rfl, _, rfl, ⟨fun i ln hi j hj => ?_, fun i hi => ?_⟩⟩
  · match i, hi with
    | 0, hi => simp at hi; subst hi; simp [va_up, zcpy_lt hj]
    | 1, hi => simp at hi; subst hi; simp [va_up, zcpy_lt hj]
    | 2, hi => simp at hi; subst hi; simp [va_up, zcpy_lt hj]
    | i + 3, hi => simp at hi
  · match i, hi with
    | 0, _ => rfl
    | i + 1, hi => omega
theorem k_Bcopy (hN : zkbAt σ b N) (hd : a + 9 ≤ b ∨ b + 9 ≤ a) : zX E YBk_copy 3 [.ref a, .ref b] (zkb σ a M) (none) (fun s => ∃ M1, s = zkb σ a M1 ∧ zeqb [8, 8, 16, 16, 16, 60, 60, 60] 3 N M1) := by
  refine zX.of oBk_copy (by decide +kernel) rfl rfl (fun n => ?_)
  refine zj_aload_n 0 rfl rfl rfl ?_
  refine zj_get 1 rfl rfl (by rw [zkb_ne (by omega)]; exact hN.1) rfl ?_
  refine zj_aload_n 2 rfl rfl rfl ?_
  refine zj_get 3 rfl rfl zkb_0 rfl ?_
  refine zj_csv 4 rfl rfl lk_0_101 ckD_copyRow (k_copyRow' (b + 1) (a + 1) 8 _ _ (by rw [zkb_ne (by omega)]; exact hN.2.1) zkb_1 (by decide) zkb_u1) rfl rfl rfl rfl ?_
  refine zj_aload_n 5 rfl rfl rfl ?_
  refine zj_get 6 rfl rfl (by rw [zkb_ne (by omega)]; exact hN.1) rfl ?_
  refine zj_aload_n 7 rfl rfl rfl ?_
  refine zj_get 8 rfl rfl zkb_0 rfl ?_
  refine zj_csv 9 rfl rfl lk_0_101 ckD_copyRow (k_copyRow' (b + 2) (a + 2) 8 _ _ (by rw [zkb_ne (by omega)]; exact hN.2.2.1) zkb_2 (by decide) zkb_u2) rfl rfl rfl rfl ?_
  refine zj_aload_n 10 rfl rfl rfl ?_
  refine zj_aload_n 11 rfl rfl rfl ?_
  refine zj_get 12 rfl rfl (by rw [zkb_ne (by omega)]; exact hN.1) rfl ?_
  refine zn_put 13 rfl rfl zkb_0 rfl rfl rfl rfl zkb_p_observerCount ?_
  refine zj_aload_n 14 rfl rfl rfl ?_
  refine zj_get 15 rfl rfl (by rw [zkb_ne (by omega)]; exact hN.1) rfl ?_
  refine zj_aload_n 16 rfl rfl rfl ?_
  refine zj_get 17 rfl rfl zkb_0 rfl ?_
  refine zj_csv 18 rfl rfl lk_0_101 ckD_copyRow (k_copyRow' (b + 3) (a + 3) 16 _ _ (by rw [zkb_ne (by omega)]; exact hN.2.2.2.1) zkb_3 (by decide) zkb_u3) rfl rfl rfl rfl ?_
  refine zj_aload_n 19 rfl rfl rfl ?_
  refine zj_get 20 rfl rfl (by rw [zkb_ne (by omega)]; exact hN.1) rfl ?_
  refine zj_aload_n 21 rfl rfl rfl ?_
  refine zj_get 22 rfl rfl zkb_0 rfl ?_
  refine zj_csv 23 rfl rfl lk_0_101 ckD_copyRow (k_copyRow' (b + 4) (a + 4) 16 _ _ (by rw [zkb_ne (by omega)]; exact hN.2.2.2.2.1) zkb_4 (by decide) zkb_u4) rfl rfl rfl rfl ?_
  refine zj_aload_n 24 rfl rfl rfl ?_
  refine zj_get 25 rfl rfl (by rw [zkb_ne (by omega)]; exact hN.1) rfl ?_
  refine zj_aload_n 26 rfl rfl rfl ?_
  refine zj_get 27 rfl rfl zkb_0 rfl ?_
  refine zj_csv 28 rfl rfl lk_0_101 ckD_copyRow (k_copyRow' (b + 5) (a + 5) 16 _ _ (by rw [zkb_ne (by omega)]; exact hN.2.2.2.2.2.1) zkb_5 (by decide) zkb_u5) rfl rfl rfl rfl ?_
  refine zj_aload_n 29 rfl rfl rfl ?_
  refine zj_aload_n 30 rfl rfl rfl ?_
  refine zj_get 31 rfl rfl (by rw [zkb_ne (by omega)]; exact hN.1) rfl ?_
  refine zn_put 32 rfl rfl zkb_0 rfl rfl rfl rfl zkb_p_sheetCount ?_
  refine zj_aload_n 33 rfl rfl rfl ?_
  refine zj_get 34 rfl rfl (by rw [zkb_ne (by omega)]; exact hN.1) rfl ?_
  refine zj_aload_n 35 rfl rfl rfl ?_
  refine zj_get 36 rfl rfl zkb_0 rfl ?_
  refine zj_csv 37 rfl rfl lk_0_101 ckD_copyRow (k_copyRow' (b + 6) (a + 6) 60 _ _ (by rw [zkb_ne (by omega)]; exact hN.2.2.2.2.2.2.1) zkb_6 (by decide) zkb_u6) rfl rfl rfl rfl ?_
  refine zj_aload_n 38 rfl rfl rfl ?_
  refine zj_get 39 rfl rfl (by rw [zkb_ne (by omega)]; exact hN.1) rfl ?_
  refine zj_aload_n 40 rfl rfl rfl ?_
  refine zj_get 41 rfl rfl zkb_0 rfl ?_
  refine zj_csv 42 rfl rfl lk_0_101 ckD_copyRow (k_copyRow' (b + 7) (a + 7) 60 _ _ (by rw [zkb_ne (by omega)]; exact hN.2.2.2.2.2.2.2.1) zkb_7 (by decide) zkb_u7) rfl rfl rfl rfl ?_
  refine zj_aload_n 43 rfl rfl rfl ?_
  refine zj_get 44 rfl rfl (by rw [zkb_ne (by omega)]; exact hN.1) rfl ?_
  refine zj_aload_n 45 rfl rfl rfl ?_
  refine zj_get 46 rfl rfl zkb_0 rfl ?_
  refine zj_csv 47 rfl rfl lk_0_101 ckD_copyRow (k_copyRow' (b + 8) (a + 8) 60 _ _ (by rw [zkb_ne (by omega)]; exact hN.2.2.2.2.2.2.2.2) zkb_8 (by decide) zkb_u8) rfl rfl rfl rfl ?_
  refine zj_aload_n 48 rfl rfl rfl ?_
  refine zj_aload_n 49 rfl rfl rfl ?_
  refine zj_get 50 rfl rfl (by rw [zkb_ne (by omega)]; exact hN.1) rfl ?_
  refine zn_put 51 rfl rfl zkb_0 rfl rfl rfl rfl zkb_p_showCount ?_
  refine zj_return 52 rfl rfl rfl ?_
  refine ⟨rfl, rfl, _, rfl, ⟨fun i ln hi j hj => ?_, fun i hi => ?_⟩⟩
  · match i, hi with
    | 0, hi => simp at hi; subst hi; simp [va_up, zcpy_lt hj]
    | 1, hi => simp at hi; subst hi; simp [va_up, zcpy_lt hj]
    | 2, hi => simp at hi; subst hi; simp [va_up, zcpy_lt hj]
    | 3, hi => simp at hi; subst hi; simp [va_up, zcpy_lt hj]
    | 4, hi => simp at hi; subst hi; simp [va_up, zcpy_lt hj]
    | 5, hi => simp at hi; subst hi; simp [va_up, zcpy_lt hj]
    | 6, hi => simp at hi; subst hi; simp [va_up, zcpy_lt hj]
    | 7, hi => simp at hi; subst hi; simp [va_up, zcpy_lt hj]
    | i + 8, hi => simp at hi
  · match i, hi with
    | 0, _ => rfl
    | 1, _ => rfl
    | 2, _ => rfl
    | i + 3, hi => omega
end
