/-! THE LAW'S WRAPPERS -/
def mO (M : mM) (w : Int64) : mM := mUp (mUp M (14, 0, 0) 0 (mLo w)) (14, 0, 0) 1 (mHi w)
theorem lo_addLeg {d : Nat} {M M1 : mM} {x y z : Int32} {v : Int32} (h : CT iA_addLeg (d + 8) [vR 5 0 0, vI x, vI y, vI z] M (.inl (some (vI v))) M1 0) : CT iL_addLeg (d + 9) [vR 5 0 0, vI x, vI y, vI z, vR 14 0 0] M (.inl (some (vI 0))) (mO M1 v.toInt64) 0 := by
  refine ct_go hL_L_addLeg rfl ?_
  refine aw_aload k200_0 rfl ?_
  refine aw_iconst (v := 0) k200_2 (by decide) ?_
  refine aw_aload_n k200_3 rfl ?_
  refine aw_iload_n k200_4 rfl ?_
  refine aw_iload_n k200_5 rfl ?_
  refine aw_iload_n k200_6 rfl ?_
  refine aw_callV3 k200_7 hC_L_addLeg ok_A_addLeg sv_L_7 hH_A_addLeg ⟨rfl, rfl⟩ (by decide) hN_A_addLeg (by rw [hL_A_addLeg]; exact Nat.le_of_ble_eq_true rfl) (Nat.le_of_ble_eq_true rfl) h ?_
  refine aw_i2l k200_10 ?_
  refine aw_lastore k200_11 ?_
  refine aw_goto (t := 23) k200_12 (by decide) ?_
  refine aw_iconst (v := 0) k200_23 (by decide) ?_
  refine aw_ireturn k200_24 hR_L_addLeg ?_ ?_
  all_goals first | rfl | exact Or.inl rfl | exact Or.inr rfl | assumption | (simp_all; done) | ((repeat' split) <;> first | rfl | (simp only [Int32.lt_iff_toInt_lt, Int32.le_iff_toInt_le, Int64.lt_iff_toInt_lt, Int64.le_iff_toInt_le] at *; omega) | (simp_all; done))
theorem lx_addLeg_1 {d n : Nat} {M M1 : mM} {x y z : Int32} (h : CT iA_addLeg (d + 8) [vR 5 0 0, vI x, vI y, vI z] M (.inr tIAE) M1 n) : CT iL_addLeg (d + 9) [vR 5 0 0, vI x, vI y, vI z, vR 14 0 0] M (.inl (some (vI 1))) M1 n := by
  refine ct_go hL_L_addLeg rfl ?_
  have hx : AW iL_addLeg (d + 8 + 1) 7 [some (vR 5 0 0), some (vI x), some (vI y), some (vI z), some (vR 14 0 0), none] [vI z, vI y, vI x, vR 5 0 0, vI 0, vR 14 0 0] M (.inl (some (vI 1))) M1 (n + 0) := by
    refine aw_callVD (as := [vI x, vI y, vI z]) (stk := [vI 0, vR 14 0 0]) (hpre := []) (hsuf := [(0, 12, 19, 15)]) k200_7 hC_L_addLeg ok_A_addLeg sv_L_7 hH_A_addLeg ⟨rfl, rfl⟩ (by decide) hN_A_addLeg rfl (by rw [hL_A_addLeg]; exact Nat.le_of_ble_eq_true rfl) (Nat.le_of_ble_eq_true rfl) h hH_L_addLeg (fun z hz => absurd hz List.not_mem_nil) (by decide) (by decide) ck_13 cs_13 k200_15 (Nat.le_of_ble_eq_true rfl) rfl ?_
    refine aw_iconst (v := 1) k200_17 (by decide) ?_
    refine aw_ireturn k200_18 hR_L_addLeg ?_ ?_
    all_goals first | rfl | exact Or.inl rfl | exact Or.inr rfl | assumption | (simp_all; done) | ((repeat' split) <;> first | rfl | (simp only [Int32.lt_iff_toInt_lt, Int32.le_iff_toInt_le, Int64.lt_iff_toInt_lt, Int64.le_iff_toInt_le] at *; omega) | (simp_all; done))
  refine aw_aload k200_0 rfl ?_
  refine aw_iconst (v := 0) k200_2 (by decide) ?_
  refine aw_aload_n k200_3 rfl ?_
  refine aw_iload_n k200_4 rfl ?_
  refine aw_iload_n k200_5 rfl ?_
  refine aw_iload_n k200_6 rfl ?_
  exact hx
theorem lx_addLeg_2 {d n : Nat} {M M1 : mM} {x y z : Int32} (h : CT iA_addLeg (d + 8) [vR 5 0 0, vI x, vI y, vI z] M (.inr tISE) M1 n) : CT iL_addLeg (d + 9) [vR 5 0 0, vI x, vI y, vI z, vR 14 0 0] M (.inl (some (vI 2))) M1 n := by
  refine ct_go hL_L_addLeg rfl ?_
  have hx : AW iL_addLeg (d + 8 + 1) 7 [some (vR 5 0 0), some (vI x), some (vI y), some (vI z), some (vR 14 0 0), none] [vI z, vI y, vI x, vR 5 0 0, vI 0, vR 14 0 0] M (.inl (some (vI 2))) M1 (n + 0) := by
    refine aw_callVD (as := [vI x, vI y, vI z]) (stk := [vI 0, vR 14 0 0]) (hpre := [(0, 12, 15, 13)]) (hsuf := []) k200_7 hC_L_addLeg ok_A_addLeg sv_L_7 hH_A_addLeg ⟨rfl, rfl⟩ (by decide) hN_A_addLeg rfl (by rw [hL_A_addLeg]; exact Nat.le_of_ble_eq_true rfl) (Nat.le_of_ble_eq_true rfl) h hH_L_addLeg (fun z hz => by rw [List.mem_singleton.mp hz]; exact ⟨by decide, _, ck_13, List.mem_cons_self⟩) (by decide) (by decide) ck_15 cs_15 k200_19 (Nat.le_of_ble_eq_true rfl) rfl ?_
    refine aw_iconst (v := 2) k200_21 (by decide) ?_
    refine aw_ireturn k200_22 hR_L_addLeg ?_ ?_
    all_goals first | rfl | exact Or.inl rfl | exact Or.inr rfl | assumption | (simp_all; done) | ((repeat' split) <;> first | rfl | (simp only [Int32.lt_iff_toInt_lt, Int32.le_iff_toInt_le, Int64.lt_iff_toInt_lt, Int64.le_iff_toInt_le] at *; omega) | (simp_all; done))
  refine aw_aload k200_0 rfl ?_
  refine aw_iconst (v := 0) k200_2 (by decide) ?_
  refine aw_aload_n k200_3 rfl ?_
  refine aw_iload_n k200_4 rfl ?_
  refine aw_iload_n k200_5 rfl ?_
  refine aw_iload_n k200_6 rfl ?_
  exact hx
theorem lo_takeBack {d : Nat} {M M1 : mM} {v : Int32} (h : CT iA_takeBack (d + 8) [vR 5 0 0] M (.inl (some (vI v))) M1 0) : CT iL_takeBack (d + 9) [vR 5 0 0, vR 14 0 0] M (.inl (some (vI 0))) (mO M1 v.toInt64) 0 := by
  refine ct_go hL_L_takeBack rfl ?_
  refine aw_aload_n k201_0 rfl ?_
  refine aw_iconst (v := 0) k201_1 (by decide) ?_
  refine aw_aload_n k201_2 rfl ?_
  refine aw_callV0 k201_3 hC_L_takeBack ok_A_takeBack sv_L_17 hH_A_takeBack ⟨rfl, rfl⟩ (by decide) hN_A_takeBack (by rw [hL_A_takeBack]; exact Nat.le_of_ble_eq_true rfl) (Nat.le_of_ble_eq_true rfl) h ?_
  refine aw_i2l k201_6 ?_
  refine aw_lastore k201_7 ?_
  refine aw_goto (t := 14) k201_8 (by decide) ?_
  refine aw_iconst (v := 0) k201_14 (by decide) ?_
  refine aw_ireturn k201_15 hR_L_takeBack ?_ ?_
  all_goals first | rfl | exact Or.inl rfl | exact Or.inr rfl | assumption | (simp_all; done) | ((repeat' split) <;> first | rfl | (simp only [Int32.lt_iff_toInt_lt, Int32.le_iff_toInt_le, Int64.lt_iff_toInt_lt, Int64.le_iff_toInt_le] at *; omega) | (simp_all; done))
theorem lx_takeBack_1 {d n : Nat} {M M1 : mM} (h : CT iA_takeBack (d + 8) [vR 5 0 0] M (.inr tISE) M1 n) : CT iL_takeBack (d + 9) [vR 5 0 0, vR 14 0 0] M (.inl (some (vI 1))) M1 n := by
  refine ct_go hL_L_takeBack rfl ?_
  have hx : AW iL_takeBack (d + 8 + 1) 3 [some (vR 5 0 0), some (vR 14 0 0), none] [vR 5 0 0, vI 0, vR 14 0 0] M (.inl (some (vI 1))) M1 (n + 0) := by
    refine aw_callVC (as := []) (stk := [vI 0, vR 14 0 0]) (hpre := []) (hsuf := []) k201_3 hC_L_takeBack ok_A_takeBack sv_L_17 hH_A_takeBack ⟨rfl, rfl⟩ (by decide) hN_A_takeBack rfl (by rw [hL_A_takeBack]; exact Nat.le_of_ble_eq_true rfl) (Nat.le_of_ble_eq_true rfl) h hH_L_takeBack (fun z hz => absurd hz List.not_mem_nil) (by decide) (by decide) ck_15 cs_15 k201_11 (Nat.le_of_ble_eq_true rfl) rfl ?_
    refine aw_iconst (v := 1) k201_12 (by decide) ?_
    refine aw_ireturn k201_13 hR_L_takeBack ?_ ?_
    all_goals first | rfl | exact Or.inl rfl | exact Or.inr rfl | assumption | (simp_all; done) | ((repeat' split) <;> first | rfl | (simp only [Int32.lt_iff_toInt_lt, Int32.le_iff_toInt_le, Int64.lt_iff_toInt_lt, Int64.le_iff_toInt_le] at *; omega) | (simp_all; done))
  refine aw_aload_n k201_0 rfl ?_
  refine aw_iconst (v := 0) k201_1 (by decide) ?_
  refine aw_aload_n k201_2 rfl ?_
  exact hx
theorem lo_setOrigin {d : Nat} {M M1 : mM} {x y : Int32} {v : Int32} (h : CT iA_setOrigin (d + 8) [vR 5 0 0, vI x, vI y] M (.inl (some (vI v))) M1 0) : CT iL_setOrigin (d + 9) [vR 5 0 0, vI x, vI y, vR 14 0 0] M (.inl (some (vI 0))) (mO M1 v.toInt64) 0 := by
  refine ct_go hL_L_setOrigin rfl ?_
  refine aw_aload_n k202_0 rfl ?_
  refine aw_iconst (v := 0) k202_1 (by decide) ?_
  refine aw_aload_n k202_2 rfl ?_
  refine aw_iload_n k202_3 rfl ?_
  refine aw_iload_n k202_4 rfl ?_
  refine aw_callV2 k202_5 hC_L_setOrigin ok_A_setOrigin sv_L_21 hH_A_setOrigin ⟨rfl, rfl⟩ (by decide) hN_A_setOrigin (by rw [hL_A_setOrigin]; exact Nat.le_of_ble_eq_true rfl) (Nat.le_of_ble_eq_true rfl) h ?_
  refine aw_i2l k202_8 ?_
  refine aw_lastore k202_9 ?_
  refine aw_goto (t := 17) k202_10 (by decide) ?_
  refine aw_iconst (v := 0) k202_17 (by decide) ?_
  refine aw_ireturn k202_18 hR_L_setOrigin ?_ ?_
  all_goals first | rfl | exact Or.inl rfl | exact Or.inr rfl | assumption | (simp_all; done) | ((repeat' split) <;> first | rfl | (simp only [Int32.lt_iff_toInt_lt, Int32.le_iff_toInt_le, Int64.lt_iff_toInt_lt, Int64.le_iff_toInt_le] at *; omega) | (simp_all; done))
theorem lx_setOrigin_1 {d n : Nat} {M M1 : mM} {x y : Int32} (h : CT iA_setOrigin (d + 8) [vR 5 0 0, vI x, vI y] M (.inr tIAE) M1 n) : CT iL_setOrigin (d + 9) [vR 5 0 0, vI x, vI y, vR 14 0 0] M (.inl (some (vI 1))) M1 n := by
  refine ct_go hL_L_setOrigin rfl ?_
  have hx : AW iL_setOrigin (d + 8 + 1) 5 [some (vR 5 0 0), some (vI x), some (vI y), some (vR 14 0 0), none] [vI y, vI x, vR 5 0 0, vI 0, vR 14 0 0] M (.inl (some (vI 1))) M1 (n + 0) := by
    refine aw_callVD (as := [vI x, vI y]) (stk := [vI 0, vR 14 0 0]) (hpre := []) (hsuf := []) k202_5 hC_L_setOrigin ok_A_setOrigin sv_L_21 hH_A_setOrigin ⟨rfl, rfl⟩ (by decide) hN_A_setOrigin rfl (by rw [hL_A_setOrigin]; exact Nat.le_of_ble_eq_true rfl) (Nat.le_of_ble_eq_true rfl) h hH_L_setOrigin (fun z hz => absurd hz List.not_mem_nil) (by decide) (by decide) ck_13 cs_13 k202_13 (Nat.le_of_ble_eq_true rfl) rfl ?_
    refine aw_iconst (v := 1) k202_15 (by decide) ?_
    refine aw_ireturn k202_16 hR_L_setOrigin ?_ ?_
    all_goals first | rfl | exact Or.inl rfl | exact Or.inr rfl | assumption | (simp_all; done) | ((repeat' split) <;> first | rfl | (simp only [Int32.lt_iff_toInt_lt, Int32.le_iff_toInt_le, Int64.lt_iff_toInt_lt, Int64.le_iff_toInt_le] at *; omega) | (simp_all; done))
  refine aw_aload_n k202_0 rfl ?_
  refine aw_iconst (v := 0) k202_1 (by decide) ?_
  refine aw_aload_n k202_2 rfl ?_
  refine aw_iload_n k202_3 rfl ?_
  refine aw_iload_n k202_4 rfl ?_
  exact hx
theorem lo_keep {d : Nat} {M M1 : mM} {v : Int32} (h : CT iA_keep (d + 8) [vR 5 0 0] M (.inl (some (vI v))) M1 0) : CT iL_keep (d + 9) [vR 5 0 0, vR 14 0 0] M (.inl (some (vI 0))) (mO M1 v.toInt64) 0 := by
  refine ct_go hL_L_keep rfl ?_
  refine aw_aload_n k203_0 rfl ?_
  refine aw_iconst (v := 0) k203_1 (by decide) ?_
  refine aw_aload_n k203_2 rfl ?_
  refine aw_callV0 k203_3 hC_L_keep ok_A_keep sv_L_25 hH_A_keep ⟨rfl, rfl⟩ (by decide) hN_A_keep (by rw [hL_A_keep]; exact Nat.le_of_ble_eq_true rfl) (Nat.le_of_ble_eq_true rfl) h ?_
  refine aw_i2l k203_6 ?_
  refine aw_lastore k203_7 ?_
  refine aw_goto (t := 14) k203_8 (by decide) ?_
  refine aw_iconst (v := 0) k203_14 (by decide) ?_
  refine aw_ireturn k203_15 hR_L_keep ?_ ?_
  all_goals first | rfl | exact Or.inl rfl | exact Or.inr rfl | assumption | (simp_all; done) | ((repeat' split) <;> first | rfl | (simp only [Int32.lt_iff_toInt_lt, Int32.le_iff_toInt_le, Int64.lt_iff_toInt_lt, Int64.le_iff_toInt_le] at *; omega) | (simp_all; done))
theorem lx_keep_1 {d n : Nat} {M M1 : mM} (h : CT iA_keep (d + 8) [vR 5 0 0] M (.inr tISE) M1 n) : CT iL_keep (d + 9) [vR 5 0 0, vR 14 0 0] M (.inl (some (vI 1))) M1 n := by
  refine ct_go hL_L_keep rfl ?_
  have hx : AW iL_keep (d + 8 + 1) 3 [some (vR 5 0 0), some (vR 14 0 0), none] [vR 5 0 0, vI 0, vR 14 0 0] M (.inl (some (vI 1))) M1 (n + 0) := by
    refine aw_callVC (as := []) (stk := [vI 0, vR 14 0 0]) (hpre := []) (hsuf := []) k203_3 hC_L_keep ok_A_keep sv_L_25 hH_A_keep ⟨rfl, rfl⟩ (by decide) hN_A_keep rfl (by rw [hL_A_keep]; exact Nat.le_of_ble_eq_true rfl) (Nat.le_of_ble_eq_true rfl) h hH_L_keep (fun z hz => absurd hz List.not_mem_nil) (by decide) (by decide) ck_15 cs_15 k203_11 (Nat.le_of_ble_eq_true rfl) rfl ?_
    refine aw_iconst (v := 1) k203_12 (by decide) ?_
    refine aw_ireturn k203_13 hR_L_keep ?_ ?_
    all_goals first | rfl | exact Or.inl rfl | exact Or.inr rfl | assumption | (simp_all; done) | ((repeat' split) <;> first | rfl | (simp only [Int32.lt_iff_toInt_lt, Int32.le_iff_toInt_le, Int64.lt_iff_toInt_lt, Int64.le_iff_toInt_le] at *; omega) | (simp_all; done))
  refine aw_aload_n k203_0 rfl ?_
  refine aw_iconst (v := 0) k203_1 (by decide) ?_
  refine aw_aload_n k203_2 rfl ?_
  exact hx
theorem lo_giveUp {d : Nat} {M M1 : mM} {x : Int32} {v : Int32} (h : CT iA_giveUp (d + 8) [vR 5 0 0, vI x] M (.inl (some (vI v))) M1 0) : CT iL_giveUp (d + 9) [vR 5 0 0, vI x, vR 14 0 0] M (.inl (some (vI 0))) (mO M1 v.toInt64) 0 := by
  refine ct_go hL_L_giveUp rfl ?_
  refine aw_aload_n k204_0 rfl ?_
  refine aw_iconst (v := 0) k204_1 (by decide) ?_
  refine aw_aload_n k204_2 rfl ?_
  refine aw_iload_n k204_3 rfl ?_
  refine aw_callV1 k204_4 hC_L_giveUp ok_A_giveUp sv_L_28 hH_A_giveUp ⟨rfl, rfl⟩ (by decide) hN_A_giveUp (by rw [hL_A_giveUp]; exact Nat.le_of_ble_eq_true rfl) (Nat.le_of_ble_eq_true rfl) h ?_
  refine aw_i2l k204_7 ?_
  refine aw_lastore k204_8 ?_
  refine aw_goto (t := 15) k204_9 (by decide) ?_
  refine aw_iconst (v := 0) k204_15 (by decide) ?_
  refine aw_ireturn k204_16 hR_L_giveUp ?_ ?_
  all_goals first | rfl | exact Or.inl rfl | exact Or.inr rfl | assumption | (simp_all; done) | ((repeat' split) <;> first | rfl | (simp only [Int32.lt_iff_toInt_lt, Int32.le_iff_toInt_le, Int64.lt_iff_toInt_lt, Int64.le_iff_toInt_le] at *; omega) | (simp_all; done))
theorem lx_giveUp_1 {d n : Nat} {M M1 : mM} {x : Int32} (h : CT iA_giveUp (d + 8) [vR 5 0 0, vI x] M (.inr tIOB) M1 n) : CT iL_giveUp (d + 9) [vR 5 0 0, vI x, vR 14 0 0] M (.inl (some (vI 1))) M1 n := by
  refine ct_go hL_L_giveUp rfl ?_
  have hx : AW iL_giveUp (d + 8 + 1) 4 [some (vR 5 0 0), some (vI x), some (vR 14 0 0), none] [vI x, vR 5 0 0, vI 0, vR 14 0 0] M (.inl (some (vI 1))) M1 (n + 0) := by
    refine aw_callVC (as := [vI x]) (stk := [vI 0, vR 14 0 0]) (hpre := []) (hsuf := []) k204_4 hC_L_giveUp ok_A_giveUp sv_L_28 hH_A_giveUp ⟨rfl, rfl⟩ (by decide) hN_A_giveUp rfl (by rw [hL_A_giveUp]; exact Nat.le_of_ble_eq_true rfl) (Nat.le_of_ble_eq_true rfl) h hH_L_giveUp (fun z hz => absurd hz List.not_mem_nil) (by decide) (by decide) ck_32 cs_32 k204_12 (Nat.le_of_ble_eq_true rfl) rfl ?_
    refine aw_iconst (v := 1) k204_13 (by decide) ?_
    refine aw_ireturn k204_14 hR_L_giveUp ?_ ?_
    all_goals first | rfl | exact Or.inl rfl | exact Or.inr rfl | assumption | (simp_all; done) | ((repeat' split) <;> first | rfl | (simp only [Int32.lt_iff_toInt_lt, Int32.le_iff_toInt_le, Int64.lt_iff_toInt_lt, Int64.le_iff_toInt_le] at *; omega) | (simp_all; done))
  refine aw_aload_n k204_0 rfl ?_
  refine aw_iconst (v := 0) k204_1 (by decide) ?_
  refine aw_aload_n k204_2 rfl ?_
  refine aw_iload_n k204_3 rfl ?_
  exact hx
theorem lo_type {d : Nat} {M M1 : mM} {x : Int32} {v : Int32} (h : CT iA_type (d + 8) [vR 5 0 0, vI x] M (.inl (some (vI v))) M1 0) : CT iL_type (d + 9) [vR 5 0 0, vI x, vR 14 0 0] M (.inl (some (vI 0))) (mO M1 v.toInt64) 0 := by
  refine ct_go hL_L_type rfl ?_
  refine aw_aload_n k205_0 rfl ?_
  refine aw_iconst (v := 0) k205_1 (by decide) ?_
  refine aw_aload_n k205_2 rfl ?_
  refine aw_iload_n k205_3 rfl ?_
  refine aw_callV1 k205_4 hC_L_type ok_A_type sv_L_34 hH_A_type ⟨rfl, rfl⟩ (by decide) hN_A_type (by rw [hL_A_type]; exact Nat.le_of_ble_eq_true rfl) (Nat.le_of_ble_eq_true rfl) h ?_
  refine aw_i2l k205_7 ?_
  refine aw_lastore k205_8 ?_
  refine aw_goto (t := 15) k205_9 (by decide) ?_
  refine aw_iconst (v := 0) k205_15 (by decide) ?_
  refine aw_ireturn k205_16 hR_L_type ?_ ?_
  all_goals first | rfl | exact Or.inl rfl | exact Or.inr rfl | assumption | (simp_all; done) | ((repeat' split) <;> first | rfl | (simp only [Int32.lt_iff_toInt_lt, Int32.le_iff_toInt_le, Int64.lt_iff_toInt_lt, Int64.le_iff_toInt_le] at *; omega) | (simp_all; done))
theorem lx_type_1 {d n : Nat} {M M1 : mM} {x : Int32} (h : CT iA_type (d + 8) [vR 5 0 0, vI x] M (.inr tISE) M1 n) : CT iL_type (d + 9) [vR 5 0 0, vI x, vR 14 0 0] M (.inl (some (vI 1))) M1 n := by
  refine ct_go hL_L_type rfl ?_
  have hx : AW iL_type (d + 8 + 1) 4 [some (vR 5 0 0), some (vI x), some (vR 14 0 0), none] [vI x, vR 5 0 0, vI 0, vR 14 0 0] M (.inl (some (vI 1))) M1 (n + 0) := by
    refine aw_callVC (as := [vI x]) (stk := [vI 0, vR 14 0 0]) (hpre := []) (hsuf := []) k205_4 hC_L_type ok_A_type sv_L_34 hH_A_type ⟨rfl, rfl⟩ (by decide) hN_A_type rfl (by rw [hL_A_type]; exact Nat.le_of_ble_eq_true rfl) (Nat.le_of_ble_eq_true rfl) h hH_L_type (fun z hz => absurd hz List.not_mem_nil) (by decide) (by decide) ck_15 cs_15 k205_12 (Nat.le_of_ble_eq_true rfl) rfl ?_
    refine aw_iconst (v := 1) k205_13 (by decide) ?_
    refine aw_ireturn k205_14 hR_L_type ?_ ?_
    all_goals first | rfl | exact Or.inl rfl | exact Or.inr rfl | assumption | (simp_all; done) | ((repeat' split) <;> first | rfl | (simp only [Int32.lt_iff_toInt_lt, Int32.le_iff_toInt_le, Int64.lt_iff_toInt_lt, Int64.le_iff_toInt_le] at *; omega) | (simp_all; done))
  refine aw_aload_n k205_0 rfl ?_
  refine aw_iconst (v := 0) k205_1 (by decide) ?_
  refine aw_aload_n k205_2 rfl ?_
  refine aw_iload_n k205_3 rfl ?_
  exact hx
theorem lo_impossibleOrder {d : Nat} {M M1 : mM} {v : Int32} (h : CT iA_impossibleOrder (d + 8) [vR 5 0 0] M (.inl (some (vI v))) M1 0) : CT iL_impossibleOrder (d + 9) [vR 5 0 0, vR 14 0 0] M (.inl (some (vI 0))) (mO M1 v.toInt64) 0 := by
  refine ct_go hL_L_impossibleOrder rfl ?_
  refine aw_aload_n k206_0 rfl ?_
  refine aw_iconst (v := 0) k206_1 (by decide) ?_
  refine aw_aload_n k206_2 rfl ?_
  refine aw_callV0 k206_3 hC_L_impossibleOrder ok_A_impossibleOrder sv_L_38 hH_A_impossibleOrder ⟨rfl, rfl⟩ (by decide) hN_A_impossibleOrder (by rw [hL_A_impossibleOrder]; exact Nat.le_of_ble_eq_true rfl) (Nat.le_of_ble_eq_true rfl) h ?_
  refine aw_i2l k206_6 ?_
  refine aw_lastore k206_7 ?_
  refine aw_goto (t := 14) k206_8 (by decide) ?_
  refine aw_iconst (v := 0) k206_14 (by decide) ?_
  refine aw_ireturn k206_15 hR_L_impossibleOrder ?_ ?_
  all_goals first | rfl | exact Or.inl rfl | exact Or.inr rfl | assumption | (simp_all; done) | ((repeat' split) <;> first | rfl | (simp only [Int32.lt_iff_toInt_lt, Int32.le_iff_toInt_le, Int64.lt_iff_toInt_lt, Int64.le_iff_toInt_le] at *; omega) | (simp_all; done))
theorem lx_impossibleOrder_1 {d n : Nat} {M M1 : mM} (h : CT iA_impossibleOrder (d + 8) [vR 5 0 0] M (.inr tISE) M1 n) : CT iL_impossibleOrder (d + 9) [vR 5 0 0, vR 14 0 0] M (.inl (some (vI 1))) M1 n := by
  refine ct_go hL_L_impossibleOrder rfl ?_
  have hx : AW iL_impossibleOrder (d + 8 + 1) 3 [some (vR 5 0 0), some (vR 14 0 0), none] [vR 5 0 0, vI 0, vR 14 0 0] M (.inl (some (vI 1))) M1 (n + 0) := by
    refine aw_callVC (as := []) (stk := [vI 0, vR 14 0 0]) (hpre := []) (hsuf := []) k206_3 hC_L_impossibleOrder ok_A_impossibleOrder sv_L_38 hH_A_impossibleOrder ⟨rfl, rfl⟩ (by decide) hN_A_impossibleOrder rfl (by rw [hL_A_impossibleOrder]; exact Nat.le_of_ble_eq_true rfl) (Nat.le_of_ble_eq_true rfl) h hH_L_impossibleOrder (fun z hz => absurd hz List.not_mem_nil) (by decide) (by decide) ck_15 cs_15 k206_11 (Nat.le_of_ble_eq_true rfl) rfl ?_
    refine aw_iconst (v := 1) k206_12 (by decide) ?_
    refine aw_ireturn k206_13 hR_L_impossibleOrder ?_ ?_
    all_goals first | rfl | exact Or.inl rfl | exact Or.inr rfl | assumption | (simp_all; done) | ((repeat' split) <;> first | rfl | (simp only [Int32.lt_iff_toInt_lt, Int32.le_iff_toInt_le, Int64.lt_iff_toInt_lt, Int64.le_iff_toInt_le] at *; omega) | (simp_all; done))
  refine aw_aload_n k206_0 rfl ?_
  refine aw_iconst (v := 0) k206_1 (by decide) ?_
  refine aw_aload_n k206_2 rfl ?_
  exact hx
theorem lo_carryOut {d : Nat} {M M1 : mM} {v : Int32} (h : CT iA_carryOut (d + 8) [vR 5 0 0] M (.inl (some (vI v))) M1 0) : CT iL_carryOut (d + 9) [vR 5 0 0, vR 14 0 0] M (.inl (some (vI 0))) (mO M1 v.toInt64) 0 := by
  refine ct_go hL_L_carryOut rfl ?_
  refine aw_aload_n k207_0 rfl ?_
  refine aw_iconst (v := 0) k207_1 (by decide) ?_
  refine aw_aload_n k207_2 rfl ?_
  refine aw_callV0 k207_3 hC_L_carryOut ok_A_carryOut sv_L_41 hH_A_carryOut ⟨rfl, rfl⟩ (by decide) hN_A_carryOut (by rw [hL_A_carryOut]; exact Nat.le_of_ble_eq_true rfl) (Nat.le_of_ble_eq_true rfl) h ?_
  refine aw_i2l k207_6 ?_
  refine aw_lastore k207_7 ?_
  refine aw_goto (t := 14) k207_8 (by decide) ?_
  refine aw_iconst (v := 0) k207_14 (by decide) ?_
  refine aw_ireturn k207_15 hR_L_carryOut ?_ ?_
  all_goals first | rfl | exact Or.inl rfl | exact Or.inr rfl | assumption | (simp_all; done) | ((repeat' split) <;> first | rfl | (simp only [Int32.lt_iff_toInt_lt, Int32.le_iff_toInt_le, Int64.lt_iff_toInt_lt, Int64.le_iff_toInt_le] at *; omega) | (simp_all; done))
theorem lx_carryOut_1 {d n : Nat} {M M1 : mM} (h : CT iA_carryOut (d + 8) [vR 5 0 0] M (.inr tISE) M1 n) : CT iL_carryOut (d + 9) [vR 5 0 0, vR 14 0 0] M (.inl (some (vI 1))) M1 n := by
  refine ct_go hL_L_carryOut rfl ?_
  have hx : AW iL_carryOut (d + 8 + 1) 3 [some (vR 5 0 0), some (vR 14 0 0), none] [vR 5 0 0, vI 0, vR 14 0 0] M (.inl (some (vI 1))) M1 (n + 0) := by
    refine aw_callVC (as := []) (stk := [vI 0, vR 14 0 0]) (hpre := []) (hsuf := []) k207_3 hC_L_carryOut ok_A_carryOut sv_L_41 hH_A_carryOut ⟨rfl, rfl⟩ (by decide) hN_A_carryOut rfl (by rw [hL_A_carryOut]; exact Nat.le_of_ble_eq_true rfl) (Nat.le_of_ble_eq_true rfl) h hH_L_carryOut (fun z hz => absurd hz List.not_mem_nil) (by decide) (by decide) ck_15 cs_15 k207_11 (Nat.le_of_ble_eq_true rfl) rfl ?_
    refine aw_iconst (v := 1) k207_12 (by decide) ?_
    refine aw_ireturn k207_13 hR_L_carryOut ?_ ?_
    all_goals first | rfl | exact Or.inl rfl | exact Or.inr rfl | assumption | (simp_all; done) | ((repeat' split) <;> first | rfl | (simp only [Int32.lt_iff_toInt_lt, Int32.le_iff_toInt_le, Int64.lt_iff_toInt_lt, Int64.le_iff_toInt_le] at *; omega) | (simp_all; done))
  refine aw_aload_n k207_0 rfl ?_
  refine aw_iconst (v := 0) k207_1 (by decide) ?_
  refine aw_aload_n k207_2 rfl ?_
  exact hx
theorem lo_undo {d : Nat} {M M1 : mM} {v : Int32} (h : CT iA_undo (d + 8) [vR 5 0 0] M (.inl (some (vI v))) M1 0) : CT iL_undo (d + 9) [vR 5 0 0, vR 14 0 0] M (.inl (some (vI 0))) (mO M1 v.toInt64) 0 := by
  refine ct_go hL_L_undo rfl ?_
  refine aw_aload_n k208_0 rfl ?_
  refine aw_iconst (v := 0) k208_1 (by decide) ?_
  refine aw_aload_n k208_2 rfl ?_
  refine aw_callV0 k208_3 hC_L_undo ok_A_undo sv_L_44 hH_A_undo ⟨rfl, rfl⟩ (by decide) hN_A_undo (by rw [hL_A_undo]; exact Nat.le_of_ble_eq_true rfl) (Nat.le_of_ble_eq_true rfl) h ?_
  refine aw_i2l k208_6 ?_
  refine aw_lastore k208_7 ?_
  refine aw_goto (t := 14) k208_8 (by decide) ?_
  refine aw_iconst (v := 0) k208_14 (by decide) ?_
  refine aw_ireturn k208_15 hR_L_undo ?_ ?_
  all_goals first | rfl | exact Or.inl rfl | exact Or.inr rfl | assumption | (simp_all; done) | ((repeat' split) <;> first | rfl | (simp only [Int32.lt_iff_toInt_lt, Int32.le_iff_toInt_le, Int64.lt_iff_toInt_lt, Int64.le_iff_toInt_le] at *; omega) | (simp_all; done))
theorem lx_undo_1 {d n : Nat} {M M1 : mM} (h : CT iA_undo (d + 8) [vR 5 0 0] M (.inr tISE) M1 n) : CT iL_undo (d + 9) [vR 5 0 0, vR 14 0 0] M (.inl (some (vI 1))) M1 n := by
  refine ct_go hL_L_undo rfl ?_
  have hx : AW iL_undo (d + 8 + 1) 3 [some (vR 5 0 0), some (vR 14 0 0), none] [vR 5 0 0, vI 0, vR 14 0 0] M (.inl (some (vI 1))) M1 (n + 0) := by
    refine aw_callVC (as := []) (stk := [vI 0, vR 14 0 0]) (hpre := []) (hsuf := []) k208_3 hC_L_undo ok_A_undo sv_L_44 hH_A_undo ⟨rfl, rfl⟩ (by decide) hN_A_undo rfl (by rw [hL_A_undo]; exact Nat.le_of_ble_eq_true rfl) (Nat.le_of_ble_eq_true rfl) h hH_L_undo (fun z hz => absurd hz List.not_mem_nil) (by decide) (by decide) ck_15 cs_15 k208_11 (Nat.le_of_ble_eq_true rfl) rfl ?_
    refine aw_iconst (v := 1) k208_12 (by decide) ?_
    refine aw_ireturn k208_13 hR_L_undo ?_ ?_
    all_goals first | rfl | exact Or.inl rfl | exact Or.inr rfl | assumption | (simp_all; done) | ((repeat' split) <;> first | rfl | (simp only [Int32.lt_iff_toInt_lt, Int32.le_iff_toInt_le, Int64.lt_iff_toInt_lt, Int64.le_iff_toInt_le] at *; omega) | (simp_all; done))
  refine aw_aload_n k208_0 rfl ?_
  refine aw_iconst (v := 0) k208_1 (by decide) ?_
  refine aw_aload_n k208_2 rfl ?_
  exact hx
theorem lo_restoreSnapshot {d : Nat} {M M1 : mM} {v : Int32} (h : CT iA_restoreSnapshot (d + 8) [vR 5 0 0] M (.inl (some (vI v))) M1 0) : CT iL_restoreSnapshot (d + 9) [vR 5 0 0, vR 14 0 0] M (.inl (some (vI 0))) (mO M1 v.toInt64) 0 := by
  refine ct_go hL_L_restoreSnapshot rfl ?_
  refine aw_aload_n k209_0 rfl ?_
  refine aw_iconst (v := 0) k209_1 (by decide) ?_
  refine aw_aload_n k209_2 rfl ?_
  refine aw_callV0 k209_3 hC_L_restoreSnapshot ok_A_restoreSnapshot sv_L_47 hH_A_restoreSnapshot ⟨rfl, rfl⟩ (by decide) hN_A_restoreSnapshot (by rw [hL_A_restoreSnapshot]; exact Nat.le_of_ble_eq_true rfl) (Nat.le_of_ble_eq_true rfl) h ?_
  refine aw_i2l k209_6 ?_
  refine aw_lastore k209_7 ?_
  refine aw_goto (t := 14) k209_8 (by decide) ?_
  refine aw_iconst (v := 0) k209_14 (by decide) ?_
  refine aw_ireturn k209_15 hR_L_restoreSnapshot ?_ ?_
  all_goals first | rfl | exact Or.inl rfl | exact Or.inr rfl | assumption | (simp_all; done) | ((repeat' split) <;> first | rfl | (simp only [Int32.lt_iff_toInt_lt, Int32.le_iff_toInt_le, Int64.lt_iff_toInt_lt, Int64.le_iff_toInt_le] at *; omega) | (simp_all; done))
theorem lx_restoreSnapshot_1 {d n : Nat} {M M1 : mM} (h : CT iA_restoreSnapshot (d + 8) [vR 5 0 0] M (.inr tISE) M1 n) : CT iL_restoreSnapshot (d + 9) [vR 5 0 0, vR 14 0 0] M (.inl (some (vI 1))) M1 n := by
  refine ct_go hL_L_restoreSnapshot rfl ?_
  have hx : AW iL_restoreSnapshot (d + 8 + 1) 3 [some (vR 5 0 0), some (vR 14 0 0), none] [vR 5 0 0, vI 0, vR 14 0 0] M (.inl (some (vI 1))) M1 (n + 0) := by
    refine aw_callVC (as := []) (stk := [vI 0, vR 14 0 0]) (hpre := []) (hsuf := []) k209_3 hC_L_restoreSnapshot ok_A_restoreSnapshot sv_L_47 hH_A_restoreSnapshot ⟨rfl, rfl⟩ (by decide) hN_A_restoreSnapshot rfl (by rw [hL_A_restoreSnapshot]; exact Nat.le_of_ble_eq_true rfl) (Nat.le_of_ble_eq_true rfl) h hH_L_restoreSnapshot (fun z hz => absurd hz List.not_mem_nil) (by decide) (by decide) ck_15 cs_15 k209_11 (Nat.le_of_ble_eq_true rfl) rfl ?_
    refine aw_iconst (v := 1) k209_12 (by decide) ?_
    refine aw_ireturn k209_13 hR_L_restoreSnapshot ?_ ?_
    all_goals first | rfl | exact Or.inl rfl | exact Or.inr rfl | assumption | (simp_all; done) | ((repeat' split) <;> first | rfl | (simp only [Int32.lt_iff_toInt_lt, Int32.le_iff_toInt_le, Int64.lt_iff_toInt_lt, Int64.le_iff_toInt_le] at *; omega) | (simp_all; done))
  refine aw_aload_n k209_0 rfl ?_
  refine aw_iconst (v := 0) k209_1 (by decide) ?_
  refine aw_aload_n k209_2 rfl ?_
  exact hx
theorem lo_adjustedEast {d : Nat} {M M1 : mM} {x : Int32} {v : Int32} (h : CT iA_adjustedEast (d + 8) [vR 5 0 0, vI x] M (.inl (some (vI v))) M1 0) : CT iL_adjustedEast (d + 9) [vR 5 0 0, vI x, vR 14 0 0] M (.inl (some (vI 0))) (mO M1 v.toInt64) 0 := by
  refine ct_go hL_L_adjustedEast rfl ?_
  refine aw_aload_n k210_0 rfl ?_
  refine aw_iconst (v := 0) k210_1 (by decide) ?_
  refine aw_aload_n k210_2 rfl ?_
  refine aw_iload_n k210_3 rfl ?_
  refine aw_callV1 k210_4 hC_L_adjustedEast ok_A_adjustedEast sv_L_50 hH_A_adjustedEast ⟨rfl, rfl⟩ (by decide) hN_A_adjustedEast (by rw [hL_A_adjustedEast]; exact Nat.le_of_ble_eq_true rfl) (Nat.le_of_ble_eq_true rfl) h ?_
  refine aw_i2l k210_7 ?_
  refine aw_lastore k210_8 ?_
  refine aw_goto (t := 15) k210_9 (by decide) ?_
  refine aw_iconst (v := 0) k210_15 (by decide) ?_
  refine aw_ireturn k210_16 hR_L_adjustedEast ?_ ?_
  all_goals first | rfl | exact Or.inl rfl | exact Or.inr rfl | assumption | (simp_all; done) | ((repeat' split) <;> first | rfl | (simp only [Int32.lt_iff_toInt_lt, Int32.le_iff_toInt_le, Int64.lt_iff_toInt_lt, Int64.le_iff_toInt_le] at *; omega) | (simp_all; done))
theorem lx_adjustedEast_1 {d n : Nat} {M M1 : mM} {x : Int32} (h : CT iA_adjustedEast (d + 8) [vR 5 0 0, vI x] M (.inr tIOB) M1 n) : CT iL_adjustedEast (d + 9) [vR 5 0 0, vI x, vR 14 0 0] M (.inl (some (vI 1))) M1 n := by
  refine ct_go hL_L_adjustedEast rfl ?_
  have hx : AW iL_adjustedEast (d + 8 + 1) 4 [some (vR 5 0 0), some (vI x), some (vR 14 0 0), none] [vI x, vR 5 0 0, vI 0, vR 14 0 0] M (.inl (some (vI 1))) M1 (n + 0) := by
    refine aw_callVC (as := [vI x]) (stk := [vI 0, vR 14 0 0]) (hpre := []) (hsuf := []) k210_4 hC_L_adjustedEast ok_A_adjustedEast sv_L_50 hH_A_adjustedEast ⟨rfl, rfl⟩ (by decide) hN_A_adjustedEast rfl (by rw [hL_A_adjustedEast]; exact Nat.le_of_ble_eq_true rfl) (Nat.le_of_ble_eq_true rfl) h hH_L_adjustedEast (fun z hz => absurd hz List.not_mem_nil) (by decide) (by decide) ck_32 cs_32 k210_12 (Nat.le_of_ble_eq_true rfl) rfl ?_
    refine aw_iconst (v := 1) k210_13 (by decide) ?_
    refine aw_ireturn k210_14 hR_L_adjustedEast ?_ ?_
    all_goals first | rfl | exact Or.inl rfl | exact Or.inr rfl | assumption | (simp_all; done) | ((repeat' split) <;> first | rfl | (simp only [Int32.lt_iff_toInt_lt, Int32.le_iff_toInt_le, Int64.lt_iff_toInt_lt, Int64.le_iff_toInt_le] at *; omega) | (simp_all; done))
  refine aw_aload_n k210_0 rfl ?_
  refine aw_iconst (v := 0) k210_1 (by decide) ?_
  refine aw_aload_n k210_2 rfl ?_
  refine aw_iload_n k210_3 rfl ?_
  exact hx
theorem lo_adjustedNorth {d : Nat} {M M1 : mM} {x : Int32} {v : Int32} (h : CT iA_adjustedNorth (d + 8) [vR 5 0 0, vI x] M (.inl (some (vI v))) M1 0) : CT iL_adjustedNorth (d + 9) [vR 5 0 0, vI x, vR 14 0 0] M (.inl (some (vI 0))) (mO M1 v.toInt64) 0 := by
  refine ct_go hL_L_adjustedNorth rfl ?_
  refine aw_aload_n k211_0 rfl ?_
  refine aw_iconst (v := 0) k211_1 (by decide) ?_
  refine aw_aload_n k211_2 rfl ?_
  refine aw_iload_n k211_3 rfl ?_
  refine aw_callV1 k211_4 hC_L_adjustedNorth ok_A_adjustedNorth sv_L_53 hH_A_adjustedNorth ⟨rfl, rfl⟩ (by decide) hN_A_adjustedNorth (by rw [hL_A_adjustedNorth]; exact Nat.le_of_ble_eq_true rfl) (Nat.le_of_ble_eq_true rfl) h ?_
  refine aw_i2l k211_7 ?_
  refine aw_lastore k211_8 ?_
  refine aw_goto (t := 15) k211_9 (by decide) ?_
  refine aw_iconst (v := 0) k211_15 (by decide) ?_
  refine aw_ireturn k211_16 hR_L_adjustedNorth ?_ ?_
  all_goals first | rfl | exact Or.inl rfl | exact Or.inr rfl | assumption | (simp_all; done) | ((repeat' split) <;> first | rfl | (simp only [Int32.lt_iff_toInt_lt, Int32.le_iff_toInt_le, Int64.lt_iff_toInt_lt, Int64.le_iff_toInt_le] at *; omega) | (simp_all; done))
theorem lx_adjustedNorth_1 {d n : Nat} {M M1 : mM} {x : Int32} (h : CT iA_adjustedNorth (d + 8) [vR 5 0 0, vI x] M (.inr tIOB) M1 n) : CT iL_adjustedNorth (d + 9) [vR 5 0 0, vI x, vR 14 0 0] M (.inl (some (vI 1))) M1 n := by
  refine ct_go hL_L_adjustedNorth rfl ?_
  have hx : AW iL_adjustedNorth (d + 8 + 1) 4 [some (vR 5 0 0), some (vI x), some (vR 14 0 0), none] [vI x, vR 5 0 0, vI 0, vR 14 0 0] M (.inl (some (vI 1))) M1 (n + 0) := by
    refine aw_callVC (as := [vI x]) (stk := [vI 0, vR 14 0 0]) (hpre := []) (hsuf := []) k211_4 hC_L_adjustedNorth ok_A_adjustedNorth sv_L_53 hH_A_adjustedNorth ⟨rfl, rfl⟩ (by decide) hN_A_adjustedNorth rfl (by rw [hL_A_adjustedNorth]; exact Nat.le_of_ble_eq_true rfl) (Nat.le_of_ble_eq_true rfl) h hH_L_adjustedNorth (fun z hz => absurd hz List.not_mem_nil) (by decide) (by decide) ck_32 cs_32 k211_12 (Nat.le_of_ble_eq_true rfl) rfl ?_
    refine aw_iconst (v := 1) k211_13 (by decide) ?_
    refine aw_ireturn k211_14 hR_L_adjustedNorth ?_ ?_
    all_goals first | rfl | exact Or.inl rfl | exact Or.inr rfl | assumption | (simp_all; done) | ((repeat' split) <;> first | rfl | (simp only [Int32.lt_iff_toInt_lt, Int32.le_iff_toInt_le, Int64.lt_iff_toInt_lt, Int64.le_iff_toInt_le] at *; omega) | (simp_all; done))
  refine aw_aload_n k211_0 rfl ?_
  refine aw_iconst (v := 0) k211_1 (by decide) ?_
  refine aw_aload_n k211_2 rfl ?_
  refine aw_iload_n k211_3 rfl ?_
  exact hx
theorem lo_cornersOf {d : Nat} {M M1 : mM} {x : Int32} {v : Int32} (h : CT iA_cornersOf (d + 8) [vR 5 0 0, vI x] M (.inl (some (vI v))) M1 0) : CT iL_cornersOf (d + 9) [vR 5 0 0, vI x, vR 14 0 0] M (.inl (some (vI 0))) (mO M1 v.toInt64) 0 := by
  refine ct_go hL_L_cornersOf rfl ?_
  refine aw_aload_n k212_0 rfl ?_
  refine aw_iconst (v := 0) k212_1 (by decide) ?_
  refine aw_aload_n k212_2 rfl ?_
  refine aw_iload_n k212_3 rfl ?_
  refine aw_callV1 k212_4 hC_L_cornersOf ok_A_cornersOf sv_L_56 hH_A_cornersOf ⟨rfl, rfl⟩ (by decide) hN_A_cornersOf (by rw [hL_A_cornersOf]; exact Nat.le_of_ble_eq_true rfl) (Nat.le_of_ble_eq_true rfl) h ?_
  refine aw_i2l k212_7 ?_
  refine aw_lastore k212_8 ?_
  refine aw_goto (t := 15) k212_9 (by decide) ?_
  refine aw_iconst (v := 0) k212_15 (by decide) ?_
  refine aw_ireturn k212_16 hR_L_cornersOf ?_ ?_
  all_goals first | rfl | exact Or.inl rfl | exact Or.inr rfl | assumption | (simp_all; done) | ((repeat' split) <;> first | rfl | (simp only [Int32.lt_iff_toInt_lt, Int32.le_iff_toInt_le, Int64.lt_iff_toInt_lt, Int64.le_iff_toInt_le] at *; omega) | (simp_all; done))
theorem lx_cornersOf_1 {d n : Nat} {M M1 : mM} {x : Int32} (h : CT iA_cornersOf (d + 8) [vR 5 0 0, vI x] M (.inr tIOB) M1 n) : CT iL_cornersOf (d + 9) [vR 5 0 0, vI x, vR 14 0 0] M (.inl (some (vI 1))) M1 n := by
  refine ct_go hL_L_cornersOf rfl ?_
  have hx : AW iL_cornersOf (d + 8 + 1) 4 [some (vR 5 0 0), some (vI x), some (vR 14 0 0), none] [vI x, vR 5 0 0, vI 0, vR 14 0 0] M (.inl (some (vI 1))) M1 (n + 0) := by
    refine aw_callVC (as := [vI x]) (stk := [vI 0, vR 14 0 0]) (hpre := []) (hsuf := []) k212_4 hC_L_cornersOf ok_A_cornersOf sv_L_56 hH_A_cornersOf ⟨rfl, rfl⟩ (by decide) hN_A_cornersOf rfl (by rw [hL_A_cornersOf]; exact Nat.le_of_ble_eq_true rfl) (Nat.le_of_ble_eq_true rfl) h hH_L_cornersOf (fun z hz => absurd hz List.not_mem_nil) (by decide) (by decide) ck_32 cs_32 k212_12 (Nat.le_of_ble_eq_true rfl) rfl ?_
    refine aw_iconst (v := 1) k212_13 (by decide) ?_
    refine aw_ireturn k212_14 hR_L_cornersOf ?_ ?_
    all_goals first | rfl | exact Or.inl rfl | exact Or.inr rfl | assumption | (simp_all; done) | ((repeat' split) <;> first | rfl | (simp only [Int32.lt_iff_toInt_lt, Int32.le_iff_toInt_le, Int64.lt_iff_toInt_lt, Int64.le_iff_toInt_le] at *; omega) | (simp_all; done))
  refine aw_aload_n k212_0 rfl ?_
  refine aw_iconst (v := 0) k212_1 (by decide) ?_
  refine aw_aload_n k212_2 rfl ?_
  refine aw_iload_n k212_3 rfl ?_
  exact hx
theorem lo_cornerEast {d : Nat} {M M1 : mM} {x y : Int32} {v : Int32} (h : CT iA_cornerEast (d + 8) [vR 5 0 0, vI x, vI y] M (.inl (some (vI v))) M1 0) : CT iL_cornerEast (d + 9) [vR 5 0 0, vI x, vI y, vR 14 0 0] M (.inl (some (vI 0))) (mO M1 v.toInt64) 0 := by
  refine ct_go hL_L_cornerEast rfl ?_
  refine aw_aload_n k213_0 rfl ?_
  refine aw_iconst (v := 0) k213_1 (by decide) ?_
  refine aw_aload_n k213_2 rfl ?_
  refine aw_iload_n k213_3 rfl ?_
  refine aw_iload_n k213_4 rfl ?_
  refine aw_callV2 k213_5 hC_L_cornerEast ok_A_cornerEast sv_L_59 hH_A_cornerEast ⟨rfl, rfl⟩ (by decide) hN_A_cornerEast (by rw [hL_A_cornerEast]; exact Nat.le_of_ble_eq_true rfl) (Nat.le_of_ble_eq_true rfl) h ?_
  refine aw_i2l k213_8 ?_
  refine aw_lastore k213_9 ?_
  refine aw_goto (t := 17) k213_10 (by decide) ?_
  refine aw_iconst (v := 0) k213_17 (by decide) ?_
  refine aw_ireturn k213_18 hR_L_cornerEast ?_ ?_
  all_goals first | rfl | exact Or.inl rfl | exact Or.inr rfl | assumption | (simp_all; done) | ((repeat' split) <;> first | rfl | (simp only [Int32.lt_iff_toInt_lt, Int32.le_iff_toInt_le, Int64.lt_iff_toInt_lt, Int64.le_iff_toInt_le] at *; omega) | (simp_all; done))
theorem lx_cornerEast_1 {d n : Nat} {M M1 : mM} {x y : Int32} (h : CT iA_cornerEast (d + 8) [vR 5 0 0, vI x, vI y] M (.inr tIOB) M1 n) : CT iL_cornerEast (d + 9) [vR 5 0 0, vI x, vI y, vR 14 0 0] M (.inl (some (vI 1))) M1 n := by
  refine ct_go hL_L_cornerEast rfl ?_
  have hx : AW iL_cornerEast (d + 8 + 1) 5 [some (vR 5 0 0), some (vI x), some (vI y), some (vR 14 0 0), none] [vI y, vI x, vR 5 0 0, vI 0, vR 14 0 0] M (.inl (some (vI 1))) M1 (n + 0) := by
    refine aw_callVD (as := [vI x, vI y]) (stk := [vI 0, vR 14 0 0]) (hpre := []) (hsuf := []) k213_5 hC_L_cornerEast ok_A_cornerEast sv_L_59 hH_A_cornerEast ⟨rfl, rfl⟩ (by decide) hN_A_cornerEast rfl (by rw [hL_A_cornerEast]; exact Nat.le_of_ble_eq_true rfl) (Nat.le_of_ble_eq_true rfl) h hH_L_cornerEast (fun z hz => absurd hz List.not_mem_nil) (by decide) (by decide) ck_32 cs_32 k213_13 (Nat.le_of_ble_eq_true rfl) rfl ?_
    refine aw_iconst (v := 1) k213_15 (by decide) ?_
    refine aw_ireturn k213_16 hR_L_cornerEast ?_ ?_
    all_goals first | rfl | exact Or.inl rfl | exact Or.inr rfl | assumption | (simp_all; done) | ((repeat' split) <;> first | rfl | (simp only [Int32.lt_iff_toInt_lt, Int32.le_iff_toInt_le, Int64.lt_iff_toInt_lt, Int64.le_iff_toInt_le] at *; omega) | (simp_all; done))
  refine aw_aload_n k213_0 rfl ?_
  refine aw_iconst (v := 0) k213_1 (by decide) ?_
  refine aw_aload_n k213_2 rfl ?_
  refine aw_iload_n k213_3 rfl ?_
  refine aw_iload_n k213_4 rfl ?_
  exact hx
theorem lo_cornerNorth {d : Nat} {M M1 : mM} {x y : Int32} {v : Int32} (h : CT iA_cornerNorth (d + 8) [vR 5 0 0, vI x, vI y] M (.inl (some (vI v))) M1 0) : CT iL_cornerNorth (d + 9) [vR 5 0 0, vI x, vI y, vR 14 0 0] M (.inl (some (vI 0))) (mO M1 v.toInt64) 0 := by
  refine ct_go hL_L_cornerNorth rfl ?_
  refine aw_aload_n k214_0 rfl ?_
  refine aw_iconst (v := 0) k214_1 (by decide) ?_
  refine aw_aload_n k214_2 rfl ?_
  refine aw_iload_n k214_3 rfl ?_
  refine aw_iload_n k214_4 rfl ?_
  refine aw_callV2 k214_5 hC_L_cornerNorth ok_A_cornerNorth sv_L_62 hH_A_cornerNorth ⟨rfl, rfl⟩ (by decide) hN_A_cornerNorth (by rw [hL_A_cornerNorth]; exact Nat.le_of_ble_eq_true rfl) (Nat.le_of_ble_eq_true rfl) h ?_
  refine aw_i2l k214_8 ?_
  refine aw_lastore k214_9 ?_
  refine aw_goto (t := 17) k214_10 (by decide) ?_
  refine aw_iconst (v := 0) k214_17 (by decide) ?_
  refine aw_ireturn k214_18 hR_L_cornerNorth ?_ ?_
  all_goals first | rfl | exact Or.inl rfl | exact Or.inr rfl | assumption | (simp_all; done) | ((repeat' split) <;> first | rfl | (simp only [Int32.lt_iff_toInt_lt, Int32.le_iff_toInt_le, Int64.lt_iff_toInt_lt, Int64.le_iff_toInt_le] at *; omega) | (simp_all; done))
theorem lx_cornerNorth_1 {d n : Nat} {M M1 : mM} {x y : Int32} (h : CT iA_cornerNorth (d + 8) [vR 5 0 0, vI x, vI y] M (.inr tIOB) M1 n) : CT iL_cornerNorth (d + 9) [vR 5 0 0, vI x, vI y, vR 14 0 0] M (.inl (some (vI 1))) M1 n := by
  refine ct_go hL_L_cornerNorth rfl ?_
  have hx : AW iL_cornerNorth (d + 8 + 1) 5 [some (vR 5 0 0), some (vI x), some (vI y), some (vR 14 0 0), none] [vI y, vI x, vR 5 0 0, vI 0, vR 14 0 0] M (.inl (some (vI 1))) M1 (n + 0) := by
    refine aw_callVD (as := [vI x, vI y]) (stk := [vI 0, vR 14 0 0]) (hpre := []) (hsuf := []) k214_5 hC_L_cornerNorth ok_A_cornerNorth sv_L_62 hH_A_cornerNorth ⟨rfl, rfl⟩ (by decide) hN_A_cornerNorth rfl (by rw [hL_A_cornerNorth]; exact Nat.le_of_ble_eq_true rfl) (Nat.le_of_ble_eq_true rfl) h hH_L_cornerNorth (fun z hz => absurd hz List.not_mem_nil) (by decide) (by decide) ck_32 cs_32 k214_13 (Nat.le_of_ble_eq_true rfl) rfl ?_
    refine aw_iconst (v := 1) k214_15 (by decide) ?_
    refine aw_ireturn k214_16 hR_L_cornerNorth ?_ ?_
    all_goals first | rfl | exact Or.inl rfl | exact Or.inr rfl | assumption | (simp_all; done) | ((repeat' split) <;> first | rfl | (simp only [Int32.lt_iff_toInt_lt, Int32.le_iff_toInt_le, Int64.lt_iff_toInt_lt, Int64.le_iff_toInt_le] at *; omega) | (simp_all; done))
  refine aw_aload_n k214_0 rfl ?_
  refine aw_iconst (v := 0) k214_1 (by decide) ?_
  refine aw_aload_n k214_2 rfl ?_
  refine aw_iload_n k214_3 rfl ?_
  refine aw_iload_n k214_4 rfl ?_
  exact hx
theorem lo_leftTurns {d : Nat} {M M1 : mM} {x : Int32} {v : Int32} (h : CT iA_leftTurns (d + 8) [vR 5 0 0, vI x] M (.inl (some (vI v))) M1 0) : CT iL_leftTurns (d + 9) [vR 5 0 0, vI x, vR 14 0 0] M (.inl (some (vI 0))) (mO M1 v.toInt64) 0 := by
  refine ct_go hL_L_leftTurns rfl ?_
  refine aw_aload_n k215_0 rfl ?_
  refine aw_iconst (v := 0) k215_1 (by decide) ?_
  refine aw_aload_n k215_2 rfl ?_
  refine aw_iload_n k215_3 rfl ?_
  refine aw_callV1 k215_4 hC_L_leftTurns ok_A_leftTurns sv_L_65 hH_A_leftTurns ⟨rfl, rfl⟩ (by decide) hN_A_leftTurns (by rw [hL_A_leftTurns]; exact Nat.le_of_ble_eq_true rfl) (Nat.le_of_ble_eq_true rfl) h ?_
  refine aw_i2l k215_7 ?_
  refine aw_lastore k215_8 ?_
  refine aw_goto (t := 15) k215_9 (by decide) ?_
  refine aw_iconst (v := 0) k215_15 (by decide) ?_
  refine aw_ireturn k215_16 hR_L_leftTurns ?_ ?_
  all_goals first | rfl | exact Or.inl rfl | exact Or.inr rfl | assumption | (simp_all; done) | ((repeat' split) <;> first | rfl | (simp only [Int32.lt_iff_toInt_lt, Int32.le_iff_toInt_le, Int64.lt_iff_toInt_lt, Int64.le_iff_toInt_le] at *; omega) | (simp_all; done))
theorem lx_leftTurns_1 {d n : Nat} {M M1 : mM} {x : Int32} (h : CT iA_leftTurns (d + 8) [vR 5 0 0, vI x] M (.inr tIOB) M1 n) : CT iL_leftTurns (d + 9) [vR 5 0 0, vI x, vR 14 0 0] M (.inl (some (vI 1))) M1 n := by
  refine ct_go hL_L_leftTurns rfl ?_
  have hx : AW iL_leftTurns (d + 8 + 1) 4 [some (vR 5 0 0), some (vI x), some (vR 14 0 0), none] [vI x, vR 5 0 0, vI 0, vR 14 0 0] M (.inl (some (vI 1))) M1 (n + 0) := by
    refine aw_callVC (as := [vI x]) (stk := [vI 0, vR 14 0 0]) (hpre := []) (hsuf := []) k215_4 hC_L_leftTurns ok_A_leftTurns sv_L_65 hH_A_leftTurns ⟨rfl, rfl⟩ (by decide) hN_A_leftTurns rfl (by rw [hL_A_leftTurns]; exact Nat.le_of_ble_eq_true rfl) (Nat.le_of_ble_eq_true rfl) h hH_L_leftTurns (fun z hz => absurd hz List.not_mem_nil) (by decide) (by decide) ck_32 cs_32 k215_12 (Nat.le_of_ble_eq_true rfl) rfl ?_
    refine aw_iconst (v := 1) k215_13 (by decide) ?_
    refine aw_ireturn k215_14 hR_L_leftTurns ?_ ?_
    all_goals first | rfl | exact Or.inl rfl | exact Or.inr rfl | assumption | (simp_all; done) | ((repeat' split) <;> first | rfl | (simp only [Int32.lt_iff_toInt_lt, Int32.le_iff_toInt_le, Int64.lt_iff_toInt_lt, Int64.le_iff_toInt_le] at *; omega) | (simp_all; done))
  refine aw_aload_n k215_0 rfl ?_
  refine aw_iconst (v := 0) k215_1 (by decide) ?_
  refine aw_aload_n k215_2 rfl ?_
  refine aw_iload_n k215_3 rfl ?_
  exact hx
theorem lo_turnsOneWay {d : Nat} {M M1 : mM} {x : Int32} {v : Int32} (h : CT iA_turnsOneWay (d + 8) [vR 5 0 0, vI x] M (.inl (some (vI v))) M1 0) : CT iL_turnsOneWay (d + 9) [vR 5 0 0, vI x, vR 14 0 0] M (.inl (some (vI 0))) (mO M1 (if v = 0 then 0 else 1)) 0 := by
  refine ct_go hL_L_turnsOneWay rfl ?_
  by_cases hv : v = 0
  · rw [if_pos hv]
    refine aw_aload_n k216_0 rfl ?_
    refine aw_iconst (v := 0) k216_1 (by decide) ?_
    refine aw_aload_n k216_2 rfl ?_
    refine aw_iload_n k216_3 rfl ?_
    refine aw_callV1 k216_4 hC_L_turnsOneWay ok_A_turnsOneWay sv_L_68 hH_A_turnsOneWay ⟨rfl, rfl⟩ (by decide) hN_A_turnsOneWay (by rw [hL_A_turnsOneWay]; exact Nat.le_of_ble_eq_true rfl) (Nat.le_of_ble_eq_true rfl) h ?_
    refine aw_if_eq 14 k216_7 (by decide) (fun c_7 => ?_) (fun c_7 => ?_)
    · refine aw_lconst (v := 0) k216_14 (by decide) ?_
      refine aw_lastore k216_15 ?_
      refine aw_goto (t := 22) k216_16 (by decide) ?_
      refine aw_iconst (v := 0) k216_22 (by decide) ?_
      refine aw_ireturn k216_23 hR_L_turnsOneWay ?_ ?_
      all_goals first | rfl | exact Or.inl rfl | exact Or.inr rfl | assumption | (simp_all; done) | ((repeat' split) <;> first | rfl | (simp only [Int32.lt_iff_toInt_lt, Int32.le_iff_toInt_le, Int64.lt_iff_toInt_lt, Int64.le_iff_toInt_le] at *; omega) | (simp_all; done))
    · exact absurd hv c_7
  · rw [if_neg hv]
    refine aw_aload_n k216_0 rfl ?_
    refine aw_iconst (v := 0) k216_1 (by decide) ?_
    refine aw_aload_n k216_2 rfl ?_
    refine aw_iload_n k216_3 rfl ?_
    refine aw_callV1 k216_4 hC_L_turnsOneWay ok_A_turnsOneWay sv_L_68 hH_A_turnsOneWay ⟨rfl, rfl⟩ (by decide) hN_A_turnsOneWay (by rw [hL_A_turnsOneWay]; exact Nat.le_of_ble_eq_true rfl) (Nat.le_of_ble_eq_true rfl) h ?_
    refine aw_if_eq 14 k216_7 (by decide) (fun c_7 => ?_) (fun c_7 => ?_)
    · exact absurd c_7 hv
    · refine aw_lconst (v := 1) k216_10 (by decide) ?_
      refine aw_goto (t := 15) k216_11 (by decide) ?_
      refine aw_lastore k216_15 ?_
      refine aw_goto (t := 22) k216_16 (by decide) ?_
      refine aw_iconst (v := 0) k216_22 (by decide) ?_
      refine aw_ireturn k216_23 hR_L_turnsOneWay ?_ ?_
      all_goals first | rfl | exact Or.inl rfl | exact Or.inr rfl | assumption | (simp_all; done) | ((repeat' split) <;> first | rfl | (simp only [Int32.lt_iff_toInt_lt, Int32.le_iff_toInt_le, Int64.lt_iff_toInt_lt, Int64.le_iff_toInt_le] at *; omega) | (simp_all; done))
theorem lx_turnsOneWay_1 {d n : Nat} {M M1 : mM} {x : Int32} (h : CT iA_turnsOneWay (d + 8) [vR 5 0 0, vI x] M (.inr tIOB) M1 n) : CT iL_turnsOneWay (d + 9) [vR 5 0 0, vI x, vR 14 0 0] M (.inl (some (vI 1))) M1 n := by
  refine ct_go hL_L_turnsOneWay rfl ?_
  have hx : AW iL_turnsOneWay (d + 8 + 1) 4 [some (vR 5 0 0), some (vI x), some (vR 14 0 0), none] [vI x, vR 5 0 0, vI 0, vR 14 0 0] M (.inl (some (vI 1))) M1 (n + 0) := by
    refine aw_callVC (as := [vI x]) (stk := [vI 0, vR 14 0 0]) (hpre := []) (hsuf := []) k216_4 hC_L_turnsOneWay ok_A_turnsOneWay sv_L_68 hH_A_turnsOneWay ⟨rfl, rfl⟩ (by decide) hN_A_turnsOneWay rfl (by rw [hL_A_turnsOneWay]; exact Nat.le_of_ble_eq_true rfl) (Nat.le_of_ble_eq_true rfl) h hH_L_turnsOneWay (fun z hz => absurd hz List.not_mem_nil) (by decide) (by decide) ck_32 cs_32 k216_19 (Nat.le_of_ble_eq_true rfl) rfl ?_
    refine aw_iconst (v := 1) k216_20 (by decide) ?_
    refine aw_ireturn k216_21 hR_L_turnsOneWay ?_ ?_
    all_goals first | rfl | exact Or.inl rfl | exact Or.inr rfl | assumption | (simp_all; done) | ((repeat' split) <;> first | rfl | (simp only [Int32.lt_iff_toInt_lt, Int32.le_iff_toInt_le, Int64.lt_iff_toInt_lt, Int64.le_iff_toInt_le] at *; omega) | (simp_all; done))
  refine aw_aload_n k216_0 rfl ?_
  refine aw_iconst (v := 0) k216_1 (by decide) ?_
  refine aw_aload_n k216_2 rfl ?_
  refine aw_iload_n k216_3 rfl ?_
  exact hx
theorem lo_sidesEastOf {d : Nat} {M M1 : mM} {x y z : Int32} {v : Int32} (h : CT iA_sidesEastOf (d + 8) [vR 5 0 0, vI x, vI y, vI z] M (.inl (some (vI v))) M1 0) : CT iL_sidesEastOf (d + 9) [vR 5 0 0, vI x, vI y, vI z, vR 14 0 0] M (.inl (some (vI 0))) (mO M1 v.toInt64) 0 := by
  refine ct_go hL_L_sidesEastOf rfl ?_
  refine aw_aload k217_0 rfl ?_
  refine aw_iconst (v := 0) k217_2 (by decide) ?_
  refine aw_aload_n k217_3 rfl ?_
  refine aw_iload_n k217_4 rfl ?_
  refine aw_iload_n k217_5 rfl ?_
  refine aw_iload_n k217_6 rfl ?_
  refine aw_callV3 k217_7 hC_L_sidesEastOf ok_A_sidesEastOf sv_L_72 hH_A_sidesEastOf ⟨rfl, rfl⟩ (by decide) hN_A_sidesEastOf (by rw [hL_A_sidesEastOf]; exact Nat.le_of_ble_eq_true rfl) (Nat.le_of_ble_eq_true rfl) h ?_
  refine aw_i2l k217_10 ?_
  refine aw_lastore k217_11 ?_
  refine aw_goto (t := 23) k217_12 (by decide) ?_
  refine aw_iconst (v := 0) k217_23 (by decide) ?_
  refine aw_ireturn k217_24 hR_L_sidesEastOf ?_ ?_
  all_goals first | rfl | exact Or.inl rfl | exact Or.inr rfl | assumption | (simp_all; done) | ((repeat' split) <;> first | rfl | (simp only [Int32.lt_iff_toInt_lt, Int32.le_iff_toInt_le, Int64.lt_iff_toInt_lt, Int64.le_iff_toInt_le] at *; omega) | (simp_all; done))
theorem lx_sidesEastOf_1 {d n : Nat} {M M1 : mM} {x y z : Int32} (h : CT iA_sidesEastOf (d + 8) [vR 5 0 0, vI x, vI y, vI z] M (.inr tIOB) M1 n) : CT iL_sidesEastOf (d + 9) [vR 5 0 0, vI x, vI y, vI z, vR 14 0 0] M (.inl (some (vI 1))) M1 n := by
  refine ct_go hL_L_sidesEastOf rfl ?_
  have hx : AW iL_sidesEastOf (d + 8 + 1) 7 [some (vR 5 0 0), some (vI x), some (vI y), some (vI z), some (vR 14 0 0), none] [vI z, vI y, vI x, vR 5 0 0, vI 0, vR 14 0 0] M (.inl (some (vI 1))) M1 (n + 0) := by
    refine aw_callVD (as := [vI x, vI y, vI z]) (stk := [vI 0, vR 14 0 0]) (hpre := []) (hsuf := [(0, 12, 19, 13)]) k217_7 hC_L_sidesEastOf ok_A_sidesEastOf sv_L_72 hH_A_sidesEastOf ⟨rfl, rfl⟩ (by decide) hN_A_sidesEastOf rfl (by rw [hL_A_sidesEastOf]; exact Nat.le_of_ble_eq_true rfl) (Nat.le_of_ble_eq_true rfl) h hH_L_sidesEastOf (fun z hz => absurd hz List.not_mem_nil) (by decide) (by decide) ck_32 cs_32 k217_15 (Nat.le_of_ble_eq_true rfl) rfl ?_
    refine aw_iconst (v := 1) k217_17 (by decide) ?_
    refine aw_ireturn k217_18 hR_L_sidesEastOf ?_ ?_
    all_goals first | rfl | exact Or.inl rfl | exact Or.inr rfl | assumption | (simp_all; done) | ((repeat' split) <;> first | rfl | (simp only [Int32.lt_iff_toInt_lt, Int32.le_iff_toInt_le, Int64.lt_iff_toInt_lt, Int64.le_iff_toInt_le] at *; omega) | (simp_all; done))
  refine aw_aload k217_0 rfl ?_
  refine aw_iconst (v := 0) k217_2 (by decide) ?_
  refine aw_aload_n k217_3 rfl ?_
  refine aw_iload_n k217_4 rfl ?_
  refine aw_iload_n k217_5 rfl ?_
  refine aw_iload_n k217_6 rfl ?_
  exact hx
theorem lx_sidesEastOf_2 {d n : Nat} {M M1 : mM} {x y z : Int32} (h : CT iA_sidesEastOf (d + 8) [vR 5 0 0, vI x, vI y, vI z] M (.inr tIAE) M1 n) : CT iL_sidesEastOf (d + 9) [vR 5 0 0, vI x, vI y, vI z, vR 14 0 0] M (.inl (some (vI 2))) M1 n := by
  refine ct_go hL_L_sidesEastOf rfl ?_
  have hx : AW iL_sidesEastOf (d + 8 + 1) 7 [some (vR 5 0 0), some (vI x), some (vI y), some (vI z), some (vR 14 0 0), none] [vI z, vI y, vI x, vR 5 0 0, vI 0, vR 14 0 0] M (.inl (some (vI 2))) M1 (n + 0) := by
    refine aw_callVD (as := [vI x, vI y, vI z]) (stk := [vI 0, vR 14 0 0]) (hpre := [(0, 12, 15, 32)]) (hsuf := []) k217_7 hC_L_sidesEastOf ok_A_sidesEastOf sv_L_72 hH_A_sidesEastOf ⟨rfl, rfl⟩ (by decide) hN_A_sidesEastOf rfl (by rw [hL_A_sidesEastOf]; exact Nat.le_of_ble_eq_true rfl) (Nat.le_of_ble_eq_true rfl) h hH_L_sidesEastOf (fun z hz => by rw [List.mem_singleton.mp hz]; exact ⟨by decide, _, ck_32, List.mem_cons_of_mem _ List.mem_cons_self⟩) (by decide) (by decide) ck_13 cs_13 k217_19 (Nat.le_of_ble_eq_true rfl) rfl ?_
    refine aw_iconst (v := 2) k217_21 (by decide) ?_
    refine aw_ireturn k217_22 hR_L_sidesEastOf ?_ ?_
    all_goals first | rfl | exact Or.inl rfl | exact Or.inr rfl | assumption | (simp_all; done) | ((repeat' split) <;> first | rfl | (simp only [Int32.lt_iff_toInt_lt, Int32.le_iff_toInt_le, Int64.lt_iff_toInt_lt, Int64.le_iff_toInt_le] at *; omega) | (simp_all; done))
  refine aw_aload k217_0 rfl ?_
  refine aw_iconst (v := 0) k217_2 (by decide) ?_
  refine aw_aload_n k217_3 rfl ?_
  refine aw_iload_n k217_4 rfl ?_
  refine aw_iload_n k217_5 rfl ?_
  refine aw_iload_n k217_6 rfl ?_
  exact hx
theorem lo_sharedSides {d : Nat} {M M1 : mM} {x y : Int32} {v : Int32} (h : CT iA_sharedSides (d + 8) [vR 5 0 0, vI x, vI y] M (.inl (some (vI v))) M1 0) : CT iL_sharedSides (d + 9) [vR 5 0 0, vI x, vI y, vR 14 0 0] M (.inl (some (vI 0))) (mO M1 v.toInt64) 0 := by
  refine ct_go hL_L_sharedSides rfl ?_
  refine aw_aload_n k218_0 rfl ?_
  refine aw_iconst (v := 0) k218_1 (by decide) ?_
  refine aw_aload_n k218_2 rfl ?_
  refine aw_iload_n k218_3 rfl ?_
  refine aw_iload_n k218_4 rfl ?_
  refine aw_callV2 k218_5 hC_L_sharedSides ok_A_sharedSides sv_L_75 hH_A_sharedSides ⟨rfl, rfl⟩ (by decide) hN_A_sharedSides (by rw [hL_A_sharedSides]; exact Nat.le_of_ble_eq_true rfl) (Nat.le_of_ble_eq_true rfl) h ?_
  refine aw_i2l k218_8 ?_
  refine aw_lastore k218_9 ?_
  refine aw_goto (t := 17) k218_10 (by decide) ?_
  refine aw_iconst (v := 0) k218_17 (by decide) ?_
  refine aw_ireturn k218_18 hR_L_sharedSides ?_ ?_
  all_goals first | rfl | exact Or.inl rfl | exact Or.inr rfl | assumption | (simp_all; done) | ((repeat' split) <;> first | rfl | (simp only [Int32.lt_iff_toInt_lt, Int32.le_iff_toInt_le, Int64.lt_iff_toInt_lt, Int64.le_iff_toInt_le] at *; omega) | (simp_all; done))
theorem lx_sharedSides_1 {d n : Nat} {M M1 : mM} {x y : Int32} (h : CT iA_sharedSides (d + 8) [vR 5 0 0, vI x, vI y] M (.inr tIOB) M1 n) : CT iL_sharedSides (d + 9) [vR 5 0 0, vI x, vI y, vR 14 0 0] M (.inl (some (vI 1))) M1 n := by
  refine ct_go hL_L_sharedSides rfl ?_
  have hx : AW iL_sharedSides (d + 8 + 1) 5 [some (vR 5 0 0), some (vI x), some (vI y), some (vR 14 0 0), none] [vI y, vI x, vR 5 0 0, vI 0, vR 14 0 0] M (.inl (some (vI 1))) M1 (n + 0) := by
    refine aw_callVD (as := [vI x, vI y]) (stk := [vI 0, vR 14 0 0]) (hpre := []) (hsuf := []) k218_5 hC_L_sharedSides ok_A_sharedSides sv_L_75 hH_A_sharedSides ⟨rfl, rfl⟩ (by decide) hN_A_sharedSides rfl (by rw [hL_A_sharedSides]; exact Nat.le_of_ble_eq_true rfl) (Nat.le_of_ble_eq_true rfl) h hH_L_sharedSides (fun z hz => absurd hz List.not_mem_nil) (by decide) (by decide) ck_32 cs_32 k218_13 (Nat.le_of_ble_eq_true rfl) rfl ?_
    refine aw_iconst (v := 1) k218_15 (by decide) ?_
    refine aw_ireturn k218_16 hR_L_sharedSides ?_ ?_
    all_goals first | rfl | exact Or.inl rfl | exact Or.inr rfl | assumption | (simp_all; done) | ((repeat' split) <;> first | rfl | (simp only [Int32.lt_iff_toInt_lt, Int32.le_iff_toInt_le, Int64.lt_iff_toInt_lt, Int64.le_iff_toInt_le] at *; omega) | (simp_all; done))
  refine aw_aload_n k218_0 rfl ?_
  refine aw_iconst (v := 0) k218_1 (by decide) ?_
  refine aw_aload_n k218_2 rfl ?_
  refine aw_iload_n k218_3 rfl ?_
  refine aw_iload_n k218_4 rfl ?_
  exact hx
theorem lo_twiceAreaByCorners {d : Nat} {M M1 : mM} {x : Int32} {v : Int64} (h : CT iA_twiceAreaByCorners (d + 8) [vR 5 0 0, vI x] M (.inl (some (vL v))) M1 0) : CT iL_twiceAreaByCorners (d + 9) [vR 5 0 0, vI x, vR 14 0 0] M (.inl (some (vI 0))) (mO M1 v) 0 := by
  refine ct_go hL_L_twiceAreaByCorners rfl ?_
  refine aw_aload_n k219_0 rfl ?_
  refine aw_iconst (v := 0) k219_1 (by decide) ?_
  refine aw_aload_n k219_2 rfl ?_
  refine aw_iload_n k219_3 rfl ?_
  refine aw_callV1 k219_4 hC_L_twiceAreaByCorners ok_A_twiceAreaByCorners sv_L_78 hH_A_twiceAreaByCorners ⟨rfl, rfl⟩ (by decide) hN_A_twiceAreaByCorners (by rw [hL_A_twiceAreaByCorners]; exact Nat.le_of_ble_eq_true rfl) (Nat.le_of_ble_eq_true rfl) h ?_
  refine aw_lastore k219_7 ?_
  refine aw_goto (t := 14) k219_8 (by decide) ?_
  refine aw_iconst (v := 0) k219_14 (by decide) ?_
  refine aw_ireturn k219_15 hR_L_twiceAreaByCorners ?_ ?_
  all_goals first | rfl | exact Or.inl rfl | exact Or.inr rfl | assumption | (simp_all; done) | ((repeat' split) <;> first | rfl | (simp only [Int32.lt_iff_toInt_lt, Int32.le_iff_toInt_le, Int64.lt_iff_toInt_lt, Int64.le_iff_toInt_le] at *; omega) | (simp_all; done))
theorem lx_twiceAreaByCorners_1 {d n : Nat} {M M1 : mM} {x : Int32} (h : CT iA_twiceAreaByCorners (d + 8) [vR 5 0 0, vI x] M (.inr tIOB) M1 n) : CT iL_twiceAreaByCorners (d + 9) [vR 5 0 0, vI x, vR 14 0 0] M (.inl (some (vI 1))) M1 n := by
  refine ct_go hL_L_twiceAreaByCorners rfl ?_
  have hx : AW iL_twiceAreaByCorners (d + 8 + 1) 4 [some (vR 5 0 0), some (vI x), some (vR 14 0 0), none] [vI x, vR 5 0 0, vI 0, vR 14 0 0] M (.inl (some (vI 1))) M1 (n + 0) := by
    refine aw_callVC (as := [vI x]) (stk := [vI 0, vR 14 0 0]) (hpre := []) (hsuf := []) k219_4 hC_L_twiceAreaByCorners ok_A_twiceAreaByCorners sv_L_78 hH_A_twiceAreaByCorners ⟨rfl, rfl⟩ (by decide) hN_A_twiceAreaByCorners rfl (by rw [hL_A_twiceAreaByCorners]; exact Nat.le_of_ble_eq_true rfl) (Nat.le_of_ble_eq_true rfl) h hH_L_twiceAreaByCorners (fun z hz => absurd hz List.not_mem_nil) (by decide) (by decide) ck_32 cs_32 k219_11 (Nat.le_of_ble_eq_true rfl) rfl ?_
    refine aw_iconst (v := 1) k219_12 (by decide) ?_
    refine aw_ireturn k219_13 hR_L_twiceAreaByCorners ?_ ?_
    all_goals first | rfl | exact Or.inl rfl | exact Or.inr rfl | assumption | (simp_all; done) | ((repeat' split) <;> first | rfl | (simp only [Int32.lt_iff_toInt_lt, Int32.le_iff_toInt_le, Int64.lt_iff_toInt_lt, Int64.le_iff_toInt_le] at *; omega) | (simp_all; done))
  refine aw_aload_n k219_0 rfl ?_
  refine aw_iconst (v := 0) k219_1 (by decide) ?_
  refine aw_aload_n k219_2 rfl ?_
  refine aw_iload_n k219_3 rfl ?_
  exact hx
theorem lo_twiceAreaByStrips {d : Nat} {M M1 : mM} {x : Int32} {v : Int64} (h : CT iA_twiceAreaByStrips (d + 8) [vR 5 0 0, vI x] M (.inl (some (vL v))) M1 0) : CT iL_twiceAreaByStrips (d + 9) [vR 5 0 0, vI x, vR 14 0 0] M (.inl (some (vI 0))) (mO M1 v) 0 := by
  refine ct_go hL_L_twiceAreaByStrips rfl ?_
  refine aw_aload_n k220_0 rfl ?_
  refine aw_iconst (v := 0) k220_1 (by decide) ?_
  refine aw_aload_n k220_2 rfl ?_
  refine aw_iload_n k220_3 rfl ?_
  refine aw_callV1 k220_4 hC_L_twiceAreaByStrips ok_A_twiceAreaByStrips sv_L_82 hH_A_twiceAreaByStrips ⟨rfl, rfl⟩ (by decide) hN_A_twiceAreaByStrips (by rw [hL_A_twiceAreaByStrips]; exact Nat.le_of_ble_eq_true rfl) (Nat.le_of_ble_eq_true rfl) h ?_
  refine aw_lastore k220_7 ?_
  refine aw_goto (t := 14) k220_8 (by decide) ?_
  refine aw_iconst (v := 0) k220_14 (by decide) ?_
  refine aw_ireturn k220_15 hR_L_twiceAreaByStrips ?_ ?_
  all_goals first | rfl | exact Or.inl rfl | exact Or.inr rfl | assumption | (simp_all; done) | ((repeat' split) <;> first | rfl | (simp only [Int32.lt_iff_toInt_lt, Int32.le_iff_toInt_le, Int64.lt_iff_toInt_lt, Int64.le_iff_toInt_le] at *; omega) | (simp_all; done))
theorem lx_twiceAreaByStrips_1 {d n : Nat} {M M1 : mM} {x : Int32} (h : CT iA_twiceAreaByStrips (d + 8) [vR 5 0 0, vI x] M (.inr tIOB) M1 n) : CT iL_twiceAreaByStrips (d + 9) [vR 5 0 0, vI x, vR 14 0 0] M (.inl (some (vI 1))) M1 n := by
  refine ct_go hL_L_twiceAreaByStrips rfl ?_
  have hx : AW iL_twiceAreaByStrips (d + 8 + 1) 4 [some (vR 5 0 0), some (vI x), some (vR 14 0 0), none] [vI x, vR 5 0 0, vI 0, vR 14 0 0] M (.inl (some (vI 1))) M1 (n + 0) := by
    refine aw_callVC (as := [vI x]) (stk := [vI 0, vR 14 0 0]) (hpre := []) (hsuf := []) k220_4 hC_L_twiceAreaByStrips ok_A_twiceAreaByStrips sv_L_82 hH_A_twiceAreaByStrips ⟨rfl, rfl⟩ (by decide) hN_A_twiceAreaByStrips rfl (by rw [hL_A_twiceAreaByStrips]; exact Nat.le_of_ble_eq_true rfl) (Nat.le_of_ble_eq_true rfl) h hH_L_twiceAreaByStrips (fun z hz => absurd hz List.not_mem_nil) (by decide) (by decide) ck_32 cs_32 k220_11 (Nat.le_of_ble_eq_true rfl) rfl ?_
    refine aw_iconst (v := 1) k220_12 (by decide) ?_
    refine aw_ireturn k220_13 hR_L_twiceAreaByStrips ?_ ?_
    all_goals first | rfl | exact Or.inl rfl | exact Or.inr rfl | assumption | (simp_all; done) | ((repeat' split) <;> first | rfl | (simp only [Int32.lt_iff_toInt_lt, Int32.le_iff_toInt_le, Int64.lt_iff_toInt_lt, Int64.le_iff_toInt_le] at *; omega) | (simp_all; done))
  refine aw_aload_n k220_0 rfl ?_
  refine aw_iconst (v := 0) k220_1 (by decide) ?_
  refine aw_aload_n k220_2 rfl ?_
  refine aw_iload_n k220_3 rfl ?_
  exact hx
theorem lo_acresOf {d : Nat} {M M1 : mM} {x : Int32} {v : Int32} (h : CT iA_acresOf (d + 8) [vR 5 0 0, vI x] M (.inl (some (vI v))) M1 0) : CT iL_acresOf (d + 9) [vR 5 0 0, vI x, vR 14 0 0] M (.inl (some (vI 0))) (mO M1 v.toInt64) 0 := by
  refine ct_go hL_L_acresOf rfl ?_
  refine aw_aload_n k221_0 rfl ?_
  refine aw_iconst (v := 0) k221_1 (by decide) ?_
  refine aw_aload_n k221_2 rfl ?_
  refine aw_iload_n k221_3 rfl ?_
  refine aw_callV1 k221_4 hC_L_acresOf ok_A_acresOf sv_L_85 hH_A_acresOf ⟨rfl, rfl⟩ (by decide) hN_A_acresOf (by rw [hL_A_acresOf]; exact Nat.le_of_ble_eq_true rfl) (Nat.le_of_ble_eq_true rfl) h ?_
  refine aw_i2l k221_7 ?_
  refine aw_lastore k221_8 ?_
  refine aw_goto (t := 15) k221_9 (by decide) ?_
  refine aw_iconst (v := 0) k221_15 (by decide) ?_
  refine aw_ireturn k221_16 hR_L_acresOf ?_ ?_
  all_goals first | rfl | exact Or.inl rfl | exact Or.inr rfl | assumption | (simp_all; done) | ((repeat' split) <;> first | rfl | (simp only [Int32.lt_iff_toInt_lt, Int32.le_iff_toInt_le, Int64.lt_iff_toInt_lt, Int64.le_iff_toInt_le] at *; omega) | (simp_all; done))
theorem lx_acresOf_1 {d n : Nat} {M M1 : mM} {x : Int32} (h : CT iA_acresOf (d + 8) [vR 5 0 0, vI x] M (.inr tIOB) M1 n) : CT iL_acresOf (d + 9) [vR 5 0 0, vI x, vR 14 0 0] M (.inl (some (vI 1))) M1 n := by
  refine ct_go hL_L_acresOf rfl ?_
  have hx : AW iL_acresOf (d + 8 + 1) 4 [some (vR 5 0 0), some (vI x), some (vR 14 0 0), none] [vI x, vR 5 0 0, vI 0, vR 14 0 0] M (.inl (some (vI 1))) M1 (n + 0) := by
    refine aw_callVC (as := [vI x]) (stk := [vI 0, vR 14 0 0]) (hpre := []) (hsuf := []) k221_4 hC_L_acresOf ok_A_acresOf sv_L_85 hH_A_acresOf ⟨rfl, rfl⟩ (by decide) hN_A_acresOf rfl (by rw [hL_A_acresOf]; exact Nat.le_of_ble_eq_true rfl) (Nat.le_of_ble_eq_true rfl) h hH_L_acresOf (fun z hz => absurd hz List.not_mem_nil) (by decide) (by decide) ck_32 cs_32 k221_12 (Nat.le_of_ble_eq_true rfl) rfl ?_
    refine aw_iconst (v := 1) k221_13 (by decide) ?_
    refine aw_ireturn k221_14 hR_L_acresOf ?_ ?_
    all_goals first | rfl | exact Or.inl rfl | exact Or.inr rfl | assumption | (simp_all; done) | ((repeat' split) <;> first | rfl | (simp only [Int32.lt_iff_toInt_lt, Int32.le_iff_toInt_le, Int64.lt_iff_toInt_lt, Int64.le_iff_toInt_le] at *; omega) | (simp_all; done))
  refine aw_aload_n k221_0 rfl ?_
  refine aw_iconst (v := 0) k221_1 (by decide) ?_
  refine aw_aload_n k221_2 rfl ?_
  refine aw_iload_n k221_3 rfl ?_
  exact hx
theorem lo_roodsOf {d : Nat} {M M1 : mM} {x : Int32} {v : Int32} (h : CT iA_roodsOf (d + 8) [vR 5 0 0, vI x] M (.inl (some (vI v))) M1 0) : CT iL_roodsOf (d + 9) [vR 5 0 0, vI x, vR 14 0 0] M (.inl (some (vI 0))) (mO M1 v.toInt64) 0 := by
  refine ct_go hL_L_roodsOf rfl ?_
  refine aw_aload_n k222_0 rfl ?_
  refine aw_iconst (v := 0) k222_1 (by decide) ?_
  refine aw_aload_n k222_2 rfl ?_
  refine aw_iload_n k222_3 rfl ?_
  refine aw_callV1 k222_4 hC_L_roodsOf ok_A_roodsOf sv_L_88 hH_A_roodsOf ⟨rfl, rfl⟩ (by decide) hN_A_roodsOf (by rw [hL_A_roodsOf]; exact Nat.le_of_ble_eq_true rfl) (Nat.le_of_ble_eq_true rfl) h ?_
  refine aw_i2l k222_7 ?_
  refine aw_lastore k222_8 ?_
  refine aw_goto (t := 15) k222_9 (by decide) ?_
  refine aw_iconst (v := 0) k222_15 (by decide) ?_
  refine aw_ireturn k222_16 hR_L_roodsOf ?_ ?_
  all_goals first | rfl | exact Or.inl rfl | exact Or.inr rfl | assumption | (simp_all; done) | ((repeat' split) <;> first | rfl | (simp only [Int32.lt_iff_toInt_lt, Int32.le_iff_toInt_le, Int64.lt_iff_toInt_lt, Int64.le_iff_toInt_le] at *; omega) | (simp_all; done))
theorem lx_roodsOf_1 {d n : Nat} {M M1 : mM} {x : Int32} (h : CT iA_roodsOf (d + 8) [vR 5 0 0, vI x] M (.inr tIOB) M1 n) : CT iL_roodsOf (d + 9) [vR 5 0 0, vI x, vR 14 0 0] M (.inl (some (vI 1))) M1 n := by
  refine ct_go hL_L_roodsOf rfl ?_
  have hx : AW iL_roodsOf (d + 8 + 1) 4 [some (vR 5 0 0), some (vI x), some (vR 14 0 0), none] [vI x, vR 5 0 0, vI 0, vR 14 0 0] M (.inl (some (vI 1))) M1 (n + 0) := by
    refine aw_callVC (as := [vI x]) (stk := [vI 0, vR 14 0 0]) (hpre := []) (hsuf := []) k222_4 hC_L_roodsOf ok_A_roodsOf sv_L_88 hH_A_roodsOf ⟨rfl, rfl⟩ (by decide) hN_A_roodsOf rfl (by rw [hL_A_roodsOf]; exact Nat.le_of_ble_eq_true rfl) (Nat.le_of_ble_eq_true rfl) h hH_L_roodsOf (fun z hz => absurd hz List.not_mem_nil) (by decide) (by decide) ck_32 cs_32 k222_12 (Nat.le_of_ble_eq_true rfl) rfl ?_
    refine aw_iconst (v := 1) k222_13 (by decide) ?_
    refine aw_ireturn k222_14 hR_L_roodsOf ?_ ?_
    all_goals first | rfl | exact Or.inl rfl | exact Or.inr rfl | assumption | (simp_all; done) | ((repeat' split) <;> first | rfl | (simp only [Int32.lt_iff_toInt_lt, Int32.le_iff_toInt_le, Int64.lt_iff_toInt_lt, Int64.le_iff_toInt_le] at *; omega) | (simp_all; done))
  refine aw_aload_n k222_0 rfl ?_
  refine aw_iconst (v := 0) k222_1 (by decide) ?_
  refine aw_aload_n k222_2 rfl ?_
  refine aw_iload_n k222_3 rfl ?_
  exact hx
theorem lo_perchesOf {d : Nat} {M M1 : mM} {x : Int32} {v : Int32} (h : CT iA_perchesOf (d + 8) [vR 5 0 0, vI x] M (.inl (some (vI v))) M1 0) : CT iL_perchesOf (d + 9) [vR 5 0 0, vI x, vR 14 0 0] M (.inl (some (vI 0))) (mO M1 v.toInt64) 0 := by
  refine ct_go hL_L_perchesOf rfl ?_
  refine aw_aload_n k223_0 rfl ?_
  refine aw_iconst (v := 0) k223_1 (by decide) ?_
  refine aw_aload_n k223_2 rfl ?_
  refine aw_iload_n k223_3 rfl ?_
  refine aw_callV1 k223_4 hC_L_perchesOf ok_A_perchesOf sv_L_91 hH_A_perchesOf ⟨rfl, rfl⟩ (by decide) hN_A_perchesOf (by rw [hL_A_perchesOf]; exact Nat.le_of_ble_eq_true rfl) (Nat.le_of_ble_eq_true rfl) h ?_
  refine aw_i2l k223_7 ?_
  refine aw_lastore k223_8 ?_
  refine aw_goto (t := 15) k223_9 (by decide) ?_
  refine aw_iconst (v := 0) k223_15 (by decide) ?_
  refine aw_ireturn k223_16 hR_L_perchesOf ?_ ?_
  all_goals first | rfl | exact Or.inl rfl | exact Or.inr rfl | assumption | (simp_all; done) | ((repeat' split) <;> first | rfl | (simp only [Int32.lt_iff_toInt_lt, Int32.le_iff_toInt_le, Int64.lt_iff_toInt_lt, Int64.le_iff_toInt_le] at *; omega) | (simp_all; done))
theorem lx_perchesOf_1 {d n : Nat} {M M1 : mM} {x : Int32} (h : CT iA_perchesOf (d + 8) [vR 5 0 0, vI x] M (.inr tIOB) M1 n) : CT iL_perchesOf (d + 9) [vR 5 0 0, vI x, vR 14 0 0] M (.inl (some (vI 1))) M1 n := by
  refine ct_go hL_L_perchesOf rfl ?_
  have hx : AW iL_perchesOf (d + 8 + 1) 4 [some (vR 5 0 0), some (vI x), some (vR 14 0 0), none] [vI x, vR 5 0 0, vI 0, vR 14 0 0] M (.inl (some (vI 1))) M1 (n + 0) := by
    refine aw_callVC (as := [vI x]) (stk := [vI 0, vR 14 0 0]) (hpre := []) (hsuf := []) k223_4 hC_L_perchesOf ok_A_perchesOf sv_L_91 hH_A_perchesOf ⟨rfl, rfl⟩ (by decide) hN_A_perchesOf rfl (by rw [hL_A_perchesOf]; exact Nat.le_of_ble_eq_true rfl) (Nat.le_of_ble_eq_true rfl) h hH_L_perchesOf (fun z hz => absurd hz List.not_mem_nil) (by decide) (by decide) ck_32 cs_32 k223_12 (Nat.le_of_ble_eq_true rfl) rfl ?_
    refine aw_iconst (v := 1) k223_13 (by decide) ?_
    refine aw_ireturn k223_14 hR_L_perchesOf ?_ ?_
    all_goals first | rfl | exact Or.inl rfl | exact Or.inr rfl | assumption | (simp_all; done) | ((repeat' split) <;> first | rfl | (simp only [Int32.lt_iff_toInt_lt, Int32.le_iff_toInt_le, Int64.lt_iff_toInt_lt, Int64.le_iff_toInt_le] at *; omega) | (simp_all; done))
  refine aw_aload_n k223_0 rfl ?_
  refine aw_iconst (v := 0) k223_1 (by decide) ?_
  refine aw_aload_n k223_2 rfl ?_
  refine aw_iload_n k223_3 rfl ?_
  exact hx
theorem lo_sheetsFor {d : Nat} {M M1 : mM} {x y : Int32} {v : Int32} (h : CT iA_sheetsFor (d + 8) [vR 5 0 0, vI x, vI y] M (.inl (some (vI v))) M1 0) : CT iL_sheetsFor (d + 9) [vR 5 0 0, vI x, vI y, vR 14 0 0] M (.inl (some (vI 0))) (mO M1 v.toInt64) 0 := by
  refine ct_go hL_L_sheetsFor rfl ?_
  refine aw_aload_n k224_0 rfl ?_
  refine aw_iconst (v := 0) k224_1 (by decide) ?_
  refine aw_aload_n k224_2 rfl ?_
  refine aw_iload_n k224_3 rfl ?_
  refine aw_iload_n k224_4 rfl ?_
  refine aw_callV2 k224_5 hC_L_sheetsFor ok_A_sheetsFor sv_L_94 hH_A_sheetsFor ⟨rfl, rfl⟩ (by decide) hN_A_sheetsFor (by rw [hL_A_sheetsFor]; exact Nat.le_of_ble_eq_true rfl) (Nat.le_of_ble_eq_true rfl) h ?_
  refine aw_i2l k224_8 ?_
  refine aw_lastore k224_9 ?_
  refine aw_goto (t := 21) k224_10 (by decide) ?_
  refine aw_iconst (v := 0) k224_21 (by decide) ?_
  refine aw_ireturn k224_22 hR_L_sheetsFor ?_ ?_
  all_goals first | rfl | exact Or.inl rfl | exact Or.inr rfl | assumption | (simp_all; done) | ((repeat' split) <;> first | rfl | (simp only [Int32.lt_iff_toInt_lt, Int32.le_iff_toInt_le, Int64.lt_iff_toInt_lt, Int64.le_iff_toInt_le] at *; omega) | (simp_all; done))
theorem lx_sheetsFor_1 {d n : Nat} {M M1 : mM} {x y : Int32} (h : CT iA_sheetsFor (d + 8) [vR 5 0 0, vI x, vI y] M (.inr tIOB) M1 n) : CT iL_sheetsFor (d + 9) [vR 5 0 0, vI x, vI y, vR 14 0 0] M (.inl (some (vI 1))) M1 n := by
  refine ct_go hL_L_sheetsFor rfl ?_
  have hx : AW iL_sheetsFor (d + 8 + 1) 5 [some (vR 5 0 0), some (vI x), some (vI y), some (vR 14 0 0), none] [vI y, vI x, vR 5 0 0, vI 0, vR 14 0 0] M (.inl (some (vI 1))) M1 (n + 0) := by
    refine aw_callVD (as := [vI x, vI y]) (stk := [vI 0, vR 14 0 0]) (hpre := []) (hsuf := [(0, 10, 17, 13)]) k224_5 hC_L_sheetsFor ok_A_sheetsFor sv_L_94 hH_A_sheetsFor ⟨rfl, rfl⟩ (by decide) hN_A_sheetsFor rfl (by rw [hL_A_sheetsFor]; exact Nat.le_of_ble_eq_true rfl) (Nat.le_of_ble_eq_true rfl) h hH_L_sheetsFor (fun z hz => absurd hz List.not_mem_nil) (by decide) (by decide) ck_32 cs_32 k224_13 (Nat.le_of_ble_eq_true rfl) rfl ?_
    refine aw_iconst (v := 1) k224_15 (by decide) ?_
    refine aw_ireturn k224_16 hR_L_sheetsFor ?_ ?_
    all_goals first | rfl | exact Or.inl rfl | exact Or.inr rfl | assumption | (simp_all; done) | ((repeat' split) <;> first | rfl | (simp only [Int32.lt_iff_toInt_lt, Int32.le_iff_toInt_le, Int64.lt_iff_toInt_lt, Int64.le_iff_toInt_le] at *; omega) | (simp_all; done))
  refine aw_aload_n k224_0 rfl ?_
  refine aw_iconst (v := 0) k224_1 (by decide) ?_
  refine aw_aload_n k224_2 rfl ?_
  refine aw_iload_n k224_3 rfl ?_
  refine aw_iload_n k224_4 rfl ?_
  exact hx
theorem lx_sheetsFor_2 {d n : Nat} {M M1 : mM} {x y : Int32} (h : CT iA_sheetsFor (d + 8) [vR 5 0 0, vI x, vI y] M (.inr tIAE) M1 n) : CT iL_sheetsFor (d + 9) [vR 5 0 0, vI x, vI y, vR 14 0 0] M (.inl (some (vI 2))) M1 n := by
  refine ct_go hL_L_sheetsFor rfl ?_
  have hx : AW iL_sheetsFor (d + 8 + 1) 5 [some (vR 5 0 0), some (vI x), some (vI y), some (vR 14 0 0), none] [vI y, vI x, vR 5 0 0, vI 0, vR 14 0 0] M (.inl (some (vI 2))) M1 (n + 0) := by
    refine aw_callVD (as := [vI x, vI y]) (stk := [vI 0, vR 14 0 0]) (hpre := [(0, 10, 13, 32)]) (hsuf := []) k224_5 hC_L_sheetsFor ok_A_sheetsFor sv_L_94 hH_A_sheetsFor ⟨rfl, rfl⟩ (by decide) hN_A_sheetsFor rfl (by rw [hL_A_sheetsFor]; exact Nat.le_of_ble_eq_true rfl) (Nat.le_of_ble_eq_true rfl) h hH_L_sheetsFor (fun z hz => by rw [List.mem_singleton.mp hz]; exact ⟨by decide, _, ck_32, List.mem_cons_of_mem _ List.mem_cons_self⟩) (by decide) (by decide) ck_13 cs_13 k224_17 (Nat.le_of_ble_eq_true rfl) rfl ?_
    refine aw_iconst (v := 2) k224_19 (by decide) ?_
    refine aw_ireturn k224_20 hR_L_sheetsFor ?_ ?_
    all_goals first | rfl | exact Or.inl rfl | exact Or.inr rfl | assumption | (simp_all; done) | ((repeat' split) <;> first | rfl | (simp only [Int32.lt_iff_toInt_lt, Int32.le_iff_toInt_le, Int64.lt_iff_toInt_lt, Int64.le_iff_toInt_le] at *; omega) | (simp_all; done))
  refine aw_aload_n k224_0 rfl ?_
  refine aw_iconst (v := 0) k224_1 (by decide) ?_
  refine aw_aload_n k224_2 rfl ?_
  refine aw_iload_n k224_3 rfl ?_
  refine aw_iload_n k224_4 rfl ?_
  exact hx
theorem lo_scaleFor {d : Nat} {M M1 : mM} {x : Int32} {v : Int32} (h : CT iA_scaleFor (d + 8) [vR 5 0 0, vI x] M (.inl (some (vI v))) M1 0) : CT iL_scaleFor (d + 9) [vR 5 0 0, vI x, vR 14 0 0] M (.inl (some (vI 0))) (mO M1 v.toInt64) 0 := by
  refine ct_go hL_L_scaleFor rfl ?_
  refine aw_aload_n k225_0 rfl ?_
  refine aw_iconst (v := 0) k225_1 (by decide) ?_
  refine aw_aload_n k225_2 rfl ?_
  refine aw_iload_n k225_3 rfl ?_
  refine aw_callV1 k225_4 hC_L_scaleFor ok_A_scaleFor sv_L_97 hH_A_scaleFor ⟨rfl, rfl⟩ (by decide) hN_A_scaleFor (by rw [hL_A_scaleFor]; exact Nat.le_of_ble_eq_true rfl) (Nat.le_of_ble_eq_true rfl) h ?_
  refine aw_i2l k225_7 ?_
  refine aw_lastore k225_8 ?_
  refine aw_goto (t := 15) k225_9 (by decide) ?_
  refine aw_iconst (v := 0) k225_15 (by decide) ?_
  refine aw_ireturn k225_16 hR_L_scaleFor ?_ ?_
  all_goals first | rfl | exact Or.inl rfl | exact Or.inr rfl | assumption | (simp_all; done) | ((repeat' split) <;> first | rfl | (simp only [Int32.lt_iff_toInt_lt, Int32.le_iff_toInt_le, Int64.lt_iff_toInt_lt, Int64.le_iff_toInt_le] at *; omega) | (simp_all; done))
theorem lx_scaleFor_1 {d n : Nat} {M M1 : mM} {x : Int32} (h : CT iA_scaleFor (d + 8) [vR 5 0 0, vI x] M (.inr tIOB) M1 n) : CT iL_scaleFor (d + 9) [vR 5 0 0, vI x, vR 14 0 0] M (.inl (some (vI 1))) M1 n := by
  refine ct_go hL_L_scaleFor rfl ?_
  have hx : AW iL_scaleFor (d + 8 + 1) 4 [some (vR 5 0 0), some (vI x), some (vR 14 0 0), none] [vI x, vR 5 0 0, vI 0, vR 14 0 0] M (.inl (some (vI 1))) M1 (n + 0) := by
    refine aw_callVC (as := [vI x]) (stk := [vI 0, vR 14 0 0]) (hpre := []) (hsuf := []) k225_4 hC_L_scaleFor ok_A_scaleFor sv_L_97 hH_A_scaleFor ⟨rfl, rfl⟩ (by decide) hN_A_scaleFor rfl (by rw [hL_A_scaleFor]; exact Nat.le_of_ble_eq_true rfl) (Nat.le_of_ble_eq_true rfl) h hH_L_scaleFor (fun z hz => absurd hz List.not_mem_nil) (by decide) (by decide) ck_32 cs_32 k225_12 (Nat.le_of_ble_eq_true rfl) rfl ?_
    refine aw_iconst (v := 1) k225_13 (by decide) ?_
    refine aw_ireturn k225_14 hR_L_scaleFor ?_ ?_
    all_goals first | rfl | exact Or.inl rfl | exact Or.inr rfl | assumption | (simp_all; done) | ((repeat' split) <;> first | rfl | (simp only [Int32.lt_iff_toInt_lt, Int32.le_iff_toInt_le, Int64.lt_iff_toInt_lt, Int64.le_iff_toInt_le] at *; omega) | (simp_all; done))
  refine aw_aload_n k225_0 rfl ?_
  refine aw_iconst (v := 0) k225_1 (by decide) ?_
  refine aw_aload_n k225_2 rfl ?_
  refine aw_iload_n k225_3 rfl ?_
  exact hx
