/-! PURE: numbers and the component's small methods -/
def cellV (M : mM) (r : mRef) (i : Int32) : Int32 := if 0 ≤ i ∧ i < nI (mLen r) then M r i.toNatClampNeg else 0
theorem cellV_at {M : mM} {r : mRef} {n : Nat} (h : n < mLen r) (hb : mLen r < 2 ^ 31) : cellV M r (nI n) = M r n := by
  unfold cellV
  rw [if_pos ⟨nI_pos' (by omega), nI_lt h hb⟩, nI_clamp (by omega)]
theorem s_A_isWithin {d : Nat} {M : mM} {x y : Int32} : CT iA_isWithin d [vI x, vI y] M (.inl (some (vI (if -y ≤ x ∧ x ≤ y then 1 else 0)))) M 0 := by
  refine ct_go hL_A_isWithin rfl ?_
  refine aw_iload_n k109_0 rfl ?_
  refine aw_iload_n k109_1 rfl ?_
  refine aw_ineg k109_2 ?_
  refine aw_icmp_lt 15 k109_3 (by decide) (fun c_3 => ?_) (fun c_3 => ?_)
  · refine aw_iconst (v := 0) k109_15 (by decide) ?_
    refine aw_zreturn k109_16 hR_A_isWithin ?_ ?_ ?_
    all_goals first | rfl | exact Or.inl rfl | exact Or.inr rfl | assumption | (simp_all; done) | ((repeat' split) <;> first | rfl | (simp only [Int32.lt_iff_toInt_lt, Int32.le_iff_toInt_le, Int64.lt_iff_toInt_lt, Int64.le_iff_toInt_le] at *; omega) | (simp_all; done))
  · refine aw_iload_n k109_6 rfl ?_
    refine aw_iload_n k109_7 rfl ?_
    refine aw_icmp_gt 15 k109_8 (by decide) (fun c_8 => ?_) (fun c_8 => ?_)
    · refine aw_iconst (v := 0) k109_15 (by decide) ?_
      refine aw_zreturn k109_16 hR_A_isWithin ?_ ?_ ?_
      all_goals first | rfl | exact Or.inl rfl | exact Or.inr rfl | assumption | (simp_all; done) | ((repeat' split) <;> first | rfl | (simp only [Int32.lt_iff_toInt_lt, Int32.le_iff_toInt_le, Int64.lt_iff_toInt_lt, Int64.le_iff_toInt_le] at *; omega) | (simp_all; done))
    · refine aw_iconst (v := 1) k109_11 (by decide) ?_
      refine aw_goto (t := 16) k109_12 (by decide) ?_
      refine aw_zreturn k109_16 hR_A_isWithin ?_ ?_ ?_
      all_goals first | rfl | exact Or.inl rfl | exact Or.inr rfl | assumption | (simp_all; done) | ((repeat' split) <;> first | rfl | (simp only [Int32.lt_iff_toInt_lt, Int32.le_iff_toInt_le, Int64.lt_iff_toInt_lt, Int64.le_iff_toInt_le] at *; omega) | (simp_all; done))
theorem s_A_cellOf {d a b c0 : Nat} {M : mM} {i : Int32} (ho : mOk (a, b, c0)) (hk : mIsI (a, b, c0) = true) (ht : mTy (a, b, c0) = .int) (hn : mLen (a, b, c0) < 2 ^ 31) : CT iA_cellOf d [vR a b c0, vI i] M (.inl (some (vI (cellV M (a, b, c0) i)))) M 0 := by
  refine ct_go hL_A_cellOf rfl ?_
  unfold cellV
  refine aw_iload_n k110_0 rfl ?_
  refine aw_if_lt 16 k110_1 (by decide) (fun c_1 => ?_) (fun c_1 => ?_)
  · refine aw_iconst (v := 0) k110_16 (by decide) ?_
    refine aw_ireturn k110_17 hR_A_cellOf ?_ ?_
    all_goals first | rfl | exact Or.inl rfl | exact Or.inr rfl | assumption | (simp_all; done) | ((repeat' split) <;> first | rfl | (simp only [Int32.lt_iff_toInt_lt, Int32.le_iff_toInt_le, Int64.lt_iff_toInt_lt, Int64.le_iff_toInt_le] at *; omega) | (simp_all; done))
  · refine aw_iload_n k110_4 rfl ?_
    refine aw_aload_n k110_5 rfl ?_
    refine aw_alen k110_6 (by first | exact ⟨rfl, rfl⟩ | exact ⟨by assumption, rfl⟩ | exact ⟨by assumption, by assumption⟩ | exact ⟨rfl, by decide⟩ | exact ⟨by assumption, by decide⟩ | exact ⟨by decide, rfl⟩ | exact ⟨by decide, by decide⟩ | exact ⟨by decide, by assumption⟩ | assumption) (by first | rfl | assumption) ?_
    refine aw_icmp_ge 16 k110_7 (by decide) (fun c_7 => ?_) (fun c_7 => ?_)
    · refine aw_iconst (v := 0) k110_16 (by decide) ?_
      refine aw_ireturn k110_17 hR_A_cellOf ?_ ?_
      all_goals first | rfl | exact Or.inl rfl | exact Or.inr rfl | assumption | (simp_all; done) | ((repeat' split) <;> first | rfl | (simp only [Int32.lt_iff_toInt_lt, Int32.le_iff_toInt_le, Int64.lt_iff_toInt_lt, Int64.le_iff_toInt_le] at *; omega) | (simp_all; done))
    · refine aw_aload_n k110_10 rfl ?_
      refine aw_iload_n k110_11 rfl ?_
      refine aw_iaload k110_12 (by first | exact ⟨rfl, rfl⟩ | exact ⟨by assumption, rfl⟩ | exact ⟨by assumption, by assumption⟩ | exact ⟨rfl, by decide⟩ | exact ⟨by assumption, by decide⟩ | exact ⟨by decide, rfl⟩ | exact ⟨by decide, by decide⟩ | exact ⟨by decide, by assumption⟩ | assumption) (by first | rfl | assumption) (by first | rfl | assumption) (by rw [vp_in_iff]; have h1 := Int32.not_lt.mp c_1; have h2 := Int32.not_le.mp c_7; rw [Int32.le_iff_toInt_le] at h1; rw [Int32.lt_iff_toInt_lt, nI_toInt hn] at h2; exact ⟨h1, h2⟩) ?_
      refine aw_goto (t := 17) k110_13 (by decide) ?_
      refine aw_ireturn k110_17 hR_A_cellOf ?_ ?_
      all_goals first | rfl | exact Or.inl rfl | exact Or.inr rfl | assumption | (simp_all; done) | ((repeat' split) <;> first | rfl | (simp only [Int32.lt_iff_toInt_lt, Int32.le_iff_toInt_le, Int64.lt_iff_toInt_lt, Int64.le_iff_toInt_le] at *; omega) | (simp_all; done))
theorem s_A_cell7 {d k w n : Nat} {M : mM} (hk : k < 7) (hw : w < 3) (hn : n < 13) : CT iA_cellOf d [vR 7 k w, vI (nI n)] M (.inl (some (vI (M (7, k, w) n)))) M 0 := by
  have h := s_A_cellOf (d := d) (M := M) (i := nI n) (show mOk (7, k, w) from ⟨hk, hw⟩) rfl rfl (by show 13 < 2 ^ 31; omega)
  rw [cellV_at (by show n < 13; omega) (by show 13 < 2 ^ 31; omega)] at h
  exact h
def iabs (x : Int32) : Int32 := if 0 ≤ x then x else -x
def labs (x : Int64) : Int64 := if 0 ≤ x then x else -x
theorem s_J_absI {d : Nat} {M : mM} {x : Int32} : CT iJ_absI d [vI x] M (.inl (some (vI (iabs x)))) M 0 := by
  refine ct_go hL_J_absI rfl ?_
  unfold iabs
  refine aw_iload_n k196_0 rfl ?_
  refine aw_if_ge 9 k196_1 (by decide) (fun c_1 => ?_) (fun c_1 => ?_)
  · refine aw_iload_n k196_9 rfl ?_
    refine aw_ireturn k196_10 hR_J_absI ?_ ?_
    all_goals first | rfl | exact Or.inl rfl | exact Or.inr rfl | assumption | (simp_all; done) | ((repeat' split) <;> first | rfl | (simp only [Int32.lt_iff_toInt_lt, Int32.le_iff_toInt_le, Int64.lt_iff_toInt_lt, Int64.le_iff_toInt_le] at *; omega) | (simp_all; done))
  · refine aw_iload_n k196_4 rfl ?_
    refine aw_ineg k196_5 ?_
    refine aw_goto (t := 10) k196_6 (by decide) ?_
    refine aw_ireturn k196_10 hR_J_absI ?_ ?_
    all_goals first | rfl | exact Or.inl rfl | exact Or.inr rfl | assumption | (simp_all; done) | ((repeat' split) <;> first | rfl | (simp only [Int32.lt_iff_toInt_lt, Int32.le_iff_toInt_le, Int64.lt_iff_toInt_lt, Int64.le_iff_toInt_le] at *; omega) | (simp_all; done))
theorem s_J_absL {d : Nat} {M : mM} {x : Int64} : CT iJ_absL d [vL x] M (.inl (some (vL (labs x)))) M 0 := by
  refine ct_go hL_J_absL rfl ?_
  unfold labs
  refine aw_lload_n k197_0 rfl ?_
  refine aw_lconst (v := 0) k197_1 (by decide) ?_
  refine aw_lcmp_ge 11 k197_2 k197_3 (by decide) (fun c_2 => ?_) (fun c_2 => ?_)
  · refine aw_lload_n k197_11 rfl ?_
    refine aw_lreturn k197_12 hR_J_absL ?_ ?_
    all_goals first | rfl | exact Or.inl rfl | exact Or.inr rfl | assumption | (simp_all; done) | ((repeat' split) <;> first | rfl | (simp only [Int32.lt_iff_toInt_lt, Int32.le_iff_toInt_le, Int64.lt_iff_toInt_lt, Int64.le_iff_toInt_le] at *; omega) | (simp_all; done))
  · refine aw_lload_n k197_6 rfl ?_
    refine aw_lneg k197_7 ?_
    refine aw_goto (t := 12) k197_8 (by decide) ?_
    refine aw_lreturn k197_12 hR_J_absL ?_ ?_
    all_goals first | rfl | exact Or.inl rfl | exact Or.inr rfl | assumption | (simp_all; done) | ((repeat' split) <;> first | rfl | (simp only [Int32.lt_iff_toInt_lt, Int32.le_iff_toInt_le, Int64.lt_iff_toInt_lt, Int64.le_iff_toInt_le] at *; omega) | (simp_all; done))
theorem s_J_max {d : Nat} {M : mM} {x y : Int32} : CT iJ_max d [vI x, vI y] M (.inl (some (vI (if x < y then y else x)))) M 0 := by
  refine ct_go hL_J_max rfl ?_
  refine aw_iload_n k198_0 rfl ?_
  refine aw_iload_n k198_1 rfl ?_
  refine aw_icmp_lt 9 k198_2 (by decide) (fun c_2 => ?_) (fun c_2 => ?_)
  · refine aw_iload_n k198_9 rfl ?_
    refine aw_ireturn k198_10 hR_J_max ?_ ?_
    all_goals first | rfl | exact Or.inl rfl | exact Or.inr rfl | assumption | (simp_all; done) | ((repeat' split) <;> first | rfl | (simp only [Int32.lt_iff_toInt_lt, Int32.le_iff_toInt_le, Int64.lt_iff_toInt_lt, Int64.le_iff_toInt_le] at *; omega) | (simp_all; done))
  · refine aw_iload_n k198_5 rfl ?_
    refine aw_goto (t := 10) k198_6 (by decide) ?_
    refine aw_ireturn k198_10 hR_J_max ?_ ?_
    all_goals first | rfl | exact Or.inl rfl | exact Or.inr rfl | assumption | (simp_all; done) | ((repeat' split) <;> first | rfl | (simp only [Int32.lt_iff_toInt_lt, Int32.le_iff_toInt_le, Int64.lt_iff_toInt_lt, Int64.le_iff_toInt_le] at *; omega) | (simp_all; done))
theorem s_J_min {d : Nat} {M : mM} {x y : Int32} : CT iJ_min d [vI x, vI y] M (.inl (some (vI (if y < x then y else x)))) M 0 := by
  refine ct_go hL_J_min rfl ?_
  refine aw_iload_n k199_0 rfl ?_
  refine aw_iload_n k199_1 rfl ?_
  refine aw_icmp_gt 9 k199_2 (by decide) (fun c_2 => ?_) (fun c_2 => ?_)
  · refine aw_iload_n k199_9 rfl ?_
    refine aw_ireturn k199_10 hR_J_min ?_ ?_
    all_goals first | rfl | exact Or.inl rfl | exact Or.inr rfl | assumption | (simp_all; done) | ((repeat' split) <;> first | rfl | (simp only [Int32.lt_iff_toInt_lt, Int32.le_iff_toInt_le, Int64.lt_iff_toInt_lt, Int64.le_iff_toInt_le] at *; omega) | (simp_all; done))
  · refine aw_iload_n k199_5 rfl ?_
    refine aw_goto (t := 10) k199_6 (by decide) ?_
    refine aw_ireturn k199_10 hR_J_min ?_ ?_
    all_goals first | rfl | exact Or.inl rfl | exact Or.inr rfl | assumption | (simp_all; done) | ((repeat' split) <;> first | rfl | (simp only [Int32.lt_iff_toInt_lt, Int32.le_iff_toInt_le, Int64.lt_iff_toInt_lt, Int64.le_iff_toInt_le] at *; omega) | (simp_all; done))
def jfloor (x y : Int64) : Int64 := if (x ^^^ y) < 0 ∧ ¬ x / y * y = x then x / y - 1 else x / y
theorem s_J_floorDiv {d : Nat} {M : mM} {x y : Int64} (hy : ¬ y = 0) : CT iJ_floorDiv d [vL x, vL y] M (.inl (some (vL (jfloor x y)))) M 0 := by
  refine ct_go hL_J_floorDiv rfl ?_
  unfold jfloor
  refine aw_lload_n k195_0 rfl ?_
  refine aw_lload_n k195_1 rfl ?_
  refine aw_ldiv k195_2 hy ?_
  refine aw_lstore k195_3 (Nat.le_of_ble_eq_true rfl) rfl ?_
  refine aw_lload_n k195_5 rfl ?_
  refine aw_lload_n k195_6 rfl ?_
  refine aw_lxor k195_7 ?_
  refine aw_lconst (v := 0) k195_8 (by decide) ?_
  refine aw_lcmp_ge 27 k195_9 k195_10 (by decide) (fun c_9 => ?_) (fun c_9 => ?_)
  · refine aw_lload k195_27 rfl ?_
    refine aw_lreturn k195_29 hR_J_floorDiv ?_ ?_
    all_goals first | rfl | exact Or.inl rfl | exact Or.inr rfl | assumption | (simp_all; done) | ((repeat' split) <;> first | rfl | (simp only [Int32.lt_iff_toInt_lt, Int32.le_iff_toInt_le, Int64.lt_iff_toInt_lt, Int64.le_iff_toInt_le] at *; omega) | (simp_all; done))
  · refine aw_lload k195_13 rfl ?_
    refine aw_lload_n k195_15 rfl ?_
    refine aw_lmul k195_16 ?_
    refine aw_lload_n k195_17 rfl ?_
    refine aw_lcmp_eq 27 k195_18 k195_19 (by decide) (fun c_18 => ?_) (fun c_18 => ?_)
    · refine aw_lload k195_27 rfl ?_
      refine aw_lreturn k195_29 hR_J_floorDiv ?_ ?_
      all_goals first | rfl | exact Or.inl rfl | exact Or.inr rfl | assumption | (simp_all; done) | ((repeat' split) <;> first | rfl | (simp only [Int32.lt_iff_toInt_lt, Int32.le_iff_toInt_le, Int64.lt_iff_toInt_lt, Int64.le_iff_toInt_le] at *; omega) | (simp_all; done))
    · refine aw_lload k195_22 rfl ?_
      refine aw_lconst (v := 1) k195_24 (by decide) ?_
      refine aw_lsub k195_25 ?_
      refine aw_lreturn k195_26 hR_J_floorDiv ?_ ?_
      all_goals first | rfl | exact Or.inl rfl | exact Or.inr rfl | assumption | (simp_all; done) | ((repeat' split) <;> first | rfl | (simp only [Int32.lt_iff_toInt_lt, Int32.le_iff_toInt_le, Int64.lt_iff_toInt_lt, Int64.le_iff_toInt_le] at *; omega) | (simp_all; done))
/-! the traverse -/
theorem s_T_hasCorner {d k : Nat} {M : mM} {x : Int32} (hk : k < 7) : CT iT_hasCorner d [vR 4 k 0, vI x] M (.inl (some (vI (if 0 ≤ x ∧ x ≤ M (4, k, 0) 5 then 1 else 0)))) M 0 := by
  refine ct_go hL_T_hasCorner rfl ?_
  refine aw_iload_n k58_0 rfl ?_
  refine aw_if_lt 16 k58_1 (by decide) (fun c_1 => ?_) (fun c_1 => ?_)
  · refine aw_iconst (v := 0) k58_16 (by decide) ?_
    refine aw_zreturn k58_17 hR_T_hasCorner ?_ ?_ ?_
    all_goals first | rfl | exact Or.inl rfl | exact Or.inr rfl | assumption | (simp_all; done) | ((repeat' split) <;> first | rfl | (simp only [Int32.lt_iff_toInt_lt, Int32.le_iff_toInt_le, Int64.lt_iff_toInt_lt, Int64.le_iff_toInt_le] at *; omega) | (simp_all; done))
  · refine aw_iload_n k58_4 rfl ?_
    refine aw_aload_n k58_5 rfl ?_
    refine aw_getI k58_6 hC_T_hasCorner fs_T_34 (by decide) ⟨(by first | assumption | decide), rfl⟩ rfl ?_
    refine aw_icmp_gt 16 k58_9 (by decide) (fun c_9 => ?_) (fun c_9 => ?_)
    · refine aw_iconst (v := 0) k58_16 (by decide) ?_
      refine aw_zreturn k58_17 hR_T_hasCorner ?_ ?_ ?_
      all_goals first | rfl | exact Or.inl rfl | exact Or.inr rfl | assumption | (simp_all; done) | ((repeat' split) <;> first | rfl | (simp only [Int32.lt_iff_toInt_lt, Int32.le_iff_toInt_le, Int64.lt_iff_toInt_lt, Int64.le_iff_toInt_le] at *; omega) | (simp_all; done))
    · refine aw_iconst (v := 1) k58_12 (by decide) ?_
      refine aw_goto (t := 17) k58_13 (by decide) ?_
      refine aw_zreturn k58_17 hR_T_hasCorner ?_ ?_ ?_
      all_goals first | rfl | exact Or.inl rfl | exact Or.inr rfl | assumption | (simp_all; done) | ((repeat' split) <;> first | rfl | (simp only [Int32.lt_iff_toInt_lt, Int32.le_iff_toInt_le, Int64.lt_iff_toInt_lt, Int64.le_iff_toInt_le] at *; omega) | (simp_all; done))
theorem s_T_measuredLength {d k n : Nat} {M : mM} (hk : k < 7) (hn : n < 13) (h : M (4, k, 0) 5 = nI n) : CT iT_measuredLength (d + 1) [vR 4 k 0] M (.inl (some (vI (M (7, k, 2) n)))) M 0 := by
  refine ct_go hL_T_measuredLength rfl ?_
  refine aw_aload_n k59_0 rfl ?_
  refine aw_getR k59_1 hC_T_measuredLength fs_T_18 (by decide) ⟨(by first | assumption | decide), rfl⟩ rfl ?_
  refine aw_aload_n k59_4 rfl ?_
  refine aw_getI k59_5 hC_T_measuredLength fs_T_34 (by decide) ⟨(by first | assumption | decide), rfl⟩ rfl ?_
  rw [h]
  refine aw_callN2 k59_8 hC_T_measuredLength ok_A_cellOf sn_T_37 hH_A_cellOf (by rw [hL_A_cellOf]; exact Nat.le_of_ble_eq_true rfl) (Nat.le_of_ble_eq_true rfl) (s_A_cell7 hk (by decide) hn) ?_
  refine aw_ireturn k59_11 hR_T_measuredLength ?_ ?_
  all_goals first | rfl | exact Or.inl rfl | exact Or.inr rfl | assumption | (simp_all; done) | ((repeat' split) <;> first | rfl | (simp only [Int32.lt_iff_toInt_lt, Int32.le_iff_toInt_le, Int64.lt_iff_toInt_lt, Int64.le_iff_toInt_le] at *; omega) | (simp_all; done))
theorem s_T_closingEast {d k n : Nat} {M : mM} (hk : k < 7) (hn : n < 13) (h : M (4, k, 0) 5 = nI n) : CT iT_closingEast (d + 1) [vR 4 k 0] M (.inl (some (vI (M (7, k, 0) n)))) M 0 := by
  refine ct_go hL_T_closingEast rfl ?_
  refine aw_aload_n k60_0 rfl ?_
  refine aw_getR k60_1 hC_T_closingEast fs_T_9 (by decide) ⟨(by first | assumption | decide), rfl⟩ rfl ?_
  refine aw_aload_n k60_4 rfl ?_
  refine aw_getI k60_5 hC_T_closingEast fs_T_34 (by decide) ⟨(by first | assumption | decide), rfl⟩ rfl ?_
  rw [h]
  refine aw_callN2 k60_8 hC_T_closingEast ok_A_cellOf sn_T_37 hH_A_cellOf (by rw [hL_A_cellOf]; exact Nat.le_of_ble_eq_true rfl) (Nat.le_of_ble_eq_true rfl) (s_A_cell7 hk (by decide) hn) ?_
  refine aw_ireturn k60_11 hR_T_closingEast ?_ ?_
  all_goals first | rfl | exact Or.inl rfl | exact Or.inr rfl | assumption | (simp_all; done) | ((repeat' split) <;> first | rfl | (simp only [Int32.lt_iff_toInt_lt, Int32.le_iff_toInt_le, Int64.lt_iff_toInt_lt, Int64.le_iff_toInt_le] at *; omega) | (simp_all; done))
theorem s_T_closingNorth {d k n : Nat} {M : mM} (hk : k < 7) (hn : n < 13) (h : M (4, k, 0) 5 = nI n) : CT iT_closingNorth (d + 1) [vR 4 k 0] M (.inl (some (vI (M (7, k, 1) n)))) M 0 := by
  refine ct_go hL_T_closingNorth rfl ?_
  refine aw_aload_n k61_0 rfl ?_
  refine aw_getR k61_1 hC_T_closingNorth fs_T_15 (by decide) ⟨(by first | assumption | decide), rfl⟩ rfl ?_
  refine aw_aload_n k61_4 rfl ?_
  refine aw_getI k61_5 hC_T_closingNorth fs_T_34 (by decide) ⟨(by first | assumption | decide), rfl⟩ rfl ?_
  rw [h]
  refine aw_callN2 k61_8 hC_T_closingNorth ok_A_cellOf sn_T_37 hH_A_cellOf (by rw [hL_A_cellOf]; exact Nat.le_of_ble_eq_true rfl) (Nat.le_of_ble_eq_true rfl) (s_A_cell7 hk (by decide) hn) ?_
  refine aw_ireturn k61_11 hR_T_closingNorth ?_ ?_
  all_goals first | rfl | exact Or.inl rfl | exact Or.inr rfl | assumption | (simp_all; done) | ((repeat' split) <;> first | rfl | (simp only [Int32.lt_iff_toInt_lt, Int32.le_iff_toInt_le, Int64.lt_iff_toInt_lt, Int64.le_iff_toInt_le] at *; omega) | (simp_all; done))
def tCloses (M : mM) (k n : Nat) : Int32 := if 200 * (iabs (M (7, k, 0) n) + iabs (M (7, k, 1) n)) ≤ M (7, k, 2) n then 1 else 0
theorem s_T_closesWell {d k n : Nat} {M : mM} (hk : k < 7) (hn : n < 13) (h : M (4, k, 0) 5 = nI n) : CT iT_closesWell (d + 2) [vR 4 k 0] M (.inl (some (vI (tCloses M k n)))) M 0 := by
  refine ct_go hL_T_closesWell rfl ?_
  unfold tCloses
  refine aw_aload_n k62_0 rfl ?_
  refine aw_callV0 k62_1 hC_T_closesWell ok_T_closingEast sv_T_41 hH_T_closingEast ⟨(by first | assumption | decide), rfl⟩ (by decide) hN_T_closingEast (by rw [hL_T_closingEast]; exact Nat.le_of_ble_eq_true rfl) (Nat.le_of_ble_eq_true rfl) (s_T_closingEast hk hn h) ?_
  refine aw_callS1 k62_4 hC_T_closesWell ok_J_absI ss_T_45 hH_J_absI (by rw [hL_J_absI]; exact Nat.le_of_ble_eq_true rfl) (Nat.le_of_ble_eq_true rfl) s_J_absI ?_
  refine aw_aload_n k62_7 rfl ?_
  refine aw_callV0 k62_8 hC_T_closesWell ok_T_closingNorth sv_T_51 hH_T_closingNorth ⟨(by first | assumption | decide), rfl⟩ (by decide) hN_T_closingNorth (by rw [hL_T_closingNorth]; exact Nat.le_of_ble_eq_true rfl) (Nat.le_of_ble_eq_true rfl) (s_T_closingNorth hk hn h) ?_
  refine aw_callS1 k62_11 hC_T_closesWell ok_J_absI ss_T_45 hH_J_absI (by rw [hL_J_absI]; exact Nat.le_of_ble_eq_true rfl) (Nat.le_of_ble_eq_true rfl) s_J_absI ?_
  refine aw_iadd k62_14 ?_
  refine aw_istore_n k62_15 (Nat.le_of_ble_eq_true rfl) rfl ?_
  refine aw_sipush (v := 200) k62_16 (by decide) ?_
  refine aw_iload_n k62_19 rfl ?_
  refine aw_imul k62_20 ?_
  refine aw_aload_n k62_21 rfl ?_
  refine aw_callV0 k62_22 hC_T_closesWell ok_T_measuredLength sv_T_54 hH_T_measuredLength ⟨(by first | assumption | decide), rfl⟩ (by decide) hN_T_measuredLength (by rw [hL_T_measuredLength]; exact Nat.le_of_ble_eq_true rfl) (Nat.le_of_ble_eq_true rfl) (s_T_measuredLength hk hn h) ?_
  refine aw_icmp_gt 32 k62_25 (by decide) (fun c_25 => ?_) (fun c_25 => ?_)
  · refine aw_iconst (v := 0) k62_32 (by decide) ?_
    refine aw_zreturn k62_33 hR_T_closesWell ?_ ?_ ?_
    all_goals first | rfl | exact Or.inl rfl | exact Or.inr rfl | assumption | (simp_all; done) | ((repeat' split) <;> first | rfl | (simp only [Int32.lt_iff_toInt_lt, Int32.le_iff_toInt_le, Int64.lt_iff_toInt_lt, Int64.le_iff_toInt_le] at *; omega) | (simp_all; done))
  · refine aw_iconst (v := 1) k62_28 (by decide) ?_
    refine aw_goto (t := 33) k62_29 (by decide) ?_
    refine aw_zreturn k62_33 hR_T_closesWell ?_ ?_ ?_
    all_goals first | rfl | exact Or.inl rfl | exact Or.inr rfl | assumption | (simp_all; done) | ((repeat' split) <;> first | rfl | (simp only [Int32.lt_iff_toInt_lt, Int32.le_iff_toInt_le, Int64.lt_iff_toInt_lt, Int64.le_iff_toInt_le] at *; omega) | (simp_all; done))
def tShare (M : mM) (k n c : Nat) (err : Int32) : Int32 := if 0 < (M (7, k, 2) n).toInt64 then (jfloor (err.toInt64 * (M (7, k, 2) c).toInt64) (M (7, k, 2) n).toInt64).toInt32 else 0
theorem s_T_shareOf {d k n c : Nat} {M : mM} {err : Int32} (hk : k < 7) (hn : n < 13) (h : M (4, k, 0) 5 = nI n) (hc : c < 13) : CT iT_shareOf (d + 2) [vR 4 k 0, vI err, vI (nI c)] M (.inl (some (vI (tShare M k n c err)))) M 0 := by
  refine ct_go hL_T_shareOf rfl ?_
  unfold tShare
  refine aw_aload_n k65_0 rfl ?_
  refine aw_getR k65_1 hC_T_shareOf fs_T_18 (by decide) ⟨(by first | assumption | decide), rfl⟩ rfl ?_
  refine aw_aload_n k65_4 rfl ?_
  refine aw_getI k65_5 hC_T_shareOf fs_T_34 (by decide) ⟨(by first | assumption | decide), rfl⟩ rfl ?_
  rw [h]
  refine aw_callN2 k65_8 hC_T_shareOf ok_A_cellOf sn_T_37 hH_A_cellOf (by rw [hL_A_cellOf]; exact Nat.le_of_ble_eq_true rfl) (Nat.le_of_ble_eq_true rfl) (s_A_cell7 hk (by decide) hn) ?_
  refine aw_i2l k65_11 ?_
  refine aw_lstore_n k65_12 (Nat.le_of_ble_eq_true rfl) rfl ?_
  refine aw_lload_n k65_13 rfl ?_
  refine aw_lconst (v := 0) k65_14 (by decide) ?_
  refine aw_lcmp_gt 21 k65_15 k65_16 (by decide) (fun c_15 => ?_) (fun c_15 => ?_)
  · refine aw_iload_n k65_21 rfl ?_
    refine aw_i2l k65_22 ?_
    refine aw_aload_n k65_23 rfl ?_
    refine aw_getR k65_24 hC_T_shareOf fs_T_18 (by decide) ⟨(by first | assumption | decide), rfl⟩ rfl ?_
    refine aw_iload_n k65_27 rfl ?_
    refine aw_callN2 k65_28 hC_T_shareOf ok_A_cellOf sn_T_37 hH_A_cellOf (by rw [hL_A_cellOf]; exact Nat.le_of_ble_eq_true rfl) (Nat.le_of_ble_eq_true rfl) (s_A_cell7 hk (by decide) hc) ?_
    refine aw_i2l k65_31 ?_
    refine aw_lmul k65_32 ?_
    refine aw_lstore k65_33 (Nat.le_of_ble_eq_true rfl) rfl ?_
    refine aw_lload k65_35 rfl ?_
    refine aw_lload_n k65_37 rfl ?_
    refine aw_callS2 k65_38 hC_T_shareOf ok_J_floorDiv ss_T_61 hH_J_floorDiv (by rw [hL_J_floorDiv]; exact Nat.le_of_ble_eq_true rfl) (Nat.le_of_ble_eq_true rfl) (s_J_floorDiv (fun q => by rw [q] at c_15; exact absurd c_15 (by decide))) ?_
    refine aw_l2i k65_41 ?_
    refine aw_ireturn k65_42 hR_T_shareOf ?_ ?_
    all_goals first | rfl | exact Or.inl rfl | exact Or.inr rfl | assumption | (simp_all; done) | ((repeat' split) <;> first | rfl | (simp only [Int32.lt_iff_toInt_lt, Int32.le_iff_toInt_le, Int64.lt_iff_toInt_lt, Int64.le_iff_toInt_le] at *; omega) | (simp_all; done))
  · refine aw_iconst (v := 0) k65_19 (by decide) ?_
    refine aw_ireturn k65_20 hR_T_shareOf ?_ ?_
    all_goals first | rfl | exact Or.inl rfl | exact Or.inr rfl | assumption | (simp_all; done) | ((repeat' split) <;> first | rfl | (simp only [Int32.lt_iff_toInt_lt, Int32.le_iff_toInt_le, Int64.lt_iff_toInt_lt, Int64.le_iff_toInt_le] at *; omega) | (simp_all; done))
def tAdj (M : mM) (k n c w : Nat) : Int32 := M (4, k, 0) (3 + w) + M (7, k, w) c - tShare M k n c (M (7, k, w) n)
theorem s_T_adjustedEastAt {d k n c : Nat} {M : mM} (hk : k < 7) (hn : n < 13) (h : M (4, k, 0) 5 = nI n) (hc : c < 13) : CT iT_adjustedEastAt (d + 3) [vR 4 k 0, vI (nI c)] M (.inl (some (vI (tAdj M k n c 0)))) M 0 := by
  refine ct_go hL_T_adjustedEastAt rfl ?_
  refine aw_aload_n k63_0 rfl ?_
  refine aw_getI k63_1 hC_T_adjustedEastAt fs_T_27 (by decide) ⟨(by first | assumption | decide), rfl⟩ rfl ?_
  refine aw_aload_n k63_4 rfl ?_
  refine aw_getR k63_5 hC_T_adjustedEastAt fs_T_9 (by decide) ⟨(by first | assumption | decide), rfl⟩ rfl ?_
  refine aw_iload_n k63_8 rfl ?_
  refine aw_callN2 k63_9 hC_T_adjustedEastAt ok_A_cellOf sn_T_37 hH_A_cellOf (by rw [hL_A_cellOf]; exact Nat.le_of_ble_eq_true rfl) (Nat.le_of_ble_eq_true rfl) (s_A_cell7 hk (by decide) hc) ?_
  refine aw_iadd k63_12 ?_
  refine aw_aload_n k63_13 rfl ?_
  refine aw_aload_n k63_14 rfl ?_
  refine aw_callV0 k63_15 hC_T_adjustedEastAt ok_T_closingEast sv_T_41 hH_T_closingEast ⟨(by first | assumption | decide), rfl⟩ (by decide) hN_T_closingEast (by rw [hL_T_closingEast]; exact Nat.le_of_ble_eq_true rfl) (Nat.le_of_ble_eq_true rfl) (s_T_closingEast hk hn h) ?_
  refine aw_iload_n k63_18 rfl ?_
  refine aw_callV2 k63_19 hC_T_adjustedEastAt ok_T_shareOf sv_T_57 hH_T_shareOf ⟨(by first | assumption | decide), rfl⟩ (by decide) hN_T_shareOf (by rw [hL_T_shareOf]; exact Nat.le_of_ble_eq_true rfl) (Nat.le_of_ble_eq_true rfl) (s_T_shareOf hk hn h hc) ?_
  refine aw_isub k63_22 ?_
  refine aw_ireturn k63_23 hR_T_adjustedEastAt ?_ ?_
  all_goals first | rfl | exact Or.inl rfl | exact Or.inr rfl | assumption | (simp_all; done) | ((repeat' split) <;> first | rfl | (simp only [Int32.lt_iff_toInt_lt, Int32.le_iff_toInt_le, Int64.lt_iff_toInt_lt, Int64.le_iff_toInt_le] at *; omega) | (simp_all; done))
theorem s_T_adjustedNorthAt {d k n c : Nat} {M : mM} (hk : k < 7) (hn : n < 13) (h : M (4, k, 0) 5 = nI n) (hc : c < 13) : CT iT_adjustedNorthAt (d + 3) [vR 4 k 0, vI (nI c)] M (.inl (some (vI (tAdj M k n c 1)))) M 0 := by
  refine ct_go hL_T_adjustedNorthAt rfl ?_
  refine aw_aload_n k64_0 rfl ?_
  refine aw_getI k64_1 hC_T_adjustedNorthAt fs_T_31 (by decide) ⟨(by first | assumption | decide), rfl⟩ rfl ?_
  refine aw_aload_n k64_4 rfl ?_
  refine aw_getR k64_5 hC_T_adjustedNorthAt fs_T_15 (by decide) ⟨(by first | assumption | decide), rfl⟩ rfl ?_
  refine aw_iload_n k64_8 rfl ?_
  refine aw_callN2 k64_9 hC_T_adjustedNorthAt ok_A_cellOf sn_T_37 hH_A_cellOf (by rw [hL_A_cellOf]; exact Nat.le_of_ble_eq_true rfl) (Nat.le_of_ble_eq_true rfl) (s_A_cell7 hk (by decide) hc) ?_
  refine aw_iadd k64_12 ?_
  refine aw_aload_n k64_13 rfl ?_
  refine aw_aload_n k64_14 rfl ?_
  refine aw_callV0 k64_15 hC_T_adjustedNorthAt ok_T_closingNorth sv_T_51 hH_T_closingNorth ⟨(by first | assumption | decide), rfl⟩ (by decide) hN_T_closingNorth (by rw [hL_T_closingNorth]; exact Nat.le_of_ble_eq_true rfl) (Nat.le_of_ble_eq_true rfl) (s_T_closingNorth hk hn h) ?_
  refine aw_iload_n k64_18 rfl ?_
  refine aw_callV2 k64_19 hC_T_adjustedNorthAt ok_T_shareOf sv_T_57 hH_T_shareOf ⟨(by first | assumption | decide), rfl⟩ (by decide) hN_T_shareOf (by rw [hL_T_shareOf]; exact Nat.le_of_ble_eq_true rfl) (Nat.le_of_ble_eq_true rfl) (s_T_shareOf hk hn h hc) ?_
  refine aw_isub k64_22 ?_
  refine aw_ireturn k64_23 hR_T_adjustedNorthAt ?_ ?_
  all_goals first | rfl | exact Or.inl rfl | exact Or.inr rfl | assumption | (simp_all; done) | ((repeat' split) <;> first | rfl | (simp only [Int32.lt_iff_toInt_lt, Int32.le_iff_toInt_le, Int64.lt_iff_toInt_lt, Int64.le_iff_toInt_le] at *; omega) | (simp_all; done))
def tCopy (M : mM) (k k' : Nat) : mM :=
  let M1 := mCpy (mCpy (mCpy M (7, k', 0) (7, k, 0) 13) (7, k', 1) (7, k, 1) 13) (7, k', 2) (7, k, 2) 13
  let M2 := mUp M1 (4, k, 0) 3 (M1 (4, k', 0) 3)
  let M3 := mUp M2 (4, k, 0) 4 (M2 (4, k', 0) 4)
  mUp M3 (4, k, 0) 5 (M3 (4, k', 0) 5)
theorem s_T_copyFrom {d k k' : Nat} {M : mM} (hk : k < 7) (hk' : k' < 7) : CT iT_copyFrom (d + 1) [vR 4 k 0, vR 4 k' 0] M (.inl none) (tCopy M k k') 0 := by
  refine ct_go hL_T_copyFrom rfl ?_
  refine aw_aload_n k53_0 rfl ?_
  refine aw_getR k53_1 hC_T_copyFrom fs_T_9 (by decide) ⟨(by first | assumption | decide), rfl⟩ rfl ?_
  refine aw_iconst (v := 0) k53_4 (by decide) ?_
  refine aw_aload_n k53_5 rfl ?_
  refine aw_getR k53_6 hC_T_copyFrom fs_T_9 (by decide) ⟨(by first | assumption | decide), rfl⟩ rfl ?_
  refine aw_iconst (v := 0) k53_9 (by decide) ?_
  refine aw_bipush (v := 13) k53_10 (by decide) ?_
  refine aw_acopy (k := 13) k53_12 hC_T_copyFrom ac_T_21 hAC (by first | exact ⟨rfl, rfl⟩ | exact ⟨by assumption, rfl⟩ | exact ⟨by assumption, by assumption⟩ | exact ⟨rfl, by decide⟩ | exact ⟨by assumption, by decide⟩ | exact ⟨by decide, rfl⟩ | exact ⟨by decide, by decide⟩ | exact ⟨by decide, by assumption⟩ | assumption) (by first | exact ⟨rfl, rfl⟩ | exact ⟨by assumption, rfl⟩ | exact ⟨by assumption, by assumption⟩ | exact ⟨rfl, by decide⟩ | exact ⟨by assumption, by decide⟩ | exact ⟨by decide, rfl⟩ | exact ⟨by decide, by decide⟩ | exact ⟨by decide, by assumption⟩ | assumption) rfl rfl rfl rfl (Nat.le_of_ble_eq_true rfl) (Nat.le_of_ble_eq_true rfl) (by decide) (Nat.le_of_ble_eq_true rfl) ?_
  refine aw_aload_n k53_15 rfl ?_
  refine aw_getR k53_16 hC_T_copyFrom fs_T_15 (by decide) ⟨(by first | assumption | decide), rfl⟩ rfl ?_
  refine aw_iconst (v := 0) k53_19 (by decide) ?_
  refine aw_aload_n k53_20 rfl ?_
  refine aw_getR k53_21 hC_T_copyFrom fs_T_15 (by decide) ⟨(by first | assumption | decide), rfl⟩ rfl ?_
  refine aw_iconst (v := 0) k53_24 (by decide) ?_
  refine aw_bipush (v := 13) k53_25 (by decide) ?_
  refine aw_acopy (k := 13) k53_27 hC_T_copyFrom ac_T_21 hAC (by first | exact ⟨rfl, rfl⟩ | exact ⟨by assumption, rfl⟩ | exact ⟨by assumption, by assumption⟩ | exact ⟨rfl, by decide⟩ | exact ⟨by assumption, by decide⟩ | exact ⟨by decide, rfl⟩ | exact ⟨by decide, by decide⟩ | exact ⟨by decide, by assumption⟩ | assumption) (by first | exact ⟨rfl, rfl⟩ | exact ⟨by assumption, rfl⟩ | exact ⟨by assumption, by assumption⟩ | exact ⟨rfl, by decide⟩ | exact ⟨by assumption, by decide⟩ | exact ⟨by decide, rfl⟩ | exact ⟨by decide, by decide⟩ | exact ⟨by decide, by assumption⟩ | assumption) rfl rfl rfl rfl (Nat.le_of_ble_eq_true rfl) (Nat.le_of_ble_eq_true rfl) (by decide) (Nat.le_of_ble_eq_true rfl) ?_
  refine aw_aload_n k53_30 rfl ?_
  refine aw_getR k53_31 hC_T_copyFrom fs_T_18 (by decide) ⟨(by first | assumption | decide), rfl⟩ rfl ?_
  refine aw_iconst (v := 0) k53_34 (by decide) ?_
  refine aw_aload_n k53_35 rfl ?_
  refine aw_getR k53_36 hC_T_copyFrom fs_T_18 (by decide) ⟨(by first | assumption | decide), rfl⟩ rfl ?_
  refine aw_iconst (v := 0) k53_39 (by decide) ?_
  refine aw_bipush (v := 13) k53_40 (by decide) ?_
  refine aw_acopy (k := 13) k53_42 hC_T_copyFrom ac_T_21 hAC (by first | exact ⟨rfl, rfl⟩ | exact ⟨by assumption, rfl⟩ | exact ⟨by assumption, by assumption⟩ | exact ⟨rfl, by decide⟩ | exact ⟨by assumption, by decide⟩ | exact ⟨by decide, rfl⟩ | exact ⟨by decide, by decide⟩ | exact ⟨by decide, by assumption⟩ | assumption) (by first | exact ⟨rfl, rfl⟩ | exact ⟨by assumption, rfl⟩ | exact ⟨by assumption, by assumption⟩ | exact ⟨rfl, by decide⟩ | exact ⟨by assumption, by decide⟩ | exact ⟨by decide, rfl⟩ | exact ⟨by decide, by decide⟩ | exact ⟨by decide, by assumption⟩ | assumption) rfl rfl rfl rfl (Nat.le_of_ble_eq_true rfl) (Nat.le_of_ble_eq_true rfl) (by decide) (Nat.le_of_ble_eq_true rfl) ?_
  refine aw_aload_n k53_45 rfl ?_
  refine aw_aload_n k53_46 rfl ?_
  refine aw_getI k53_47 hC_T_copyFrom fs_T_27 (by decide) ⟨(by first | assumption | decide), rfl⟩ rfl ?_
  refine aw_putI k53_50 hC_T_copyFrom fs_T_27 (by decide) ⟨(by first | assumption | decide), rfl⟩ rfl po_4_3 ?_
  refine aw_aload_n k53_53 rfl ?_
  refine aw_aload_n k53_54 rfl ?_
  refine aw_getI k53_55 hC_T_copyFrom fs_T_31 (by decide) ⟨(by first | assumption | decide), rfl⟩ rfl ?_
  refine aw_putI k53_58 hC_T_copyFrom fs_T_31 (by decide) ⟨(by first | assumption | decide), rfl⟩ rfl po_4_4 ?_
  refine aw_aload_n k53_61 rfl ?_
  refine aw_aload_n k53_62 rfl ?_
  refine aw_getI k53_63 hC_T_copyFrom fs_T_34 (by decide) ⟨(by first | assumption | decide), rfl⟩ rfl ?_
  refine aw_putI k53_66 hC_T_copyFrom fs_T_34 (by decide) ⟨(by first | assumption | decide), rfl⟩ rfl po_4_5 ?_
  refine aw_return k53_69 hR_T_copyFrom ?_
  all_goals first | rfl | exact Or.inl rfl | exact Or.inr rfl | assumption | (simp_all; done) | ((repeat' split) <;> first | rfl | (simp only [Int32.lt_iff_toInt_lt, Int32.le_iff_toInt_le, Int64.lt_iff_toInt_lt, Int64.le_iff_toInt_le] at *; omega) | (simp_all; done))
def tApp (M : mM) (k n : Nat) (e o l : Int32) : mM :=
  let M1 := mUp M (7, k, 0) (n + 1) (M (7, k, 0) n + e)
  let M2 := mUp M1 (7, k, 1) (n + 1) (M1 (7, k, 1) n + o)
  let M3 := mUp M2 (7, k, 2) (n + 1) (M2 (7, k, 2) n + l)
  mUp M3 (4, k, 0) 5 (nI (n + 1))
theorem mUp_at {M : mM} {r r' : mRef} {k k' : Nat} {v : Int32} : mUp M r k v r' k' = if r' = r ∧ k' = k then v else M r' k' := rfl
theorem mCpy_at {M : mM} {a b r' : mRef} {n k' : Nat} : mCpy M a b n r' k' = if r' = b ∧ k' < n then M a k' else M r' k' := rfl
theorem s_T_append {d k n : Nat} {M : mM} {x1 x2 x3 : Int32} (hk : k < 7) (hn : n < 12) (h : M (4, k, 0) 5 = nI n) : CT iT_append d [vR 4 k 0, vI x1, vI x2, vI x3] M (.inl (some (vI 1))) (tApp M k n x1 x2 x3) 0 := by
  refine ct_go hL_T_append rfl ?_
  have h0 : ¬ nI n < 0 := nI_pos (by omega)
  have h12 : nI n < 12 := nI_lt (a := n) (b := 12) hn (by omega)
  have hc : (nI n).toNatClampNeg = n := nI_clamp (by omega)
  have hc1 : (nI (n + 1)).toNatClampNeg = n + 1 := nI_clamp (by omega)
  have g : ∀ (M : mM) (w j : Nat) (v : Int32), mUp M (7, k, w) j v (4, k, 0) 5 = M (4, k, 0) 5 := fun M w j v => by rw [mUp_ne (by simp)]
  refine aw_aload_n k54_0 rfl ?_
  refine aw_getI k54_1 hC_T_append fs_T_34 (by decide) ⟨(by first | assumption | decide), rfl⟩ rfl ?_
  try simp only [g, h, nI_1, hc, hc1]
  refine aw_if_lt 16 k54_4 (by decide) (fun c_4 => ?_) (fun c_4 => ?_)
  · exact absurd c_4 h0
  · refine aw_aload_n k54_7 rfl ?_
    refine aw_getI k54_8 hC_T_append fs_T_34 (by decide) ⟨(by first | assumption | decide), rfl⟩ rfl ?_
    try simp only [g, h, nI_1, hc, hc1]
    refine aw_bipush (v := 12) k54_11 (by decide) ?_
    refine aw_icmp_lt 18 k54_13 (by decide) (fun c_13 => ?_) (fun c_13 => ?_)
    · refine aw_aload_n k54_18 rfl ?_
      refine aw_getR k54_19 hC_T_append fs_T_9 (by decide) ⟨(by first | assumption | decide), rfl⟩ rfl ?_
      try simp only [g, h, nI_1, hc, hc1]
      refine aw_aload_n k54_22 rfl ?_
      refine aw_getI k54_23 hC_T_append fs_T_34 (by decide) ⟨(by first | assumption | decide), rfl⟩ rfl ?_
      try simp only [g, h, nI_1, hc, hc1]
      refine aw_iconst (v := 1) k54_26 (by decide) ?_
      refine aw_iadd k54_27 ?_
      rw [nI_1]
      refine aw_aload_n k54_28 rfl ?_
      refine aw_getR k54_29 hC_T_append fs_T_9 (by decide) ⟨(by first | assumption | decide), rfl⟩ rfl ?_
      try simp only [g, h, nI_1, hc, hc1]
      refine aw_aload_n k54_32 rfl ?_
      refine aw_getI k54_33 hC_T_append fs_T_34 (by decide) ⟨(by first | assumption | decide), rfl⟩ rfl ?_
      try simp only [g, h, nI_1, hc, hc1]
      refine aw_iaload k54_36 (by first | exact ⟨rfl, rfl⟩ | exact ⟨by assumption, rfl⟩ | exact ⟨by assumption, by assumption⟩ | exact ⟨rfl, by decide⟩ | exact ⟨by assumption, by decide⟩ | exact ⟨by decide, rfl⟩ | exact ⟨by decide, by decide⟩ | exact ⟨by decide, by assumption⟩ | assumption) (by first | rfl | assumption) (by first | rfl | assumption) (by first | assumption | (refine vp_in_nI ?_ ?_ <;> simp only [mLen] <;> omega)) ?_
      try simp only [g, h, nI_1, hc, hc1]
      refine aw_iload_n k54_37 rfl ?_
      refine aw_iadd k54_38 ?_
      refine aw_iastore k54_39 (by first | exact ⟨rfl, rfl⟩ | exact ⟨by assumption, rfl⟩ | exact ⟨by assumption, by assumption⟩ | exact ⟨rfl, by decide⟩ | exact ⟨by assumption, by decide⟩ | exact ⟨by decide, rfl⟩ | exact ⟨by decide, by decide⟩ | exact ⟨by decide, by assumption⟩ | assumption) (by first | rfl | assumption) (by first | rfl | assumption) (by first | assumption | (refine vp_in_nI ?_ ?_ <;> simp only [mLen] <;> omega)) ?_
      try simp only [g, h, nI_1, hc, hc1]
      refine aw_aload_n k54_40 rfl ?_
      refine aw_getR k54_41 hC_T_append fs_T_15 (by decide) ⟨(by first | assumption | decide), rfl⟩ rfl ?_
      try simp only [g, h, nI_1, hc, hc1]
      refine aw_aload_n k54_44 rfl ?_
      refine aw_getI k54_45 hC_T_append fs_T_34 (by decide) ⟨(by first | assumption | decide), rfl⟩ rfl ?_
      try simp only [g, h, nI_1, hc, hc1]
      refine aw_iconst (v := 1) k54_48 (by decide) ?_
      refine aw_iadd k54_49 ?_
      rw [nI_1]
      refine aw_aload_n k54_50 rfl ?_
      refine aw_getR k54_51 hC_T_append fs_T_15 (by decide) ⟨(by first | assumption | decide), rfl⟩ rfl ?_
      try simp only [g, h, nI_1, hc, hc1]
      refine aw_aload_n k54_54 rfl ?_
      refine aw_getI k54_55 hC_T_append fs_T_34 (by decide) ⟨(by first | assumption | decide), rfl⟩ rfl ?_
      try simp only [g, h, nI_1, hc, hc1]
      refine aw_iaload k54_58 (by first | exact ⟨rfl, rfl⟩ | exact ⟨by assumption, rfl⟩ | exact ⟨by assumption, by assumption⟩ | exact ⟨rfl, by decide⟩ | exact ⟨by assumption, by decide⟩ | exact ⟨by decide, rfl⟩ | exact ⟨by decide, by decide⟩ | exact ⟨by decide, by assumption⟩ | assumption) (by first | rfl | assumption) (by first | rfl | assumption) (by first | assumption | (refine vp_in_nI ?_ ?_ <;> simp only [mLen] <;> omega)) ?_
      try simp only [g, h, nI_1, hc, hc1]
      refine aw_iload_n k54_59 rfl ?_
      refine aw_iadd k54_60 ?_
      refine aw_iastore k54_61 (by first | exact ⟨rfl, rfl⟩ | exact ⟨by assumption, rfl⟩ | exact ⟨by assumption, by assumption⟩ | exact ⟨rfl, by decide⟩ | exact ⟨by assumption, by decide⟩ | exact ⟨by decide, rfl⟩ | exact ⟨by decide, by decide⟩ | exact ⟨by decide, by assumption⟩ | assumption) (by first | rfl | assumption) (by first | rfl | assumption) (by first | assumption | (refine vp_in_nI ?_ ?_ <;> simp only [mLen] <;> omega)) ?_
      try simp only [g, h, nI_1, hc, hc1]
      refine aw_aload_n k54_62 rfl ?_
      refine aw_getR k54_63 hC_T_append fs_T_18 (by decide) ⟨(by first | assumption | decide), rfl⟩ rfl ?_
      try simp only [g, h, nI_1, hc, hc1]
      refine aw_aload_n k54_66 rfl ?_
      refine aw_getI k54_67 hC_T_append fs_T_34 (by decide) ⟨(by first | assumption | decide), rfl⟩ rfl ?_
      try simp only [g, h, nI_1, hc, hc1]
      refine aw_iconst (v := 1) k54_70 (by decide) ?_
      refine aw_iadd k54_71 ?_
      rw [nI_1]
      refine aw_aload_n k54_72 rfl ?_
      refine aw_getR k54_73 hC_T_append fs_T_18 (by decide) ⟨(by first | assumption | decide), rfl⟩ rfl ?_
      try simp only [g, h, nI_1, hc, hc1]
      refine aw_aload_n k54_76 rfl ?_
      refine aw_getI k54_77 hC_T_append fs_T_34 (by decide) ⟨(by first | assumption | decide), rfl⟩ rfl ?_
      try simp only [g, h, nI_1, hc, hc1]
      refine aw_iaload k54_80 (by first | exact ⟨rfl, rfl⟩ | exact ⟨by assumption, rfl⟩ | exact ⟨by assumption, by assumption⟩ | exact ⟨rfl, by decide⟩ | exact ⟨by assumption, by decide⟩ | exact ⟨by decide, rfl⟩ | exact ⟨by decide, by decide⟩ | exact ⟨by decide, by assumption⟩ | assumption) (by first | rfl | assumption) (by first | rfl | assumption) (by first | assumption | (refine vp_in_nI ?_ ?_ <;> simp only [mLen] <;> omega)) ?_
      try simp only [g, h, nI_1, hc, hc1]
      refine aw_iload_n k54_81 rfl ?_
      refine aw_iadd k54_82 ?_
      refine aw_iastore k54_83 (by first | exact ⟨rfl, rfl⟩ | exact ⟨by assumption, rfl⟩ | exact ⟨by assumption, by assumption⟩ | exact ⟨rfl, by decide⟩ | exact ⟨by assumption, by decide⟩ | exact ⟨by decide, rfl⟩ | exact ⟨by decide, by decide⟩ | exact ⟨by decide, by assumption⟩ | assumption) (by first | rfl | assumption) (by first | rfl | assumption) (by first | assumption | (refine vp_in_nI ?_ ?_ <;> simp only [mLen] <;> omega)) ?_
      try simp only [g, h, nI_1, hc, hc1]
      refine aw_aload_n k54_84 rfl ?_
      first | refine aw_dupI k54_85 ?_ | refine aw_dupR k54_85 ?_
      refine aw_getI k54_86 hC_T_append fs_T_34 (by decide) ⟨(by first | assumption | decide), rfl⟩ rfl ?_
      try simp only [g, h, nI_1, hc, hc1]
      refine aw_iconst (v := 1) k54_89 (by decide) ?_
      refine aw_iadd k54_90 ?_
      rw [nI_1]
      refine aw_putI k54_91 hC_T_append fs_T_34 (by decide) ⟨(by first | assumption | decide), rfl⟩ rfl po_4_5 ?_
      try simp only [g, h, nI_1, hc, hc1]
      refine aw_iconst (v := 1) k54_94 (by decide) ?_
      refine aw_zreturn k54_95 hR_T_append ?_ ?_ ?_
      all_goals first | rfl | exact Or.inl rfl | exact Or.inr rfl | assumption | (simp_all; done) | ((repeat' split) <;> first | rfl | (simp only [Int32.lt_iff_toInt_lt, Int32.le_iff_toInt_le, Int64.lt_iff_toInt_lt, Int64.le_iff_toInt_le] at *; omega) | (simp_all; done))
    · exact absurd h12 c_13
theorem s_T_appendFull {d k : Nat} {M : mM} {x1 x2 x3 : Int32} (hk : k < 7) (h : M (4, k, 0) 5 = nI 12) : CT iT_append d [vR 4 k 0, vI x1, vI x2, vI x3] M (.inl (some (vI 0))) M 0 := by
  refine ct_go hL_T_append rfl ?_
  have h0 : ¬ nI 12 < 0 := nI_pos (by omega)
  refine aw_aload_n k54_0 rfl ?_
  refine aw_getI k54_1 hC_T_append fs_T_34 (by decide) ⟨(by first | assumption | decide), rfl⟩ rfl ?_
  try simp only [h]
  refine aw_if_lt 16 k54_4 (by decide) (fun c_4 => ?_) (fun c_4 => ?_)
  · exact absurd c_4 h0
  · refine aw_aload_n k54_7 rfl ?_
    refine aw_getI k54_8 hC_T_append fs_T_34 (by decide) ⟨(by first | assumption | decide), rfl⟩ rfl ?_
    try simp only [h]
    refine aw_bipush (v := 12) k54_11 (by decide) ?_
    refine aw_icmp_lt 18 k54_13 (by decide) (fun c_13 => ?_) (fun c_13 => ?_)
    · exact absurd c_13 (by decide)
    · refine aw_iconst (v := 0) k54_16 (by decide) ?_
      refine aw_zreturn k54_17 hR_T_append ?_ ?_ ?_
      all_goals first | rfl | exact Or.inl rfl | exact Or.inr rfl | assumption | (simp_all; done) | ((repeat' split) <;> first | rfl | (simp only [Int32.lt_iff_toInt_lt, Int32.le_iff_toInt_le, Int64.lt_iff_toInt_lt, Int64.le_iff_toInt_le] at *; omega) | (simp_all; done))
theorem s_T_dropLast {d k n : Nat} {M : mM} (hk : k < 7) (hn : n < 12) (h : M (4, k, 0) 5 = nI (n + 1)) : CT iT_dropLast d [vR 4 k 0] M (.inl (some (vI 1))) (mUp M (4, k, 0) 5 (nI n)) 0 := by
  refine ct_go hL_T_dropLast rfl ?_
  have h0 : 0 < nI (n + 1) := nI_lt (a := 0) (by omega) (by omega)
  refine aw_aload_n k55_0 rfl ?_
  refine aw_getI k55_1 hC_T_dropLast fs_T_34 (by decide) ⟨(by first | assumption | decide), rfl⟩ rfl ?_
  try simp only [h]
  refine aw_if_gt 9 k55_4 (by decide) (fun c_4 => ?_) (fun c_4 => ?_)
  · refine aw_aload_n k55_9 rfl ?_
    first | refine aw_dupI k55_10 ?_ | refine aw_dupR k55_10 ?_
    refine aw_getI k55_11 hC_T_dropLast fs_T_34 (by decide) ⟨(by first | assumption | decide), rfl⟩ rfl ?_
    try simp only [h]
    refine aw_iconst (v := 1) k55_14 (by decide) ?_
    refine aw_isub k55_15 ?_
    rw [nI_pred]
    refine aw_putI k55_16 hC_T_dropLast fs_T_34 (by decide) ⟨(by first | assumption | decide), rfl⟩ rfl po_4_5 ?_
    try simp only [h]
    refine aw_iconst (v := 1) k55_19 (by decide) ?_
    refine aw_zreturn k55_20 hR_T_dropLast ?_ ?_ ?_
    all_goals first | rfl | exact Or.inl rfl | exact Or.inr rfl | assumption | (simp_all; done) | ((repeat' split) <;> first | rfl | (simp only [Int32.lt_iff_toInt_lt, Int32.le_iff_toInt_le, Int64.lt_iff_toInt_lt, Int64.le_iff_toInt_le] at *; omega) | (simp_all; done))
  · exact absurd h0 c_4
theorem s_T_dropLast0 {d k : Nat} {M : mM} (hk : k < 7) (h : M (4, k, 0) 5 = nI 0) : CT iT_dropLast d [vR 4 k 0] M (.inl (some (vI 0))) M 0 := by
  refine ct_go hL_T_dropLast rfl ?_
  refine aw_aload_n k55_0 rfl ?_
  refine aw_getI k55_1 hC_T_dropLast fs_T_34 (by decide) ⟨(by first | assumption | decide), rfl⟩ rfl ?_
  try simp only [h]
  refine aw_if_gt 9 k55_4 (by decide) (fun c_4 => ?_) (fun c_4 => ?_)
  · exact absurd c_4 (by decide)
  · refine aw_iconst (v := 0) k55_7 (by decide) ?_
    refine aw_zreturn k55_8 hR_T_dropLast ?_ ?_ ?_
    all_goals first | rfl | exact Or.inl rfl | exact Or.inr rfl | assumption | (simp_all; done) | ((repeat' split) <;> first | rfl | (simp only [Int32.lt_iff_toInt_lt, Int32.le_iff_toInt_le, Int64.lt_iff_toInt_lt, Int64.le_iff_toInt_le] at *; omega) | (simp_all; done))
theorem s_T_dropAllLegs {d k : Nat} {M : mM} (hk : k < 7) : CT iT_dropAllLegs d [vR 4 k 0] M (.inl none) (mUp M (4, k, 0) 5 0) 0 := by
  refine ct_go hL_T_dropAllLegs rfl ?_
  refine aw_aload_n k56_0 rfl ?_
  refine aw_iconst (v := 0) k56_1 (by decide) ?_
  refine aw_putI k56_2 hC_T_dropAllLegs fs_T_34 (by decide) ⟨(by first | assumption | decide), rfl⟩ rfl po_4_5 ?_
  refine aw_return k56_5 hR_T_dropAllLegs ?_
  all_goals first | rfl | exact Or.inl rfl | exact Or.inr rfl | assumption | (simp_all; done) | ((repeat' split) <;> first | rfl | (simp only [Int32.lt_iff_toInt_lt, Int32.le_iff_toInt_le, Int64.lt_iff_toInt_lt, Int64.le_iff_toInt_le] at *; omega) | (simp_all; done))
theorem s_T_moveOrigin {d k : Nat} {M : mM} {x y : Int32} (hk : k < 7) : CT iT_moveOrigin d [vR 4 k 0, vI x, vI y] M (.inl none) (mUp (mUp M (4, k, 0) 3 x) (4, k, 0) 4 y) 0 := by
  refine ct_go hL_T_moveOrigin rfl ?_
  refine aw_aload_n k57_0 rfl ?_
  refine aw_iload_n k57_1 rfl ?_
  refine aw_putI k57_2 hC_T_moveOrigin fs_T_27 (by decide) ⟨(by first | assumption | decide), rfl⟩ rfl po_4_3 ?_
  refine aw_aload_n k57_5 rfl ?_
  refine aw_iload_n k57_6 rfl ?_
  refine aw_putI k57_7 hC_T_moveOrigin fs_T_31 (by decide) ⟨(by first | assumption | decide), rfl⟩ rfl po_4_4 ?_
  refine aw_return k57_10 hR_T_moveOrigin ?_
  all_goals first | rfl | exact Or.inl rfl | exact Or.inr rfl | assumption | (simp_all; done) | ((repeat' split) <;> first | rfl | (simp only [Int32.lt_iff_toInt_lt, Int32.le_iff_toInt_le, Int64.lt_iff_toInt_lt, Int64.le_iff_toInt_le] at *; omega) | (simp_all; done))
