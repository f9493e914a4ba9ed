/-! PURE: numbers and the component's small methods -/
def cellV (M : mM) (r : mRef) (i : Int32) : Int32 := if 0 ≤ i ∧ i < nI (mLen r) then M r i.toNatClampNeg else 0
theorem cellV_at {M : mM} {r : mRef} {n : Nat} (h : n < mLen r) (hb : mLen r < 2 ^ 31) : cellV M r (nI n) = M r n := by
  unfold cellV
  rw [if_pos ⟨nI_pos' (by omega), nI_lt h hb⟩, nI_clamp (by omega)]
theorem s_A_isWithin {d : Nat} {M : mM} {x y : Int32} : CT iA_isWithin d [vI x, vI y] M (.inl (some (vI (if -y ≤ x ∧ x ≤ y then 1 else 0)))) M 0 := by
  refine ct_go hL_A_isWithin rfl ?_
  refine aw_iload_n k88_0 rfl ?_
  refine aw_iload_n k88_1 rfl ?_
  refine aw_ineg k88_2 ?_
  refine aw_icmp_lt 15 k88_3 (by decide) (fun c_3 => ?_) (fun c_3 => ?_)
  · refine aw_iconst (v := 0) k88_15 (by decide) ?_
    refine aw_zreturn k88_16 hR_A_isWithin ?_ ?_ ?_
    all_goals first | rfl | exact Or.inl rfl | exact Or.inr rfl | assumption | (simp_all; done) | ((repeat' split) <;> first | rfl | (simp only [Int32.lt_iff_toInt_lt, Int32.le_iff_toInt_le, Int64.lt_iff_toInt_lt, Int64.le_iff_toInt_le] at *; omega) | (simp_all; done))
  · refine aw_iload_n k88_6 rfl ?_
    refine aw_iload_n k88_7 rfl ?_
    refine aw_icmp_gt 15 k88_8 (by decide) (fun c_8 => ?_) (fun c_8 => ?_)
    · refine aw_iconst (v := 0) k88_15 (by decide) ?_
      refine aw_zreturn k88_16 hR_A_isWithin ?_ ?_ ?_
      all_goals first | rfl | exact Or.inl rfl | exact Or.inr rfl | assumption | (simp_all; done) | ((repeat' split) <;> first | rfl | (simp only [Int32.lt_iff_toInt_lt, Int32.le_iff_toInt_le, Int64.lt_iff_toInt_lt, Int64.le_iff_toInt_le] at *; omega) | (simp_all; done))
    · refine aw_iconst (v := 1) k88_11 (by decide) ?_
      refine aw_goto (t := 16) k88_12 (by decide) ?_
      refine aw_zreturn k88_16 hR_A_isWithin ?_ ?_ ?_
      all_goals first | rfl | exact Or.inl rfl | exact Or.inr rfl | assumption | (simp_all; done) | ((repeat' split) <;> first | rfl | (simp only [Int32.lt_iff_toInt_lt, Int32.le_iff_toInt_le, Int64.lt_iff_toInt_lt, Int64.le_iff_toInt_le] at *; omega) | (simp_all; done))
theorem s_A_cellOf {d a b c0 : Nat} {M : mM} {i : Int32} (ho : mOk (a, b, c0)) (hk : mIsI (a, b, c0) = true) (ht : mTy (a, b, c0) = .int) (hn : mLen (a, b, c0) < 2 ^ 31) : CT iA_cellOf d [vR a b c0, vI i] M (.inl (some (vI (cellV M (a, b, c0) i)))) M 0 := by
  refine ct_go hL_A_cellOf rfl ?_
  unfold cellV
  refine aw_iload_n k89_0 rfl ?_
  refine aw_if_lt 16 k89_1 (by decide) (fun c_1 => ?_) (fun c_1 => ?_)
  · refine aw_iconst (v := 0) k89_16 (by decide) ?_
    refine aw_ireturn k89_17 hR_A_cellOf ?_ ?_
    all_goals first | rfl | exact Or.inl rfl | exact Or.inr rfl | assumption | (simp_all; done) | ((repeat' split) <;> first | rfl | (simp only [Int32.lt_iff_toInt_lt, Int32.le_iff_toInt_le, Int64.lt_iff_toInt_lt, Int64.le_iff_toInt_le] at *; omega) | (simp_all; done))
  · refine aw_iload_n k89_4 rfl ?_
    refine aw_aload_n k89_5 rfl ?_
    refine aw_alen k89_6 (by first | exact ⟨rfl, rfl⟩ | exact ⟨by assumption, rfl⟩ | exact ⟨by assumption, by assumption⟩ | exact ⟨rfl, by decide⟩ | exact ⟨by assumption, by decide⟩ | exact ⟨by decide, rfl⟩ | exact ⟨by decide, by decide⟩ | exact ⟨by decide, by assumption⟩ | assumption) (by first | rfl | assumption) ?_
    refine aw_icmp_ge 16 k89_7 (by decide) (fun c_7 => ?_) (fun c_7 => ?_)
    · refine aw_iconst (v := 0) k89_16 (by decide) ?_
      refine aw_ireturn k89_17 hR_A_cellOf ?_ ?_
      all_goals first | rfl | exact Or.inl rfl | exact Or.inr rfl | assumption | (simp_all; done) | ((repeat' split) <;> first | rfl | (simp only [Int32.lt_iff_toInt_lt, Int32.le_iff_toInt_le, Int64.lt_iff_toInt_lt, Int64.le_iff_toInt_le] at *; omega) | (simp_all; done))
    · refine aw_aload_n k89_10 rfl ?_
      refine aw_iload_n k89_11 rfl ?_
      refine aw_iaload k89_12 (by first | exact ⟨rfl, rfl⟩ | exact ⟨by assumption, rfl⟩ | exact ⟨by assumption, by assumption⟩ | exact ⟨rfl, by decide⟩ | exact ⟨by assumption, by decide⟩ | exact ⟨by decide, rfl⟩ | exact ⟨by decide, by decide⟩ | exact ⟨by decide, by assumption⟩ | assumption) (by first | rfl | assumption) (by first | rfl | assumption) (by rw [vp_in_iff]; have h1 := Int32.not_lt.mp c_1; have h2 := Int32.not_le.mp c_7; rw [Int32.le_iff_toInt_le] at h1; rw [Int32.lt_iff_toInt_lt, nI_toInt hn] at h2; exact ⟨h1, h2⟩) ?_
      refine aw_goto (t := 17) k89_13 (by decide) ?_
      refine aw_ireturn k89_17 hR_A_cellOf ?_ ?_
      all_goals first | rfl | exact Or.inl rfl | exact Or.inr rfl | assumption | (simp_all; done) | ((repeat' split) <;> first | rfl | (simp only [Int32.lt_iff_toInt_lt, Int32.le_iff_toInt_le, Int64.lt_iff_toInt_lt, Int64.le_iff_toInt_le] at *; omega) | (simp_all; done))
theorem s_A_cell7 {d k w n : Nat} {M : mM} (hk : k < 7) (hw : w < 3) (hn : n < 13) : CT iA_cellOf d [vR 7 k w, vI (nI n)] M (.inl (some (vI (M (7, k, w) n)))) M 0 := by
  have h := s_A_cellOf (d := d) (M := M) (i := nI n) (show mOk (7, k, w) from ⟨hk, hw⟩) rfl rfl (by show 13 < 2 ^ 31; omega)
  rw [cellV_at (by show n < 13; omega) (by show 13 < 2 ^ 31; omega)] at h
  exact h
def iabs (x : Int32) : Int32 := if 0 ≤ x then x else -x
def labs (x : Int64) : Int64 := if 0 ≤ x then x else -x
theorem s_J_absI {d : Nat} {M : mM} {x : Int32} : CT iJ_absI d [vI x] M (.inl (some (vI (iabs x)))) M 0 := by
  refine ct_go hL_J_absI rfl ?_
  unfold iabs
  refine aw_iload_n k92_0 rfl ?_
  refine aw_if_ge 9 k92_1 (by decide) (fun c_1 => ?_) (fun c_1 => ?_)
  · refine aw_iload_n k92_9 rfl ?_
    refine aw_ireturn k92_10 hR_J_absI ?_ ?_
    all_goals first | rfl | exact Or.inl rfl | exact Or.inr rfl | assumption | (simp_all; done) | ((repeat' split) <;> first | rfl | (simp only [Int32.lt_iff_toInt_lt, Int32.le_iff_toInt_le, Int64.lt_iff_toInt_lt, Int64.le_iff_toInt_le] at *; omega) | (simp_all; done))
  · refine aw_iload_n k92_4 rfl ?_
    refine aw_ineg k92_5 ?_
    refine aw_goto (t := 10) k92_6 (by decide) ?_
    refine aw_ireturn k92_10 hR_J_absI ?_ ?_
    all_goals first | rfl | exact Or.inl rfl | exact Or.inr rfl | assumption | (simp_all; done) | ((repeat' split) <;> first | rfl | (simp only [Int32.lt_iff_toInt_lt, Int32.le_iff_toInt_le, Int64.lt_iff_toInt_lt, Int64.le_iff_toInt_le] at *; omega) | (simp_all; done))
theorem s_J_absL {d : Nat} {M : mM} {x : Int64} : CT iJ_absL d [vL x] M (.inl (some (vL (labs x)))) M 0 := by
  refine ct_go hL_J_absL rfl ?_
  unfold labs
  refine aw_lload_n k93_0 rfl ?_
  refine aw_lconst (v := 0) k93_1 (by decide) ?_
  refine aw_lcmp_ge 11 k93_2 k93_3 (by decide) (fun c_2 => ?_) (fun c_2 => ?_)
  · refine aw_lload_n k93_11 rfl ?_
    refine aw_lreturn k93_12 hR_J_absL ?_ ?_
    all_goals first | rfl | exact Or.inl rfl | exact Or.inr rfl | assumption | (simp_all; done) | ((repeat' split) <;> first | rfl | (simp only [Int32.lt_iff_toInt_lt, Int32.le_iff_toInt_le, Int64.lt_iff_toInt_lt, Int64.le_iff_toInt_le] at *; omega) | (simp_all; done))
  · refine aw_lload_n k93_6 rfl ?_
    refine aw_lneg k93_7 ?_
    refine aw_goto (t := 12) k93_8 (by decide) ?_
    refine aw_lreturn k93_12 hR_J_absL ?_ ?_
    all_goals first | rfl | exact Or.inl rfl | exact Or.inr rfl | assumption | (simp_all; done) | ((repeat' split) <;> first | rfl | (simp only [Int32.lt_iff_toInt_lt, Int32.le_iff_toInt_le, Int64.lt_iff_toInt_lt, Int64.le_iff_toInt_le] at *; omega) | (simp_all; done))
theorem s_J_max {d : Nat} {M : mM} {x y : Int32} : CT iJ_max d [vI x, vI y] M (.inl (some (vI (if x < y then y else x)))) M 0 := by
  refine ct_go hL_J_max rfl ?_
  refine aw_iload_n k94_0 rfl ?_
  refine aw_iload_n k94_1 rfl ?_
  refine aw_icmp_lt 9 k94_2 (by decide) (fun c_2 => ?_) (fun c_2 => ?_)
  · refine aw_iload_n k94_9 rfl ?_
    refine aw_ireturn k94_10 hR_J_max ?_ ?_
    all_goals first | rfl | exact Or.inl rfl | exact Or.inr rfl | assumption | (simp_all; done) | ((repeat' split) <;> first | rfl | (simp only [Int32.lt_iff_toInt_lt, Int32.le_iff_toInt_le, Int64.lt_iff_toInt_lt, Int64.le_iff_toInt_le] at *; omega) | (simp_all; done))
  · refine aw_iload_n k94_5 rfl ?_
    refine aw_goto (t := 10) k94_6 (by decide) ?_
    refine aw_ireturn k94_10 hR_J_max ?_ ?_
    all_goals first | rfl | exact Or.inl rfl | exact Or.inr rfl | assumption | (simp_all; done) | ((repeat' split) <;> first | rfl | (simp only [Int32.lt_iff_toInt_lt, Int32.le_iff_toInt_le, Int64.lt_iff_toInt_lt, Int64.le_iff_toInt_le] at *; omega) | (simp_all; done))
theorem s_J_min {d : Nat} {M : mM} {x y : Int32} : CT iJ_min d [vI x, vI y] M (.inl (some (vI (if y < x then y else x)))) M 0 := by
  refine ct_go hL_J_min rfl ?_
  refine aw_iload_n k95_0 rfl ?_
  refine aw_iload_n k95_1 rfl ?_
  refine aw_icmp_gt 9 k95_2 (by decide) (fun c_2 => ?_) (fun c_2 => ?_)
  · refine aw_iload_n k95_9 rfl ?_
    refine aw_ireturn k95_10 hR_J_min ?_ ?_
    all_goals first | rfl | exact Or.inl rfl | exact Or.inr rfl | assumption | (simp_all; done) | ((repeat' split) <;> first | rfl | (simp only [Int32.lt_iff_toInt_lt, Int32.le_iff_toInt_le, Int64.lt_iff_toInt_lt, Int64.le_iff_toInt_le] at *; omega) | (simp_all; done))
  · refine aw_iload_n k95_5 rfl ?_
    refine aw_goto (t := 10) k95_6 (by decide) ?_
    refine aw_ireturn k95_10 hR_J_min ?_ ?_
    all_goals first | rfl | exact Or.inl rfl | exact Or.inr rfl | assumption | (simp_all; done) | ((repeat' split) <;> first | rfl | (simp only [Int32.lt_iff_toInt_lt, Int32.le_iff_toInt_le, Int64.lt_iff_toInt_lt, Int64.le_iff_toInt_le] at *; omega) | (simp_all; done))
def jfloor (x y : Int64) : Int64 := if (x ^^^ y) < 0 ∧ ¬ x / y * y = x then x / y - 1 else x / y
theorem s_J_floorDiv {d : Nat} {M : mM} {x y : Int64} (hy : ¬ y = 0) : CT iJ_floorDiv d [vL x, vL y] M (.inl (some (vL (jfloor x y)))) M 0 := by
  refine ct_go hL_J_floorDiv rfl ?_
  unfold jfloor
  refine aw_lload_n k91_0 rfl ?_
  refine aw_lload_n k91_1 rfl ?_
  refine aw_ldiv k91_2 hy ?_
  refine aw_lstore k91_3 (Nat.le_of_ble_eq_true rfl) rfl ?_
  refine aw_lload_n k91_5 rfl ?_
  refine aw_lload_n k91_6 rfl ?_
  refine aw_lxor k91_7 ?_
  refine aw_lconst (v := 0) k91_8 (by decide) ?_
  refine aw_lcmp_ge 27 k91_9 k91_10 (by decide) (fun c_9 => ?_) (fun c_9 => ?_)
  · refine aw_lload k91_27 rfl ?_
    refine aw_lreturn k91_29 hR_J_floorDiv ?_ ?_
    all_goals first | rfl | exact Or.inl rfl | exact Or.inr rfl | assumption | (simp_all; done) | ((repeat' split) <;> first | rfl | (simp only [Int32.lt_iff_toInt_lt, Int32.le_iff_toInt_le, Int64.lt_iff_toInt_lt, Int64.le_iff_toInt_le] at *; omega) | (simp_all; done))
  · refine aw_lload k91_13 rfl ?_
    refine aw_lload_n k91_15 rfl ?_
    refine aw_lmul k91_16 ?_
    refine aw_lload_n k91_17 rfl ?_
    refine aw_lcmp_eq 27 k91_18 k91_19 (by decide) (fun c_18 => ?_) (fun c_18 => ?_)
    · refine aw_lload k91_27 rfl ?_
      refine aw_lreturn k91_29 hR_J_floorDiv ?_ ?_
      all_goals first | rfl | exact Or.inl rfl | exact Or.inr rfl | assumption | (simp_all; done) | ((repeat' split) <;> first | rfl | (simp only [Int32.lt_iff_toInt_lt, Int32.le_iff_toInt_le, Int64.lt_iff_toInt_lt, Int64.le_iff_toInt_le] at *; omega) | (simp_all; done))
    · refine aw_lload k91_22 rfl ?_
      refine aw_lconst (v := 1) k91_24 (by decide) ?_
      refine aw_lsub k91_25 ?_
      refine aw_lreturn k91_26 hR_J_floorDiv ?_ ?_
      all_goals first | rfl | exact Or.inl rfl | exact Or.inr rfl | assumption | (simp_all; done) | ((repeat' split) <;> first | rfl | (simp only [Int32.lt_iff_toInt_lt, Int32.le_iff_toInt_le, Int64.lt_iff_toInt_lt, Int64.le_iff_toInt_le] at *; omega) | (simp_all; done))
/-! the traverse -/
theorem s_T_hasCorner {d k : Nat} {M : mM} {x : Int32} (hk : k < 7) : CT iT_hasCorner d [vR 4 k 0, vI x] M (.inl (some (vI (if 0 ≤ x ∧ x ≤ M (4, k, 0) 5 then 1 else 0)))) M 0 := by
  refine ct_go hL_T_hasCorner rfl ?_
  refine aw_iload_n k42_0 rfl ?_
  refine aw_if_lt 16 k42_1 (by decide) (fun c_1 => ?_) (fun c_1 => ?_)
  · refine aw_iconst (v := 0) k42_16 (by decide) ?_
    refine aw_zreturn k42_17 hR_T_hasCorner ?_ ?_ ?_
    all_goals first | rfl | exact Or.inl rfl | exact Or.inr rfl | assumption | (simp_all; done) | ((repeat' split) <;> first | rfl | (simp only [Int32.lt_iff_toInt_lt, Int32.le_iff_toInt_le, Int64.lt_iff_toInt_lt, Int64.le_iff_toInt_le] at *; omega) | (simp_all; done))
  · refine aw_iload_n k42_4 rfl ?_
    refine aw_aload_n k42_5 rfl ?_
    refine aw_getI k42_6 hC_T_hasCorner fs_T_34 (by decide) ⟨(by first | assumption | decide), rfl⟩ rfl ?_
    refine aw_icmp_gt 16 k42_9 (by decide) (fun c_9 => ?_) (fun c_9 => ?_)
    · refine aw_iconst (v := 0) k42_16 (by decide) ?_
      refine aw_zreturn k42_17 hR_T_hasCorner ?_ ?_ ?_
      all_goals first | rfl | exact Or.inl rfl | exact Or.inr rfl | assumption | (simp_all; done) | ((repeat' split) <;> first | rfl | (simp only [Int32.lt_iff_toInt_lt, Int32.le_iff_toInt_le, Int64.lt_iff_toInt_lt, Int64.le_iff_toInt_le] at *; omega) | (simp_all; done))
    · refine aw_iconst (v := 1) k42_12 (by decide) ?_
      refine aw_goto (t := 17) k42_13 (by decide) ?_
      refine aw_zreturn k42_17 hR_T_hasCorner ?_ ?_ ?_
      all_goals first | rfl | exact Or.inl rfl | exact Or.inr rfl | assumption | (simp_all; done) | ((repeat' split) <;> first | rfl | (simp only [Int32.lt_iff_toInt_lt, Int32.le_iff_toInt_le, Int64.lt_iff_toInt_lt, Int64.le_iff_toInt_le] at *; omega) | (simp_all; done))
theorem s_T_measuredLength {d k n : Nat} {M : mM} (hk : k < 7) (hn : n < 13) (h : M (4, k, 0) 5 = nI n) : CT iT_measuredLength (d + 1) [vR 4 k 0] M (.inl (some (vI (M (7, k, 2) n)))) M 0 := by
  refine ct_go hL_T_measuredLength rfl ?_
  refine aw_aload_n k43_0 rfl ?_
  refine aw_getR k43_1 hC_T_measuredLength fs_T_18 (by decide) ⟨(by first | assumption | decide), rfl⟩ rfl ?_
  refine aw_aload_n k43_4 rfl ?_
  refine aw_getI k43_5 hC_T_measuredLength fs_T_34 (by decide) ⟨(by first | assumption | decide), rfl⟩ rfl ?_
  rw [h]
  refine aw_callN2 k43_8 hC_T_measuredLength ok_A_cellOf sn_T_37 hH_A_cellOf (by rw [hL_A_cellOf]; exact Nat.le_of_ble_eq_true rfl) (Nat.le_of_ble_eq_true rfl) (s_A_cell7 hk (by decide) hn) ?_
  refine aw_ireturn k43_11 hR_T_measuredLength ?_ ?_
  all_goals first | rfl | exact Or.inl rfl | exact Or.inr rfl | assumption | (simp_all; done) | ((repeat' split) <;> first | rfl | (simp only [Int32.lt_iff_toInt_lt, Int32.le_iff_toInt_le, Int64.lt_iff_toInt_lt, Int64.le_iff_toInt_le] at *; omega) | (simp_all; done))
theorem s_T_closingEast {d k n : Nat} {M : mM} (hk : k < 7) (hn : n < 13) (h : M (4, k, 0) 5 = nI n) : CT iT_closingEast (d + 1) [vR 4 k 0] M (.inl (some (vI (M (7, k, 0) n)))) M 0 := by
  refine ct_go hL_T_closingEast rfl ?_
  refine aw_aload_n k44_0 rfl ?_
  refine aw_getR k44_1 hC_T_closingEast fs_T_9 (by decide) ⟨(by first | assumption | decide), rfl⟩ rfl ?_
  refine aw_aload_n k44_4 rfl ?_
  refine aw_getI k44_5 hC_T_closingEast fs_T_34 (by decide) ⟨(by first | assumption | decide), rfl⟩ rfl ?_
  rw [h]
  refine aw_callN2 k44_8 hC_T_closingEast ok_A_cellOf sn_T_37 hH_A_cellOf (by rw [hL_A_cellOf]; exact Nat.le_of_ble_eq_true rfl) (Nat.le_of_ble_eq_true rfl) (s_A_cell7 hk (by decide) hn) ?_
  refine aw_ireturn k44_11 hR_T_closingEast ?_ ?_
  all_goals first | rfl | exact Or.inl rfl | exact Or.inr rfl | assumption | (simp_all; done) | ((repeat' split) <;> first | rfl | (simp only [Int32.lt_iff_toInt_lt, Int32.le_iff_toInt_le, Int64.lt_iff_toInt_lt, Int64.le_iff_toInt_le] at *; omega) | (simp_all; done))
theorem s_T_closingNorth {d k n : Nat} {M : mM} (hk : k < 7) (hn : n < 13) (h : M (4, k, 0) 5 = nI n) : CT iT_closingNorth (d + 1) [vR 4 k 0] M (.inl (some (vI (M (7, k, 1) n)))) M 0 := by
  refine ct_go hL_T_closingNorth rfl ?_
  refine aw_aload_n k45_0 rfl ?_
  refine aw_getR k45_1 hC_T_closingNorth fs_T_15 (by decide) ⟨(by first | assumption | decide), rfl⟩ rfl ?_
  refine aw_aload_n k45_4 rfl ?_
  refine aw_getI k45_5 hC_T_closingNorth fs_T_34 (by decide) ⟨(by first | assumption | decide), rfl⟩ rfl ?_
  rw [h]
  refine aw_callN2 k45_8 hC_T_closingNorth ok_A_cellOf sn_T_37 hH_A_cellOf (by rw [hL_A_cellOf]; exact Nat.le_of_ble_eq_true rfl) (Nat.le_of_ble_eq_true rfl) (s_A_cell7 hk (by decide) hn) ?_
  refine aw_ireturn k45_11 hR_T_closingNorth ?_ ?_
  all_goals first | rfl | exact Or.inl rfl | exact Or.inr rfl | assumption | (simp_all; done) | ((repeat' split) <;> first | rfl | (simp only [Int32.lt_iff_toInt_lt, Int32.le_iff_toInt_le, Int64.lt_iff_toInt_lt, Int64.le_iff_toInt_le] at *; omega) | (simp_all; done))
def tCloses (M : mM) (k n : Nat) : Int32 := if 200 * (iabs (M (7, k, 0) n) + iabs (M (7, k, 1) n)) ≤ M (7, k, 2) n then 1 else 0
theorem s_T_closesWell {d k n : Nat} {M : mM} (hk : k < 7) (hn : n < 13) (h : M (4, k, 0) 5 = nI n) : CT iT_closesWell (d + 2) [vR 4 k 0] M (.inl (some (vI (tCloses M k n)))) M 0 := by
  refine ct_go hL_T_closesWell rfl ?_
  unfold tCloses
  refine aw_aload_n k46_0 rfl ?_
  refine aw_callV0 k46_1 hC_T_closesWell ok_T_closingEast sv_T_41 hH_T_closingEast ⟨(by first | assumption | decide), rfl⟩ (by decide) hN_T_closingEast (by rw [hL_T_closingEast]; exact Nat.le_of_ble_eq_true rfl) (Nat.le_of_ble_eq_true rfl) (s_T_closingEast hk hn h) ?_
  refine aw_callS1 k46_4 hC_T_closesWell ok_J_absI ss_T_45 hH_J_absI (by rw [hL_J_absI]; exact Nat.le_of_ble_eq_true rfl) (Nat.le_of_ble_eq_true rfl) s_J_absI ?_
  refine aw_aload_n k46_7 rfl ?_
  refine aw_callV0 k46_8 hC_T_closesWell ok_T_closingNorth sv_T_51 hH_T_closingNorth ⟨(by first | assumption | decide), rfl⟩ (by decide) hN_T_closingNorth (by rw [hL_T_closingNorth]; exact Nat.le_of_ble_eq_true rfl) (Nat.le_of_ble_eq_true rfl) (s_T_closingNorth hk hn h) ?_
  refine aw_callS1 k46_11 hC_T_closesWell ok_J_absI ss_T_45 hH_J_absI (by rw [hL_J_absI]; exact Nat.le_of_ble_eq_true rfl) (Nat.le_of_ble_eq_true rfl) s_J_absI ?_
  refine aw_iadd k46_14 ?_
  refine aw_istore_n k46_15 (Nat.le_of_ble_eq_true rfl) rfl ?_
  refine aw_sipush (v := 200) k46_16 (by decide) ?_
  refine aw_iload_n k46_19 rfl ?_
  refine aw_imul k46_20 ?_
  refine aw_aload_n k46_21 rfl ?_
  refine aw_callV0 k46_22 hC_T_closesWell ok_T_measuredLength sv_T_54 hH_T_measuredLength ⟨(by first | assumption | decide), rfl⟩ (by decide) hN_T_measuredLength (by rw [hL_T_measuredLength]; exact Nat.le_of_ble_eq_true rfl) (Nat.le_of_ble_eq_true rfl) (s_T_measuredLength hk hn h) ?_
  refine aw_icmp_gt 32 k46_25 (by decide) (fun c_25 => ?_) (fun c_25 => ?_)
  · refine aw_iconst (v := 0) k46_32 (by decide) ?_
    refine aw_zreturn k46_33 hR_T_closesWell ?_ ?_ ?_
    all_goals first | rfl | exact Or.inl rfl | exact Or.inr rfl | assumption | (simp_all; done) | ((repeat' split) <;> first | rfl | (simp only [Int32.lt_iff_toInt_lt, Int32.le_iff_toInt_le, Int64.lt_iff_toInt_lt, Int64.le_iff_toInt_le] at *; omega) | (simp_all; done))
  · refine aw_iconst (v := 1) k46_28 (by decide) ?_
    refine aw_goto (t := 33) k46_29 (by decide) ?_
    refine aw_zreturn k46_33 hR_T_closesWell ?_ ?_ ?_
    all_goals first | rfl | exact Or.inl rfl | exact Or.inr rfl | assumption | (simp_all; done) | ((repeat' split) <;> first | rfl | (simp only [Int32.lt_iff_toInt_lt, Int32.le_iff_toInt_le, Int64.lt_iff_toInt_lt, Int64.le_iff_toInt_le] at *; omega) | (simp_all; done))
def tShare (M : mM) (k n c : Nat) (err : Int32) : Int32 := if 0 < (M (7, k, 2) n).toInt64 then (jfloor (err.toInt64 * (M (7, k, 2) c).toInt64) (M (7, k, 2) n).toInt64).toInt32 else 0
theorem s_T_shareOf {d k n c : Nat} {M : mM} {err : Int32} (hk : k < 7) (hn : n < 13) (h : M (4, k, 0) 5 = nI n) (hc : c < 13) : CT iT_shareOf (d + 2) [vR 4 k 0, vI err, vI (nI c)] M (.inl (some (vI (tShare M k n c err)))) M 0 := by
  refine ct_go hL_T_shareOf rfl ?_
  unfold tShare
  refine aw_aload_n k49_0 rfl ?_
  refine aw_getR k49_1 hC_T_shareOf fs_T_18 (by decide) ⟨(by first | assumption | decide), rfl⟩ rfl ?_
  refine aw_aload_n k49_4 rfl ?_
  refine aw_getI k49_5 hC_T_shareOf fs_T_34 (by decide) ⟨(by first | assumption | decide), rfl⟩ rfl ?_
  rw [h]
  refine aw_callN2 k49_8 hC_T_shareOf ok_A_cellOf sn_T_37 hH_A_cellOf (by rw [hL_A_cellOf]; exact Nat.le_of_ble_eq_true rfl) (Nat.le_of_ble_eq_true rfl) (s_A_cell7 hk (by decide) hn) ?_
  refine aw_i2l k49_11 ?_
  refine aw_lstore_n k49_12 (Nat.le_of_ble_eq_true rfl) rfl ?_
  refine aw_lload_n k49_13 rfl ?_
  refine aw_lconst (v := 0) k49_14 (by decide) ?_
  refine aw_lcmp_gt 21 k49_15 k49_16 (by decide) (fun c_15 => ?_) (fun c_15 => ?_)
  · refine aw_iload_n k49_21 rfl ?_
    refine aw_i2l k49_22 ?_
    refine aw_aload_n k49_23 rfl ?_
    refine aw_getR k49_24 hC_T_shareOf fs_T_18 (by decide) ⟨(by first | assumption | decide), rfl⟩ rfl ?_
    refine aw_iload_n k49_27 rfl ?_
    refine aw_callN2 k49_28 hC_T_shareOf ok_A_cellOf sn_T_37 hH_A_cellOf (by rw [hL_A_cellOf]; exact Nat.le_of_ble_eq_true rfl) (Nat.le_of_ble_eq_true rfl) (s_A_cell7 hk (by decide) hc) ?_
    refine aw_i2l k49_31 ?_
    refine aw_lmul k49_32 ?_
    refine aw_lstore k49_33 (Nat.le_of_ble_eq_true rfl) rfl ?_
    refine aw_lload k49_35 rfl ?_
    refine aw_lload_n k49_37 rfl ?_
    refine aw_callS2 k49_38 hC_T_shareOf ok_J_floorDiv ss_T_61 hH_J_floorDiv (by rw [hL_J_floorDiv]; exact Nat.le_of_ble_eq_true rfl) (Nat.le_of_ble_eq_true rfl) (s_J_floorDiv (fun q => by rw [q] at c_15; exact absurd c_15 (by decide))) ?_
    refine aw_l2i k49_41 ?_
    refine aw_ireturn k49_42 hR_T_shareOf ?_ ?_
    all_goals first | rfl | exact Or.inl rfl | exact Or.inr rfl | assumption | (simp_all; done) | ((repeat' split) <;> first | rfl | (simp only [Int32.lt_iff_toInt_lt, Int32.le_iff_toInt_le, Int64.lt_iff_toInt_lt, Int64.le_iff_toInt_le] at *; omega) | (simp_all; done))
  · refine aw_iconst (v := 0) k49_19 (by decide) ?_
    refine aw_ireturn k49_20 hR_T_shareOf ?_ ?_
    all_goals first | rfl | exact Or.inl rfl | exact Or.inr rfl | assumption | (simp_all; done) | ((repeat' split) <;> first | rfl | (simp only [Int32.lt_iff_toInt_lt, Int32.le_iff_toInt_le, Int64.lt_iff_toInt_lt, Int64.le_iff_toInt_le] at *; omega) | (simp_all; done))
def tAdj (M : mM) (k n c w : Nat) : Int32 := M (4, k, 0) (3 + w) + M (7, k, w) c - tShare M k n c (M (7, k, w) n)
theorem s_T_adjustedEastAt {d k n c : Nat} {M : mM} (hk : k < 7) (hn : n < 13) (h : M (4, k, 0) 5 = nI n) (hc : c < 13) : CT iT_adjustedEastAt (d + 3) [vR 4 k 0, vI (nI c)] M (.inl (some (vI (tAdj M k n c 0)))) M 0 := by
  refine ct_go hL_T_adjustedEastAt rfl ?_
  refine aw_aload_n k47_0 rfl ?_
  refine aw_getI k47_1 hC_T_adjustedEastAt fs_T_27 (by decide) ⟨(by first | assumption | decide), rfl⟩ rfl ?_
  refine aw_aload_n k47_4 rfl ?_
  refine aw_getR k47_5 hC_T_adjustedEastAt fs_T_9 (by decide) ⟨(by first | assumption | decide), rfl⟩ rfl ?_
  refine aw_iload_n k47_8 rfl ?_
  refine aw_callN2 k47_9 hC_T_adjustedEastAt ok_A_cellOf sn_T_37 hH_A_cellOf (by rw [hL_A_cellOf]; exact Nat.le_of_ble_eq_true rfl) (Nat.le_of_ble_eq_true rfl) (s_A_cell7 hk (by decide) hc) ?_
  refine aw_iadd k47_12 ?_
  refine aw_aload_n k47_13 rfl ?_
  refine aw_aload_n k47_14 rfl ?_
  refine aw_callV0 k47_15 hC_T_adjustedEastAt ok_T_closingEast sv_T_41 hH_T_closingEast ⟨(by first | assumption | decide), rfl⟩ (by decide) hN_T_closingEast (by rw [hL_T_closingEast]; exact Nat.le_of_ble_eq_true rfl) (Nat.le_of_ble_eq_true rfl) (s_T_closingEast hk hn h) ?_
  refine aw_iload_n k47_18 rfl ?_
  refine aw_callV2 k47_19 hC_T_adjustedEastAt ok_T_shareOf sv_T_57 hH_T_shareOf ⟨(by first | assumption | decide), rfl⟩ (by decide) hN_T_shareOf (by rw [hL_T_shareOf]; exact Nat.le_of_ble_eq_true rfl) (Nat.le_of_ble_eq_true rfl) (s_T_shareOf hk hn h hc) ?_
  refine aw_isub k47_22 ?_
  refine aw_ireturn k47_23 hR_T_adjustedEastAt ?_ ?_
  all_goals first | rfl | exact Or.inl rfl | exact Or.inr rfl | assumption | (simp_all; done) | ((repeat' split) <;> first | rfl | (simp only [Int32.lt_iff_toInt_lt, Int32.le_iff_toInt_le, Int64.lt_iff_toInt_lt, Int64.le_iff_toInt_le] at *; omega) | (simp_all; done))
theorem s_T_adjustedNorthAt {d k n c : Nat} {M : mM} (hk : k < 7) (hn : n < 13) (h : M (4, k, 0) 5 = nI n) (hc : c < 13) : CT iT_adjustedNorthAt (d + 3) [vR 4 k 0, vI (nI c)] M (.inl (some (vI (tAdj M k n c 1)))) M 0 := by
  refine ct_go hL_T_adjustedNorthAt rfl ?_
  refine aw_aload_n k48_0 rfl ?_
  refine aw_getI k48_1 hC_T_adjustedNorthAt fs_T_31 (by decide) ⟨(by first | assumption | decide), rfl⟩ rfl ?_
  refine aw_aload_n k48_4 rfl ?_
  refine aw_getR k48_5 hC_T_adjustedNorthAt fs_T_15 (by decide) ⟨(by first | assumption | decide), rfl⟩ rfl ?_
  refine aw_iload_n k48_8 rfl ?_
  refine aw_callN2 k48_9 hC_T_adjustedNorthAt ok_A_cellOf sn_T_37 hH_A_cellOf (by rw [hL_A_cellOf]; exact Nat.le_of_ble_eq_true rfl) (Nat.le_of_ble_eq_true rfl) (s_A_cell7 hk (by decide) hc) ?_
  refine aw_iadd k48_12 ?_
  refine aw_aload_n k48_13 rfl ?_
  refine aw_aload_n k48_14 rfl ?_
  refine aw_callV0 k48_15 hC_T_adjustedNorthAt ok_T_closingNorth sv_T_51 hH_T_closingNorth ⟨(by first | assumption | decide), rfl⟩ (by decide) hN_T_closingNorth (by rw [hL_T_closingNorth]; exact Nat.le_of_ble_eq_true rfl) (Nat.le_of_ble_eq_true rfl) (s_T_closingNorth hk hn h) ?_
  refine aw_iload_n k48_18 rfl ?_
  refine aw_callV2 k48_19 hC_T_adjustedNorthAt ok_T_shareOf sv_T_57 hH_T_shareOf ⟨(by first | assumption | decide), rfl⟩ (by decide) hN_T_shareOf (by rw [hL_T_shareOf]; exact Nat.le_of_ble_eq_true rfl) (Nat.le_of_ble_eq_true rfl) (s_T_shareOf hk hn h hc) ?_
  refine aw_isub k48_22 ?_
  refine aw_ireturn k48_23 hR_T_adjustedNorthAt ?_ ?_
  all_goals first | rfl | exact Or.inl rfl | exact Or.inr rfl | assumption | (simp_all; done) | ((repeat' split) <;> first | rfl | (simp only [Int32.lt_iff_toInt_lt, Int32.le_iff_toInt_le, Int64.lt_iff_toInt_lt, Int64.le_iff_toInt_le] at *; omega) | (simp_all; done))
def tCopy (M : mM) (k k' : Nat) : mM :=
  let M1 := mCpy (mCpy (mCpy M (7, k', 0) (7, k, 0) 13) (7, k', 1) (7, k, 1) 13) (7, k', 2) (7, k, 2) 13
  let M2 := mUp M1 (4, k, 0) 3 (M1 (4, k', 0) 3)
  let M3 := mUp M2 (4, k, 0) 4 (M2 (4, k', 0) 4)
  mUp M3 (4, k, 0) 5 (M3 (4, k', 0) 5)
theorem s_T_copyFrom {d k k' : Nat} {M : mM} (hk : k < 7) (hk' : k' < 7) : CT iT_copyFrom (d + 1) [vR 4 k 0, vR 4 k' 0] M (.inl none) (tCopy M k k') 0 := by
  refine ct_go hL_T_copyFrom rfl ?_
  refine aw_aload_n k37_0 rfl ?_
  refine aw_getR k37_1 hC_T_copyFrom fs_T_9 (by decide) ⟨(by first | assumption | decide), rfl⟩ rfl ?_
  refine aw_iconst (v := 0) k37_4 (by decide) ?_
  refine aw_aload_n k37_5 rfl ?_
  refine aw_getR k37_6 hC_T_copyFrom fs_T_9 (by decide) ⟨(by first | assumption | decide), rfl⟩ rfl ?_
  refine aw_iconst (v := 0) k37_9 (by decide) ?_
  refine aw_bipush (v := 13) k37_10 (by decide) ?_
  refine aw_acopy (k := 13) k37_12 hC_T_copyFrom ac_T_21 hAC (by first | exact ⟨rfl, rfl⟩ | exact ⟨by assumption, rfl⟩ | exact ⟨by assumption, by assumption⟩ | exact ⟨rfl, by decide⟩ | exact ⟨by assumption, by decide⟩ | exact ⟨by decide, rfl⟩ | exact ⟨by decide, by decide⟩ | exact ⟨by decide, by assumption⟩ | assumption) (by first | exact ⟨rfl, rfl⟩ | exact ⟨by assumption, rfl⟩ | exact ⟨by assumption, by assumption⟩ | exact ⟨rfl, by decide⟩ | exact ⟨by assumption, by decide⟩ | exact ⟨by decide, rfl⟩ | exact ⟨by decide, by decide⟩ | exact ⟨by decide, by assumption⟩ | assumption) rfl rfl rfl rfl (Nat.le_of_ble_eq_true rfl) (Nat.le_of_ble_eq_true rfl) (by decide) (Nat.le_of_ble_eq_true rfl) ?_
  refine aw_aload_n k37_15 rfl ?_
  refine aw_getR k37_16 hC_T_copyFrom fs_T_15 (by decide) ⟨(by first | assumption | decide), rfl⟩ rfl ?_
  refine aw_iconst (v := 0) k37_19 (by decide) ?_
  refine aw_aload_n k37_20 rfl ?_
  refine aw_getR k37_21 hC_T_copyFrom fs_T_15 (by decide) ⟨(by first | assumption | decide), rfl⟩ rfl ?_
  refine aw_iconst (v := 0) k37_24 (by decide) ?_
  refine aw_bipush (v := 13) k37_25 (by decide) ?_
  refine aw_acopy (k := 13) k37_27 hC_T_copyFrom ac_T_21 hAC (by first | exact ⟨rfl, rfl⟩ | exact ⟨by assumption, rfl⟩ | exact ⟨by assumption, by assumption⟩ | exact ⟨rfl, by decide⟩ | exact ⟨by assumption, by decide⟩ | exact ⟨by decide, rfl⟩ | exact ⟨by decide, by decide⟩ | exact ⟨by decide, by assumption⟩ | assumption) (by first | exact ⟨rfl, rfl⟩ | exact ⟨by assumption, rfl⟩ | exact ⟨by assumption, by assumption⟩ | exact ⟨rfl, by decide⟩ | exact ⟨by assumption, by decide⟩ | exact ⟨by decide, rfl⟩ | exact ⟨by decide, by decide⟩ | exact ⟨by decide, by assumption⟩ | assumption) rfl rfl rfl rfl (Nat.le_of_ble_eq_true rfl) (Nat.le_of_ble_eq_true rfl) (by decide) (Nat.le_of_ble_eq_true rfl) ?_
  refine aw_aload_n k37_30 rfl ?_
  refine aw_getR k37_31 hC_T_copyFrom fs_T_18 (by decide) ⟨(by first | assumption | decide), rfl⟩ rfl ?_
  refine aw_iconst (v := 0) k37_34 (by decide) ?_
  refine aw_aload_n k37_35 rfl ?_
  refine aw_getR k37_36 hC_T_copyFrom fs_T_18 (by decide) ⟨(by first | assumption | decide), rfl⟩ rfl ?_
  refine aw_iconst (v := 0) k37_39 (by decide) ?_
  refine aw_bipush (v := 13) k37_40 (by decide) ?_
  refine aw_acopy (k := 13) k37_42 hC_T_copyFrom ac_T_21 hAC (by first | exact ⟨rfl, rfl⟩ | exact ⟨by assumption, rfl⟩ | exact ⟨by assumption, by assumption⟩ | exact ⟨rfl, by decide⟩ | exact ⟨by assumption, by decide⟩ | exact ⟨by decide, rfl⟩ | exact ⟨by decide, by decide⟩ | exact ⟨by decide, by assumption⟩ | assumption) (by first | exact ⟨rfl, rfl⟩ | exact ⟨by assumption, rfl⟩ | exact ⟨by assumption, by assumption⟩ | exact ⟨rfl, by decide⟩ | exact ⟨by assumption, by decide⟩ | exact ⟨by decide, rfl⟩ | exact ⟨by decide, by decide⟩ | exact ⟨by decide, by assumption⟩ | assumption) rfl rfl rfl rfl (Nat.le_of_ble_eq_true rfl) (Nat.le_of_ble_eq_true rfl) (by decide) (Nat.le_of_ble_eq_true rfl) ?_
  refine aw_aload_n k37_45 rfl ?_
  refine aw_aload_n k37_46 rfl ?_
  refine aw_getI k37_47 hC_T_copyFrom fs_T_27 (by decide) ⟨(by first | assumption | decide), rfl⟩ rfl ?_
  refine aw_putI k37_50 hC_T_copyFrom fs_T_27 (by decide) ⟨(by first | assumption | decide), rfl⟩ rfl po_4_3 ?_
  refine aw_aload_n k37_53 rfl ?_
  refine aw_aload_n k37_54 rfl ?_
  refine aw_getI k37_55 hC_T_copyFrom fs_T_31 (by decide) ⟨(by first | assumption | decide), rfl⟩ rfl ?_
  refine aw_putI k37_58 hC_T_copyFrom fs_T_31 (by decide) ⟨(by first | assumption | decide), rfl⟩ rfl po_4_4 ?_
  refine aw_aload_n k37_61 rfl ?_
  refine aw_aload_n k37_62 rfl ?_
  refine aw_getI k37_63 hC_T_copyFrom fs_T_34 (by decide) ⟨(by first | assumption | decide), rfl⟩ rfl ?_
  refine aw_putI k37_66 hC_T_copyFrom fs_T_34 (by decide) ⟨(by first | assumption | decide), rfl⟩ rfl po_4_5 ?_
  refine aw_return k37_69 hR_T_copyFrom ?_
  all_goals first | rfl | exact Or.inl rfl | exact Or.inr rfl | assumption | (simp_all; done) | ((repeat' split) <;> first | rfl | (simp only [Int32.lt_iff_toInt_lt, Int32.le_iff_toInt_le, Int64.lt_iff_toInt_lt, Int64.le_iff_toInt_le] at *; omega) | (simp_all; done))
def tApp (M : mM) (k n : Nat) (e o l : Int32) : mM :=
  let M1 := mUp M (7, k, 0) (n + 1) (M (7, k, 0) n + e)
  let M2 := mUp M1 (7, k, 1) (n + 1) (M1 (7, k, 1) n + o)
  let M3 := mUp M2 (7, k, 2) (n + 1) (M2 (7, k, 2) n + l)
  mUp M3 (4, k, 0) 5 (nI (n + 1))
theorem mUp_at {M : mM} {r r' : mRef} {k k' : Nat} {v : Int32} : mUp M r k v r' k' = if r' = r ∧ k' = k then v else M r' k' := rfl
theorem mCpy_at {M : mM} {a b r' : mRef} {n k' : Nat} : mCpy M a b n r' k' = if r' = b ∧ k' < n then M a k' else M r' k' := rfl
theorem s_T_append {d k n : Nat} {M : mM} {x1 x2 x3 : Int32} (hk : k < 7) (hn : n < 12) (h : M (4, k, 0) 5 = nI n) : CT iT_append d [vR 4 k 0, vI x1, vI x2, vI x3] M (.inl (some (vI 1))) (tApp M k n x1 x2 x3) 0 := by
  refine ct_go hL_T_append rfl ?_
  have h0 : ¬ nI n < 0 := nI_pos (by omega)
  have h12 : nI n < 12 := nI_lt (a := n) (b := 12) hn (by omega)
  have hc : (nI n).toNatClampNeg = n := nI_clamp (by omega)
  have hc1 : (nI (n + 1)).toNatClampNeg = n + 1 := nI_clamp (by omega)
  have g : ∀ (M : mM) (w j : Nat) (v : Int32), mUp M (7, k, w) j v (4, k, 0) 5 = M (4, k, 0) 5 := fun M w j v => by rw [mUp_ne (by simp)]
  refine aw_aload_n k38_0 rfl ?_
  refine aw_getI k38_1 hC_T_append fs_T_34 (by decide) ⟨(by first | assumption | decide), rfl⟩ rfl ?_
  try simp only [g, h, nI_1, hc, hc1]
  refine aw_if_lt 16 k38_4 (by decide) (fun c_4 => ?_) (fun c_4 => ?_)
  · exact absurd c_4 h0
  · refine aw_aload_n k38_7 rfl ?_
    refine aw_getI k38_8 hC_T_append fs_T_34 (by decide) ⟨(by first | assumption | decide), rfl⟩ rfl ?_
    try simp only [g, h, nI_1, hc, hc1]
    refine aw_bipush (v := 12) k38_11 (by decide) ?_
    refine aw_icmp_lt 18 k38_13 (by decide) (fun c_13 => ?_) (fun c_13 => ?_)
    · refine aw_aload_n k38_18 rfl ?_
      refine aw_getR k38_19 hC_T_append fs_T_9 (by decide) ⟨(by first | assumption | decide), rfl⟩ rfl ?_
      try simp only [g, h, nI_1, hc, hc1]
      refine aw_aload_n k38_22 rfl ?_
      refine aw_getI k38_23 hC_T_append fs_T_34 (by decide) ⟨(by first | assumption | decide), rfl⟩ rfl ?_
      try simp only [g, h, nI_1, hc, hc1]
      refine aw_iconst (v := 1) k38_26 (by decide) ?_
      refine aw_iadd k38_27 ?_
      rw [nI_1]
      refine aw_aload_n k38_28 rfl ?_
      refine aw_getR k38_29 hC_T_append fs_T_9 (by decide) ⟨(by first | assumption | decide), rfl⟩ rfl ?_
      try simp only [g, h, nI_1, hc, hc1]
      refine aw_aload_n k38_32 rfl ?_
      refine aw_getI k38_33 hC_T_append fs_T_34 (by decide) ⟨(by first | assumption | decide), rfl⟩ rfl ?_
      try simp only [g, h, nI_1, hc, hc1]
      refine aw_iaload k38_36 (by first | exact ⟨rfl, rfl⟩ | exact ⟨by assumption, rfl⟩ | exact ⟨by assumption, by assumption⟩ | exact ⟨rfl, by decide⟩ | exact ⟨by assumption, by decide⟩ | exact ⟨by decide, rfl⟩ | exact ⟨by decide, by decide⟩ | exact ⟨by decide, by assumption⟩ | assumption) (by first | rfl | assumption) (by first | rfl | assumption) (by first | assumption | (refine vp_in_nI ?_ ?_ <;> simp only [mLen] <;> omega)) ?_
      try simp only [g, h, nI_1, hc, hc1]
      refine aw_iload_n k38_37 rfl ?_
      refine aw_iadd k38_38 ?_
      refine aw_iastore k38_39 (by first | exact ⟨rfl, rfl⟩ | exact ⟨by assumption, rfl⟩ | exact ⟨by assumption, by assumption⟩ | exact ⟨rfl, by decide⟩ | exact ⟨by assumption, by decide⟩ | exact ⟨by decide, rfl⟩ | exact ⟨by decide, by decide⟩ | exact ⟨by decide, by assumption⟩ | assumption) (by first | rfl | assumption) (by first | rfl | assumption) (by first | assumption | (refine vp_in_nI ?_ ?_ <;> simp only [mLen] <;> omega)) ?_
      try simp only [g, h, nI_1, hc, hc1]
      refine aw_aload_n k38_40 rfl ?_
      refine aw_getR k38_41 hC_T_append fs_T_15 (by decide) ⟨(by first | assumption | decide), rfl⟩ rfl ?_
      try simp only [g, h, nI_1, hc, hc1]
      refine aw_aload_n k38_44 rfl ?_
      refine aw_getI k38_45 hC_T_append fs_T_34 (by decide) ⟨(by first | assumption | decide), rfl⟩ rfl ?_
      try simp only [g, h, nI_1, hc, hc1]
      refine aw_iconst (v := 1) k38_48 (by decide) ?_
      refine aw_iadd k38_49 ?_
      rw [nI_1]
      refine aw_aload_n k38_50 rfl ?_
      refine aw_getR k38_51 hC_T_append fs_T_15 (by decide) ⟨(by first | assumption | decide), rfl⟩ rfl ?_
      try simp only [g, h, nI_1, hc, hc1]
      refine aw_aload_n k38_54 rfl ?_
      refine aw_getI k38_55 hC_T_append fs_T_34 (by decide) ⟨(by first | assumption | decide), rfl⟩ rfl ?_
      try simp only [g, h, nI_1, hc, hc1]
      refine aw_iaload k38_58 (by first | exact ⟨rfl, rfl⟩ | exact ⟨by assumption, rfl⟩ | exact ⟨by assumption, by assumption⟩ | exact ⟨rfl, by decide⟩ | exact ⟨by assumption, by decide⟩ | exact ⟨by decide, rfl⟩ | exact ⟨by decide, by decide⟩ | exact ⟨by decide, by assumption⟩ | assumption) (by first | rfl | assumption) (by first | rfl | assumption) (by first | assumption | (refine vp_in_nI ?_ ?_ <;> simp only [mLen] <;> omega)) ?_
      try simp only [g, h, nI_1, hc, hc1]
      refine aw_iload_n k38_59 rfl ?_
      refine aw_iadd k38_60 ?_
      refine aw_iastore k38_61 (by first | exact ⟨rfl, rfl⟩ | exact ⟨by assumption, rfl⟩ | exact ⟨by assumption, by assumption⟩ | exact ⟨rfl, by decide⟩ | exact ⟨by assumption, by decide⟩ | exact ⟨by decide, rfl⟩ | exact ⟨by decide, by decide⟩ | exact ⟨by decide, by assumption⟩ | assumption) (by first | rfl | assumption) (by first | rfl | assumption) (by first | assumption | (refine vp_in_nI ?_ ?_ <;> simp only [mLen] <;> omega)) ?_
      try simp only [g, h, nI_1, hc, hc1]
      refine aw_aload_n k38_62 rfl ?_
      refine aw_getR k38_63 hC_T_append fs_T_18 (by decide) ⟨(by first | assumption | decide), rfl⟩ rfl ?_
      try simp only [g, h, nI_1, hc, hc1]
      refine aw_aload_n k38_66 rfl ?_
      refine aw_getI k38_67 hC_T_append fs_T_34 (by decide) ⟨(by first | assumption | decide), rfl⟩ rfl ?_
      try simp only [g, h, nI_1, hc, hc1]
      refine aw_iconst (v := 1) k38_70 (by decide) ?_
      refine aw_iadd k38_71 ?_
      rw [nI_1]
      refine aw_aload_n k38_72 rfl ?_
      refine aw_getR k38_73 hC_T_append fs_T_18 (by decide) ⟨(by first | assumption | decide), rfl⟩ rfl ?_
      try simp only [g, h, nI_1, hc, hc1]
      refine aw_aload_n k38_76 rfl ?_
      refine aw_getI k38_77 hC_T_append fs_T_34 (by decide) ⟨(by first | assumption | decide), rfl⟩ rfl ?_
      try simp only [g, h, nI_1, hc, hc1]
      refine aw_iaload k38_80 (by first | exact ⟨rfl, rfl⟩ | exact ⟨by assumption, rfl⟩ | exact ⟨by assumption, by assumption⟩ | exact ⟨rfl, by decide⟩ | exact ⟨by assumption, by decide⟩ | exact ⟨by decide, rfl⟩ | exact ⟨by decide, by decide⟩ | exact ⟨by decide, by assumption⟩ | assumption) (by first | rfl | assumption) (by first | rfl | assumption) (by first | assumption | (refine vp_in_nI ?_ ?_ <;> simp only [mLen] <;> omega)) ?_
      try simp only [g, h, nI_1, hc, hc1]
      refine aw_iload_n k38_81 rfl ?_
      refine aw_iadd k38_82 ?_
      refine aw_iastore k38_83 (by first | exact ⟨rfl, rfl⟩ | exact ⟨by assumption, rfl⟩ | exact ⟨by assumption, by assumption⟩ | exact ⟨rfl, by decide⟩ | exact ⟨by assumption, by decide⟩ | exact ⟨by decide, rfl⟩ | exact ⟨by decide, by decide⟩ | exact ⟨by decide, by assumption⟩ | assumption) (by first | rfl | assumption) (by first | rfl | assumption) (by first | assumption | (refine vp_in_nI ?_ ?_ <;> simp only [mLen] <;> omega)) ?_
      try simp only [g, h, nI_1, hc, hc1]
      refine aw_aload_n k38_84 rfl ?_
      first | refine aw_dupI k38_85 ?_ | refine aw_dupR k38_85 ?_
      refine aw_getI k38_86 hC_T_append fs_T_34 (by decide) ⟨(by first | assumption | decide), rfl⟩ rfl ?_
      try simp only [g, h, nI_1, hc, hc1]
      refine aw_iconst (v := 1) k38_89 (by decide) ?_
      refine aw_iadd k38_90 ?_
      rw [nI_1]
      refine aw_putI k38_91 hC_T_append fs_T_34 (by decide) ⟨(by first | assumption | decide), rfl⟩ rfl po_4_5 ?_
      try simp only [g, h, nI_1, hc, hc1]
      refine aw_iconst (v := 1) k38_94 (by decide) ?_
      refine aw_zreturn k38_95 hR_T_append ?_ ?_ ?_
      all_goals first | rfl | exact Or.inl rfl | exact Or.inr rfl | assumption | (simp_all; done) | ((repeat' split) <;> first | rfl | (simp only [Int32.lt_iff_toInt_lt, Int32.le_iff_toInt_le, Int64.lt_iff_toInt_lt, Int64.le_iff_toInt_le] at *; omega) | (simp_all; done))
    · exact absurd h12 c_13
theorem s_T_appendFull {d k : Nat} {M : mM} {x1 x2 x3 : Int32} (hk : k < 7) (h : M (4, k, 0) 5 = nI 12) : CT iT_append d [vR 4 k 0, vI x1, vI x2, vI x3] M (.inl (some (vI 0))) M 0 := by
  refine ct_go hL_T_append rfl ?_
  have h0 : ¬ nI 12 < 0 := nI_pos (by omega)
  refine aw_aload_n k38_0 rfl ?_
  refine aw_getI k38_1 hC_T_append fs_T_34 (by decide) ⟨(by first | assumption | decide), rfl⟩ rfl ?_
  try simp only [h]
  refine aw_if_lt 16 k38_4 (by decide) (fun c_4 => ?_) (fun c_4 => ?_)
  · exact absurd c_4 h0
  · refine aw_aload_n k38_7 rfl ?_
    refine aw_getI k38_8 hC_T_append fs_T_34 (by decide) ⟨(by first | assumption | decide), rfl⟩ rfl ?_
    try simp only [h]
    refine aw_bipush (v := 12) k38_11 (by decide) ?_
    refine aw_icmp_lt 18 k38_13 (by decide) (fun c_13 => ?_) (fun c_13 => ?_)
    · exact absurd c_13 (by decide)
    · refine aw_iconst (v := 0) k38_16 (by decide) ?_
      refine aw_zreturn k38_17 hR_T_append ?_ ?_ ?_
      all_goals first | rfl | exact Or.inl rfl | exact Or.inr rfl | assumption | (simp_all; done) | ((repeat' split) <;> first | rfl | (simp only [Int32.lt_iff_toInt_lt, Int32.le_iff_toInt_le, Int64.lt_iff_toInt_lt, Int64.le_iff_toInt_le] at *; omega) | (simp_all; done))
theorem s_T_dropLast {d k n : Nat} {M : mM} (hk : k < 7) (hn : n < 12) (h : M (4, k, 0) 5 = nI (n + 1)) : CT iT_dropLast d [vR 4 k 0] M (.inl (some (vI 1))) (mUp M (4, k, 0) 5 (nI n)) 0 := by
  refine ct_go hL_T_dropLast rfl ?_
  have h0 : 0 < nI (n + 1) := nI_lt (a := 0) (by omega) (by omega)
  refine aw_aload_n k39_0 rfl ?_
  refine aw_getI k39_1 hC_T_dropLast fs_T_34 (by decide) ⟨(by first | assumption | decide), rfl⟩ rfl ?_
  try simp only [h]
  refine aw_if_gt 9 k39_4 (by decide) (fun c_4 => ?_) (fun c_4 => ?_)
  · refine aw_aload_n k39_9 rfl ?_
    first | refine aw_dupI k39_10 ?_ | refine aw_dupR k39_10 ?_
    refine aw_getI k39_11 hC_T_dropLast fs_T_34 (by decide) ⟨(by first | assumption | decide), rfl⟩ rfl ?_
    try simp only [h]
    refine aw_iconst (v := 1) k39_14 (by decide) ?_
    refine aw_isub k39_15 ?_
    rw [nI_pred]
    refine aw_putI k39_16 hC_T_dropLast fs_T_34 (by decide) ⟨(by first | assumption | decide), rfl⟩ rfl po_4_5 ?_
    try simp only [h]
    refine aw_iconst (v := 1) k39_19 (by decide) ?_
    refine aw_zreturn k39_20 hR_T_dropLast ?_ ?_ ?_
    all_goals first | rfl | exact Or.inl rfl | exact Or.inr rfl | assumption | (simp_all; done) | ((repeat' split) <;> first | rfl | (simp only [Int32.lt_iff_toInt_lt, Int32.le_iff_toInt_le, Int64.lt_iff_toInt_lt, Int64.le_iff_toInt_le] at *; omega) | (simp_all; done))
  · exact absurd h0 c_4
theorem s_T_dropLast0 {d k : Nat} {M : mM} (hk : k < 7) (h : M (4, k, 0) 5 = nI 0) : CT iT_dropLast d [vR 4 k 0] M (.inl (some (vI 0))) M 0 := by
  refine ct_go hL_T_dropLast rfl ?_
  refine aw_aload_n k39_0 rfl ?_
  refine aw_getI k39_1 hC_T_dropLast fs_T_34 (by decide) ⟨(by first | assumption | decide), rfl⟩ rfl ?_
  try simp only [h]
  refine aw_if_gt 9 k39_4 (by decide) (fun c_4 => ?_) (fun c_4 => ?_)
  · exact absurd c_4 (by decide)
  · refine aw_iconst (v := 0) k39_7 (by decide) ?_
    refine aw_zreturn k39_8 hR_T_dropLast ?_ ?_ ?_
    all_goals first | rfl | exact Or.inl rfl | exact Or.inr rfl | assumption | (simp_all; done) | ((repeat' split) <;> first | rfl | (simp only [Int32.lt_iff_toInt_lt, Int32.le_iff_toInt_le, Int64.lt_iff_toInt_lt, Int64.le_iff_toInt_le] at *; omega) | (simp_all; done))
theorem s_T_dropAllLegs {d k : Nat} {M : mM} (hk : k < 7) : CT iT_dropAllLegs d [vR 4 k 0] M (.inl none) (mUp M (4, k, 0) 5 0) 0 := by
  refine ct_go hL_T_dropAllLegs rfl ?_
  refine aw_aload_n k40_0 rfl ?_
  refine aw_iconst (v := 0) k40_1 (by decide) ?_
  refine aw_putI k40_2 hC_T_dropAllLegs fs_T_34 (by decide) ⟨(by first | assumption | decide), rfl⟩ rfl po_4_5 ?_
  refine aw_return k40_5 hR_T_dropAllLegs ?_
  all_goals first | rfl | exact Or.inl rfl | exact Or.inr rfl | assumption | (simp_all; done) | ((repeat' split) <;> first | rfl | (simp only [Int32.lt_iff_toInt_lt, Int32.le_iff_toInt_le, Int64.lt_iff_toInt_lt, Int64.le_iff_toInt_le] at *; omega) | (simp_all; done))
theorem s_T_moveOrigin {d k : Nat} {M : mM} {x y : Int32} (hk : k < 7) : CT iT_moveOrigin d [vR 4 k 0, vI x, vI y] M (.inl none) (mUp (mUp M (4, k, 0) 3 x) (4, k, 0) 4 y) 0 := by
  refine ct_go hL_T_moveOrigin rfl ?_
  refine aw_aload_n k41_0 rfl ?_
  refine aw_iload_n k41_1 rfl ?_
  refine aw_putI k41_2 hC_T_moveOrigin fs_T_27 (by decide) ⟨(by first | assumption | decide), rfl⟩ rfl po_4_3 ?_
  refine aw_aload_n k41_5 rfl ?_
  refine aw_iload_n k41_6 rfl ?_
  refine aw_putI k41_7 hC_T_moveOrigin fs_T_31 (by decide) ⟨(by first | assumption | decide), rfl⟩ rfl po_4_4 ?_
  refine aw_return k41_10 hR_T_moveOrigin ?_
  all_goals first | rfl | exact Or.inl rfl | exact Or.inr rfl | assumption | (simp_all; done) | ((repeat' split) <;> first | rfl | (simp only [Int32.lt_iff_toInt_lt, Int32.le_iff_toInt_le, Int64.lt_iff_toInt_lt, Int64.le_iff_toInt_le] at *; omega) | (simp_all; done))
