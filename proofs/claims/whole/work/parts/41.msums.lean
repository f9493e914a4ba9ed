/-! THE MODEL: the sums of the legs -/
theorem s_M_before {d n w : Nat} {M : mM} (hn : n ≤ 12) (hw : w < 3) : CT iM_before d [vR 6 0 0, vI (nI n), vI (nI w)] M (.inl (some (vI (bef (M (13, 0, 0)) w n)))) M 0 := by
  refine ct_go hL_M_before rfl ?_
  have loop : ∀ (l j : Nat) (a : Int32), j + l = n → a = bef (M (13, 0, 0)) w j → AW iM_before d 5 [some (vR 6 0 0), some (vI (nI n)), some (vI (nI w)), some (vI a), some (vI (nI j))] [] M (.inl (some (vI (bef (M (13, 0, 0)) w n)))) M 0 := by
    intro l
    induction l with
    | zero =>
      intro j a hj ha
      obtain rfl : j = n := by omega
      subst ha
      refine aw_iload k124_5 rfl ?_
      refine aw_iload_n k124_7 rfl ?_
      refine aw_icmp_ge 33 k124_8 (by decide) (fun c_8 => ?_) (fun c_8 => ?_)
      · refine aw_iload_n k124_33 rfl ?_
        refine aw_ireturn k124_34 hR_M_before ?_ ?_
        all_goals first | rfl | exact Or.inl rfl | exact Or.inr rfl | assumption | (simp_all; done) | ((repeat' split) <;> first | rfl | (simp only [Int32.lt_iff_toInt_lt, Int32.le_iff_toInt_le, Int64.lt_iff_toInt_lt, Int64.le_iff_toInt_le] at *; omega) | (simp_all; done))
      · exact absurd (nI_leI (by omega) (by omega) |>.mpr (Nat.le_refl _)) c_8
    | succ l ih =>
      intro j a hj ha
      subst ha
      have hc : (nI (1 + 3 * j + w)).toNatClampNeg = 1 + 3 * j + w := nI_clamp (by omega)
      have hin : vp_in (nI (1 + 3 * j + w)) 190 := vp_in_nI (by omega) (by decide)
      refine aw_iload k124_5 rfl ?_
      refine aw_iload_n k124_7 rfl ?_
      refine aw_icmp_ge 33 k124_8 (by decide) (fun c_8 => ?_) (fun c_8 => ?_)
      · exact absurd (nI_le_of c_8) (by omega)
      · refine aw_iload_n k124_11 rfl ?_
        refine aw_aload_n k124_12 rfl ?_
        refine aw_getR k124_13 hC_M_before fs_M_7 (by decide) ⟨rfl, rfl⟩ rfl ?_
        try simp only [hc]
        refine aw_iconst (v := 1) k124_16 (by decide) ?_
        refine aw_iconst (v := 3) k124_17 (by decide) ?_
        refine aw_iload k124_18 rfl ?_
        refine aw_imul k124_20 ?_
        refine aw_iadd k124_21 ?_
        refine aw_iload_n k124_22 rfl ?_
        refine aw_iadd k124_23 ?_
        rw [ix_b]
        refine aw_iaload k124_24 (by first | exact ⟨rfl, rfl⟩ | exact ⟨by assumption, rfl⟩ | exact ⟨by assumption, by assumption⟩ | exact ⟨rfl, by decide⟩ | exact ⟨by assumption, by decide⟩ | exact ⟨by decide, rfl⟩ | exact ⟨by decide, by decide⟩ | exact ⟨by decide, by assumption⟩ | assumption) (by first | rfl | assumption) (by first | rfl | assumption) hin ?_
        try simp only [hc]
        refine aw_iadd k124_25 ?_
        refine aw_istore_n k124_26 (Nat.le_of_ble_eq_true rfl) rfl ?_
        refine aw_iinc (y := 1) k124_27 rfl (by decide) rfl ?_
        try simp only [hc]
        rw [nI_1 j]
        refine aw_goto (t := 5) k124_30 (by decide) ?_
        exact ih (j + 1) _ (by omega) rfl
  refine aw_iconst (v := 0) k124_0 (by decide) ?_
  refine aw_istore_n k124_1 (Nat.le_of_ble_eq_true rfl) rfl ?_
  refine aw_iconst (v := 0) k124_2 (by decide) ?_
  refine aw_istore k124_3 (Nat.le_of_ble_eq_true rfl) rfl ?_
  exact loop n 0 _ (by omega) rfl
theorem s_M_error {d n w : Nat} {M : mM} (h : M (13, 0, 0) 0 = nI n) (hn : n ≤ 12) (hw : w < 3) : CT iM_error (d + 1) [vR 6 0 0, vI (nI w)] M (.inl (some (vI (bef (M (13, 0, 0)) w n)))) M 0 := by
  refine ct_go hL_M_error rfl ?_
  refine aw_aload_n k125_0 rfl ?_
  refine aw_aload_n k125_1 rfl ?_
  refine aw_getR k125_2 hC_M_error fs_M_7 (by decide) ⟨rfl, rfl⟩ rfl ?_
  try simp only [tn0, h]
  refine aw_iconst (v := 0) k125_5 (by decide) ?_
  refine aw_iaload k125_6 (by first | exact ⟨rfl, rfl⟩ | exact ⟨by assumption, rfl⟩ | exact ⟨by assumption, by assumption⟩ | exact ⟨rfl, by decide⟩ | exact ⟨by assumption, by decide⟩ | exact ⟨by decide, rfl⟩ | exact ⟨by decide, by decide⟩ | exact ⟨by decide, by assumption⟩ | assumption) (by first | rfl | assumption) (by first | rfl | assumption) (vp_in_nI (n := 0) (by decide) (by decide)) ?_
  try simp only [tn0, h]
  refine aw_iload_n k125_7 rfl ?_
  refine aw_callV2 k125_8 hC_M_error ok_M_before sv_M_44 hH_M_before ⟨rfl, rfl⟩ (by decide) hN_M_before (by rw [hL_M_before]; exact Nat.le_of_ble_eq_true rfl) (Nat.le_of_ble_eq_true rfl) (s_M_before hn hw) ?_
  refine aw_ireturn k125_11 hR_M_error ?_ ?_
  all_goals first | rfl | exact Or.inl rfl | exact Or.inr rfl | assumption | (simp_all; done) | ((repeat' split) <;> first | rfl | (simp only [Int32.lt_iff_toInt_lt, Int32.le_iff_toInt_le, Int64.lt_iff_toInt_lt, Int64.le_iff_toInt_le] at *; omega) | (simp_all; done))
/-- as the model says it -/
def closeM (f : Nat → Int32) (n : Nat) : Bool := decide (200 * (labs (bef f 0 n).toInt64 + labs (bef f 1 n).toInt64) ≤ (bef f 2 n).toInt64)
theorem s_M_close {d n : Nat} {M : mM} (h : M (13, 0, 0) 0 = nI n) (hn : n ≤ 12) : CT iM_close (d + 2) [vR 6 0 0] M (.inl (some (vI (bI (closeM (M (13, 0, 0)) n))))) M 0 := by
  refine ct_go hL_M_close rfl ?_
  refine aw_ldc2_w k126_0 hC_M_close cl_M_48 ?_
  refine aw_aload_n k126_3 rfl ?_
  refine aw_iconst (v := 0) k126_4 (by decide) ?_
  refine aw_callV1 k126_5 hC_M_close ok_M_error sv_M_50 hH_M_error ⟨rfl, rfl⟩ (by decide) hN_M_error (by rw [hL_M_error]; exact Nat.le_of_ble_eq_true rfl) (Nat.le_of_ble_eq_true rfl) (s_M_error (w := 0) h hn (by decide)) ?_
  refine aw_i2l k126_8 ?_
  refine aw_callS1 k126_9 hC_M_close ok_M_sizeOf ss_M_53 hH_M_sizeOf (by rw [hL_M_sizeOf]; exact Nat.le_of_ble_eq_true rfl) (Nat.le_of_ble_eq_true rfl) s_M_sizeOf ?_
  refine aw_aload_n k126_12 rfl ?_
  refine aw_iconst (v := 1) k126_13 (by decide) ?_
  refine aw_callV1 k126_14 hC_M_close ok_M_error sv_M_50 hH_M_error ⟨rfl, rfl⟩ (by decide) hN_M_error (by rw [hL_M_error]; exact Nat.le_of_ble_eq_true rfl) (Nat.le_of_ble_eq_true rfl) (s_M_error (w := 1) h hn (by decide)) ?_
  refine aw_i2l k126_17 ?_
  refine aw_callS1 k126_18 hC_M_close ok_M_sizeOf ss_M_53 hH_M_sizeOf (by rw [hL_M_sizeOf]; exact Nat.le_of_ble_eq_true rfl) (Nat.le_of_ble_eq_true rfl) s_M_sizeOf ?_
  refine aw_ladd k126_21 ?_
  refine aw_lmul k126_22 ?_
  refine aw_aload_n k126_23 rfl ?_
  refine aw_iconst (v := 2) k126_24 (by decide) ?_
  refine aw_callV1 k126_25 hC_M_close ok_M_error sv_M_50 hH_M_error ⟨rfl, rfl⟩ (by decide) hN_M_error (by rw [hL_M_error]; exact Nat.le_of_ble_eq_true rfl) (Nat.le_of_ble_eq_true rfl) (s_M_error (w := 2) h hn (by decide)) ?_
  refine aw_i2l k126_28 ?_
  refine aw_lcmp_gt 37 k126_29 k126_30 (by decide) (fun c_29 => ?_) (fun c_29 => ?_)
  · refine aw_iconst (v := 0) k126_37 (by decide) ?_
    refine aw_zreturn k126_38 hR_M_close ?_ ?_ ?_
    · first | exact Or.inl rfl | exact Or.inr rfl
    · first | exact bI_t (decide_eq_true (Int64.not_lt.mp c_29)) | exact bI_f (decide_eq_false (Int64.not_le.mpr c_29))
    · rfl
  · refine aw_iconst (v := 1) k126_33 (by decide) ?_
    refine aw_goto (t := 38) k126_34 (by decide) ?_
    refine aw_zreturn k126_38 hR_M_close ?_ ?_ ?_
    · first | exact Or.inl rfl | exact Or.inr rfl
    · first | exact bI_t (decide_eq_true (Int64.not_lt.mp c_29)) | exact bI_f (decide_eq_false (Int64.not_le.mpr c_29))
    · rfl
def mfl (x y : Int64) : Int64 := if x - x / y * y < 0 then x / y - 1 else x / y
theorem s_M_floor {d : Nat} {M : mM} {x y : Int64} (hy : ¬ y = 0) : CT iM_floor d [vL x, vL y] M (.inl (some (vL (mfl x y)))) M 0 := by
  refine ct_go hL_M_floor rfl ?_
  refine aw_lload_n k127_0 rfl ?_
  refine aw_lload_n k127_1 rfl ?_
  refine aw_ldiv k127_2 hy ?_
  refine aw_lstore k127_3 (Nat.le_of_ble_eq_true rfl) rfl ?_
  refine aw_lload_n k127_5 rfl ?_
  refine aw_lload_n k127_6 rfl ?_
  refine aw_lrem k127_7 hy ?_
  refine aw_lconst (v := 0) k127_8 (by decide) ?_
  refine aw_lcmp_ge 20 k127_9 k127_10 (by decide) (fun c_9 => ?_) (fun c_9 => ?_)
  · refine aw_lload k127_20 rfl ?_
    refine aw_lreturn k127_22 hR_M_floor ?_ ?_
    · first | exact (if_pos (Int64.not_le.mp c_9)).symm | exact (if_neg (Int64.not_lt.mpr c_9)).symm
    · rfl
  · refine aw_lload k127_13 rfl ?_
    refine aw_lconst (v := 1) k127_15 (by decide) ?_
    refine aw_lsub k127_16 ?_
    refine aw_goto (t := 22) k127_17 (by decide) ?_
    refine aw_lreturn k127_22 hR_M_floor ?_ ?_
    · first | exact (if_pos (Int64.not_le.mp c_9)).symm | exact (if_neg (Int64.not_lt.mpr c_9)).symm
    · rfl
def adjM (f : Nat → Int32) (n c w : Nat) : Int32 := f (37 + w) + bef f w c - (if c = 0 then 0 else (mfl ((bef f w n).toInt64 * (bef f 2 c).toInt64) (bef f 2 n).toInt64).toInt32)
theorem s_M_adjusted {d n c w : Nat} {M : mM} (h : M (13, 0, 0) 0 = nI n) (hn : n ≤ 12) (hc : c ≤ n) (hw : w < 2) (hz : c = 0 ∨ ¬ (bef (M (13, 0, 0)) 2 n).toInt64 = 0) : CT iM_adjusted (d + 2) [vR 6 0 0, vI (nI c), vI (nI w)] M (.inl (some (vI (adjM (M (13, 0, 0)) n c w)))) M 0 := by
  have e37 : (37 : Int32) + nI w = nI (37 + w) := by rw [← nI_add]; rfl
  have hcl : (nI (37 + w)).toNatClampNeg = 37 + w := nI_clamp (by omega)
  have hin : vp_in (nI (37 + w)) 190 := vp_in_nI (by omega) (by decide)
  refine ct_go hL_M_adjusted rfl ?_
  by_cases h0 : c = 0
  · subst h0
    refine aw_iload_n k128_0 rfl ?_
    refine aw_if_ne 8 k128_1 (by decide) (fun c_1 => ?_) (fun c_1 => ?_)
    · exact absurd rfl c_1
    · refine aw_iconst (v := 0) k128_4 (by decide) ?_
      refine aw_goto (t := 32) k128_5 (by decide) ?_
      refine aw_istore_n k128_32 (Nat.le_of_ble_eq_true rfl) rfl ?_
      refine aw_aload_n k128_33 rfl ?_
      refine aw_getR k128_34 hC_M_adjusted fs_M_7 (by decide) ⟨rfl, rfl⟩ rfl ?_
      try simp only [hcl]
      refine aw_bipush (v := 37) k128_37 (by decide) ?_
      refine aw_iload_n k128_39 rfl ?_
      refine aw_iadd k128_40 ?_
      rw [e37]
      refine aw_iaload k128_41 (by first | exact ⟨rfl, rfl⟩ | exact ⟨by assumption, rfl⟩ | exact ⟨by assumption, by assumption⟩ | exact ⟨rfl, by decide⟩ | exact ⟨by assumption, by decide⟩ | exact ⟨by decide, rfl⟩ | exact ⟨by decide, by decide⟩ | exact ⟨by decide, by assumption⟩ | assumption) (by first | rfl | assumption) (by first | rfl | assumption) hin ?_
      try simp only [hcl]
      refine aw_aload_n k128_42 rfl ?_
      refine aw_iload_n k128_43 rfl ?_
      refine aw_iload_n k128_44 rfl ?_
      refine aw_callV2 k128_45 hC_M_adjusted ok_M_before sv_M_44 hH_M_before ⟨rfl, rfl⟩ (by decide) hN_M_before (by rw [hL_M_before]; exact Nat.le_of_ble_eq_true rfl) (Nat.le_of_ble_eq_true rfl) (s_M_before (n := 0) (by decide) (by omega)) ?_
      refine aw_iadd k128_48 ?_
      refine aw_iload_n k128_49 rfl ?_
      refine aw_isub k128_50 ?_
      refine aw_ireturn k128_51 hR_M_adjusted ?_ ?_
      all_goals first | rfl | exact Or.inl rfl | exact Or.inr rfl | assumption | (simp_all; done) | ((repeat' split) <;> first | rfl | (simp only [Int32.lt_iff_toInt_lt, Int32.le_iff_toInt_le, Int64.lt_iff_toInt_lt, Int64.le_iff_toInt_le] at *; omega) | (simp_all; done))
  · have h9 := hz.resolve_left h0
    have hadj : adjM (M (13, 0, 0)) n c w = M (13, 0, 0) (37 + w) + bef (M (13, 0, 0)) w c - (mfl ((bef (M (13, 0, 0)) w n).toInt64 * (bef (M (13, 0, 0)) 2 c).toInt64) (bef (M (13, 0, 0)) 2 n).toInt64).toInt32 := by
      unfold adjM
      rw [if_neg h0]
    rw [hadj]
    refine aw_iload_n k128_0 rfl ?_
    refine aw_if_ne 8 k128_1 (by decide) (fun c_1 => ?_) (fun c_1 => ?_)
    · refine aw_aload_n k128_8 rfl ?_
      refine aw_iload_n k128_9 rfl ?_
      refine aw_callV1 k128_10 hC_M_adjusted ok_M_error sv_M_50 hH_M_error ⟨rfl, rfl⟩ (by decide) hN_M_error (by rw [hL_M_error]; exact Nat.le_of_ble_eq_true rfl) (Nat.le_of_ble_eq_true rfl) (s_M_error h hn (by omega)) ?_
      refine aw_i2l k128_13 ?_
      refine aw_aload_n k128_14 rfl ?_
      refine aw_iload_n k128_15 rfl ?_
      refine aw_iconst (v := 2) k128_16 (by decide) ?_
      refine aw_callV2 k128_17 hC_M_adjusted ok_M_before sv_M_44 hH_M_before ⟨rfl, rfl⟩ (by decide) hN_M_before (by rw [hL_M_before]; exact Nat.le_of_ble_eq_true rfl) (Nat.le_of_ble_eq_true rfl) (s_M_before (w := 2) (by omega) (by decide)) ?_
      refine aw_i2l k128_20 ?_
      refine aw_lmul k128_21 ?_
      refine aw_aload_n k128_22 rfl ?_
      refine aw_iconst (v := 2) k128_23 (by decide) ?_
      refine aw_callV1 k128_24 hC_M_adjusted ok_M_error sv_M_50 hH_M_error ⟨rfl, rfl⟩ (by decide) hN_M_error (by rw [hL_M_error]; exact Nat.le_of_ble_eq_true rfl) (Nat.le_of_ble_eq_true rfl) (s_M_error (w := 2) h hn (by decide)) ?_
      refine aw_i2l k128_27 ?_
      refine aw_callS2 k128_28 hC_M_adjusted ok_M_floor ss_M_57 hH_M_floor (by rw [hL_M_floor]; exact Nat.le_of_ble_eq_true rfl) (Nat.le_of_ble_eq_true rfl) (s_M_floor h9) ?_
      refine aw_l2i k128_31 ?_
      refine aw_istore_n k128_32 (Nat.le_of_ble_eq_true rfl) rfl ?_
      refine aw_aload_n k128_33 rfl ?_
      refine aw_getR k128_34 hC_M_adjusted fs_M_7 (by decide) ⟨rfl, rfl⟩ rfl ?_
      try simp only [hcl]
      refine aw_bipush (v := 37) k128_37 (by decide) ?_
      refine aw_iload_n k128_39 rfl ?_
      refine aw_iadd k128_40 ?_
      rw [e37]
      refine aw_iaload k128_41 (by first | exact ⟨rfl, rfl⟩ | exact ⟨by assumption, rfl⟩ | exact ⟨by assumption, by assumption⟩ | exact ⟨rfl, by decide⟩ | exact ⟨by assumption, by decide⟩ | exact ⟨by decide, rfl⟩ | exact ⟨by decide, by decide⟩ | exact ⟨by decide, by assumption⟩ | assumption) (by first | rfl | assumption) (by first | rfl | assumption) hin ?_
      try simp only [hcl]
      refine aw_aload_n k128_42 rfl ?_
      refine aw_iload_n k128_43 rfl ?_
      refine aw_iload_n k128_44 rfl ?_
      refine aw_callV2 k128_45 hC_M_adjusted ok_M_before sv_M_44 hH_M_before ⟨rfl, rfl⟩ (by decide) hN_M_before (by rw [hL_M_before]; exact Nat.le_of_ble_eq_true rfl) (Nat.le_of_ble_eq_true rfl) (s_M_before (by omega) (by omega)) ?_
      refine aw_iadd k128_48 ?_
      refine aw_iload_n k128_49 rfl ?_
      refine aw_isub k128_50 ?_
      refine aw_ireturn k128_51 hR_M_adjusted ?_ ?_
      all_goals first | rfl | exact Or.inl rfl | exact Or.inr rfl | assumption | (simp_all; done) | ((repeat' split) <;> first | rfl | (simp only [Int32.lt_iff_toInt_lt, Int32.le_iff_toInt_le, Int64.lt_iff_toInt_lt, Int64.le_iff_toInt_le] at *; omega) | (simp_all; done))
    · exact absurd (nI_eq_of (b := 0) c_1) h0
def upM (v b : Int32) : Int32 := if (v + b - 1) / b < 1 then 1 else (v + b - 1) / b
theorem s_M_up {d : Nat} {M : mM} {v b : Int32} (hb : ¬ b = 0) : CT iM_up d [vI v, vI b] M (.inl (some (vI (upM v b)))) M 0 := by
  refine ct_go hL_M_up rfl ?_
  refine aw_iload_n k191_0 rfl ?_
  refine aw_iload_n k191_1 rfl ?_
  refine aw_iadd k191_2 ?_
  refine aw_iconst (v := 1) k191_3 (by decide) ?_
  refine aw_isub k191_4 ?_
  refine aw_iload_n k191_5 rfl ?_
  refine aw_idiv k191_6 hb ?_
  refine aw_istore_n k191_7 (Nat.le_of_ble_eq_true rfl) rfl ?_
  refine aw_iload_n k191_8 rfl ?_
  refine aw_iconst (v := 1) k191_9 (by decide) ?_
  refine aw_icmp_ge 17 k191_10 (by decide) (fun c_10 => ?_) (fun c_10 => ?_)
  · refine aw_iload_n k191_17 rfl ?_
    refine aw_ireturn k191_18 hR_M_up ?_ ?_
    · first | exact (if_pos (Int32.not_le.mp c_10)).symm | exact (if_neg (Int32.not_lt.mpr c_10)).symm
    · rfl
  · refine aw_iconst (v := 1) k191_13 (by decide) ?_
    refine aw_goto (t := 18) k191_14 (by decide) ?_
    refine aw_ireturn k191_18 hR_M_up ?_ ?_
    · first | exact (if_pos (Int32.not_le.mp c_10)).symm | exact (if_neg (Int32.not_lt.mpr c_10)).symm
    · rfl
/-- the line to the east out of a point, as the model says it -/
def metM (X Y : Nat → Int32) (m : Nat) (x y : Int32) (k : Nat) : Bool :=
  if decide (y < Y (nx m k)) = decide (y < Y k) then false
  else if 0 < dX Y m k then decide (0 < ((X k).toInt64 - x.toInt64) * dX Y m k + (y.toInt64 - (Y k).toInt64) * dX X m k)
  else decide (((X k).toInt64 - x.toInt64) * dX Y m k + (y.toInt64 - (Y k).toInt64) * dX X m k < 0)
theorem s_M_isEast {d i m k : Nat} {M : mM} {x y : Int32} (h : FM (M (13, 0, 0)) i m) (hk : k < m) : CT iM_isEast (d + 3) [vR 6 0 0, vI (nI i), vI (nI k), vI x, vI y] M (.inl (some (vI (bI (metM (cW (M (13, 0, 0)) i 0) (cW (M (13, 0, 0)) i 1) m x y k))))) M 0 := by
  have r : metM (cW (M (13, 0, 0)) i 0) (cW (M (13, 0, 0)) i 1) m x y k = metM (cW (M (13, 0, 0)) i 0) (cW (M (13, 0, 0)) i 1) m x y k := rfl
  refine ct_go hL_M_isEast rfl ?_
  obtain ⟨X, hX⟩ : ∃ X, X = cW (M (13, 0, 0)) i 0 := ⟨_, rfl⟩
  obtain ⟨Y, hY⟩ : ∃ Y, Y = cW (M (13, 0, 0)) i 1 := ⟨_, rfl⟩
  have p0 : CT iM_part (d + 2) [vR 6 0 0, vI (nI i), vI (nI k), vI 0] M (.inl (some (vI (X k)))) M 0 := by rw [hX]; exact p_at (w := 0) h hk (by decide)
  have p1 : CT iM_part (d + 2) [vR 6 0 0, vI (nI i), vI (nI k), vI 1] M (.inl (some (vI (Y k)))) M 0 := by rw [hY]; exact p_at (w := 1) h hk (by decide)
  have n1 : CT iM_part (d + 2) [vR 6 0 0, vI (nI i), vI (nI (k + 1)), vI 1] M (.inl (some (vI (Y (nx m k))))) M 0 := by rw [hY]; exact p_nx (w := 1) h hk (by decide)
  have c0 : CT iM_change (d + 2) [vR 6 0 0, vI (nI i), vI (nI k), vI 0] M (.inl (some (vL (dX X m k)))) M 0 := by rw [hX]; exact c_at (w := 0) h hk (by decide)
  have c1 : CT iM_change (d + 2) [vR 6 0 0, vI (nI i), vI (nI k), vI 1] M (.inl (some (vL (dX Y m k)))) M 0 := by rw [hY]; exact c_at (w := 1) h hk (by decide)
  rw [← hX, ← hY]
  clear hX hY r
  obtain ⟨far, hfar⟩ : ∃ far, far = ((X k).toInt64 - x.toInt64) * dX Y m k + (y.toInt64 - (Y k).toInt64) * dX X m k := ⟨_, rfl⟩
  have a49 : ∀ b1 b2 : Bool, b1 = decide (y < Y (nx m k)) → b2 = decide (y < Y k) → AW iM_isEast (d + 3) 49 [some (vR 6 0 0), some (vI (nI i)), some (vI (nI k)), some (vI x), some (vI y), some (vL (dX Y m k)), none, some (vI (bI b1)), some (vI (bI b2)), none, none] [] M (.inl (some (vI (bI (metM X Y m x y k))))) M 0 := by
    intro b1 b2 h1 h2
    by_cases e : b1 = b2
    · have hm : metM X Y m x y k = false := if_pos (by rw [← h1, ← h2]; exact e)
      rw [hm]
      subst e
      refine aw_iload k133_49 rfl ?_
      refine aw_iload k133_51 rfl ?_
      refine aw_icmp_ne 58 k133_53 (by decide) (fun c_53 => ?_) (fun c_53 => ?_)
      · exact absurd rfl c_53
      · refine aw_iconst (v := 0) k133_56 (by decide) ?_
        refine aw_zreturn k133_57 hR_M_isEast ?_ ?_ ?_
        all_goals first | rfl | exact Or.inl rfl | exact Or.inr rfl | assumption | (simp_all; done) | ((repeat' split) <;> first | rfl | (simp only [Int32.lt_iff_toInt_lt, Int32.le_iff_toInt_le, Int64.lt_iff_toInt_lt, Int64.le_iff_toInt_le] at *; omega) | (simp_all; done))
    · have hm : metM X Y m x y k = if 0 < dX Y m k then decide (0 < far) else decide (far < 0) := by
        rw [hfar]
        exact if_neg (by rw [← h1, ← h2]; exact e)
      rw [hm]
      refine aw_iload k133_49 rfl ?_
      refine aw_iload k133_51 rfl ?_
      refine aw_icmp_ne 58 k133_53 (by decide) (fun c_53 => ?_) (fun c_53 => ?_)
      · refine aw_aload_n k133_58 rfl ?_
        refine aw_iload_n k133_59 rfl ?_
        refine aw_iload_n k133_60 rfl ?_
        refine aw_iconst (v := 0) k133_61 (by decide) ?_
        refine aw_callV3 k133_62 hC_M_isEast ok_M_part sv_M_61 hH_M_part ⟨rfl, rfl⟩ (by decide) hN_M_part (by rw [hL_M_part]; exact Nat.le_of_ble_eq_true rfl) (Nat.le_of_ble_eq_true rfl) p0 ?_
        refine aw_i2l k133_65 ?_
        refine aw_iload_n k133_66 rfl ?_
        refine aw_i2l k133_67 ?_
        refine aw_lsub k133_68 ?_
        refine aw_lload k133_69 rfl ?_
        refine aw_lmul k133_71 ?_
        refine aw_iload k133_72 rfl ?_
        refine aw_i2l k133_74 ?_
        refine aw_aload_n k133_75 rfl ?_
        refine aw_iload_n k133_76 rfl ?_
        refine aw_iload_n k133_77 rfl ?_
        refine aw_iconst (v := 1) k133_78 (by decide) ?_
        refine aw_callV3 k133_79 hC_M_isEast ok_M_part sv_M_61 hH_M_part ⟨rfl, rfl⟩ (by decide) hN_M_part (by rw [hL_M_part]; exact Nat.le_of_ble_eq_true rfl) (Nat.le_of_ble_eq_true rfl) p1 ?_
        refine aw_i2l k133_82 ?_
        refine aw_lsub k133_83 ?_
        refine aw_aload_n k133_84 rfl ?_
        refine aw_iload_n k133_85 rfl ?_
        refine aw_iload_n k133_86 rfl ?_
        refine aw_iconst (v := 0) k133_87 (by decide) ?_
        refine aw_callV3 k133_88 hC_M_isEast ok_M_change sv_M_65 hH_M_change ⟨rfl, rfl⟩ (by decide) hN_M_change (by rw [hL_M_change]; exact Nat.le_of_ble_eq_true rfl) (Nat.le_of_ble_eq_true rfl) c0 ?_
        refine aw_lmul k133_91 ?_
        refine aw_ladd k133_92 ?_
        rw [← hfar]
        refine aw_lstore k133_93 (Nat.le_of_ble_eq_true rfl) rfl ?_
        refine aw_lload k133_95 rfl ?_
        refine aw_lconst (v := 0) k133_97 (by decide) ?_
        refine aw_lcmp_le 117 k133_98 k133_99 (by decide) (fun c_98 => ?_) (fun c_98 => ?_)
        · refine aw_lload k133_117 rfl ?_
          refine aw_lconst (v := 0) k133_119 (by decide) ?_
          refine aw_lcmp_ge 128 k133_120 k133_121 (by decide) (fun c_120 => ?_) (fun c_120 => ?_)
          · refine aw_iconst (v := 0) k133_128 (by decide) ?_
            refine aw_zreturn k133_129 hR_M_isEast ?_ ?_ ?_
            · first | exact Or.inl rfl | exact Or.inr rfl
            · first
                | (have g1 := Int64.not_le.mp c_98
                   have g2 := Int64.not_le.mp c_105
                   rw [if_pos g1]; exact bI_t (decide_eq_true g2))
                | (have g1 := Int64.not_le.mp c_98
                   have g2 := Int64.not_lt.mpr c_105
                   rw [if_pos g1]; exact bI_f (decide_eq_false g2))
                | (have g1 := Int64.not_lt.mpr c_98
                   have g2 := Int64.not_le.mp c_120
                   rw [if_neg g1]; exact bI_t (decide_eq_true g2))
                | (have g1 := Int64.not_lt.mpr c_98
                   have g2 := Int64.not_lt.mpr c_120
                   rw [if_neg g1]; exact bI_f (decide_eq_false g2))
            · rfl
          · refine aw_iconst (v := 1) k133_124 (by decide) ?_
            refine aw_goto (t := 129) k133_125 (by decide) ?_
            refine aw_zreturn k133_129 hR_M_isEast ?_ ?_ ?_
            · first | exact Or.inl rfl | exact Or.inr rfl
            · first
                | (have g1 := Int64.not_le.mp c_98
                   have g2 := Int64.not_le.mp c_105
                   rw [if_pos g1]; exact bI_t (decide_eq_true g2))
                | (have g1 := Int64.not_le.mp c_98
                   have g2 := Int64.not_lt.mpr c_105
                   rw [if_pos g1]; exact bI_f (decide_eq_false g2))
                | (have g1 := Int64.not_lt.mpr c_98
                   have g2 := Int64.not_le.mp c_120
                   rw [if_neg g1]; exact bI_t (decide_eq_true g2))
                | (have g1 := Int64.not_lt.mpr c_98
                   have g2 := Int64.not_lt.mpr c_120
                   rw [if_neg g1]; exact bI_f (decide_eq_false g2))
            · rfl
        · refine aw_lload k133_102 rfl ?_
          refine aw_lconst (v := 0) k133_104 (by decide) ?_
          refine aw_lcmp_le 113 k133_105 k133_106 (by decide) (fun c_105 => ?_) (fun c_105 => ?_)
          · refine aw_iconst (v := 0) k133_113 (by decide) ?_
            refine aw_goto (t := 129) k133_114 (by decide) ?_
            refine aw_zreturn k133_129 hR_M_isEast ?_ ?_ ?_
            · first | exact Or.inl rfl | exact Or.inr rfl
            · first
                | (have g1 := Int64.not_le.mp c_98
                   have g2 := Int64.not_le.mp c_105
                   rw [if_pos g1]; exact bI_t (decide_eq_true g2))
                | (have g1 := Int64.not_le.mp c_98
                   have g2 := Int64.not_lt.mpr c_105
                   rw [if_pos g1]; exact bI_f (decide_eq_false g2))
                | (have g1 := Int64.not_lt.mpr c_98
                   have g2 := Int64.not_le.mp c_120
                   rw [if_neg g1]; exact bI_t (decide_eq_true g2))
                | (have g1 := Int64.not_lt.mpr c_98
                   have g2 := Int64.not_lt.mpr c_120
                   rw [if_neg g1]; exact bI_f (decide_eq_false g2))
            · rfl
          · refine aw_iconst (v := 1) k133_109 (by decide) ?_
            refine aw_goto (t := 129) k133_110 (by decide) ?_
            refine aw_zreturn k133_129 hR_M_isEast ?_ ?_ ?_
            · first | exact Or.inl rfl | exact Or.inr rfl
            · first
                | (have g1 := Int64.not_le.mp c_98
                   have g2 := Int64.not_le.mp c_105
                   rw [if_pos g1]; exact bI_t (decide_eq_true g2))
                | (have g1 := Int64.not_le.mp c_98
                   have g2 := Int64.not_lt.mpr c_105
                   rw [if_pos g1]; exact bI_f (decide_eq_false g2))
                | (have g1 := Int64.not_lt.mpr c_98
                   have g2 := Int64.not_le.mp c_120
                   rw [if_neg g1]; exact bI_t (decide_eq_true g2))
                | (have g1 := Int64.not_lt.mpr c_98
                   have g2 := Int64.not_lt.mpr c_120
                   rw [if_neg g1]; exact bI_f (decide_eq_false g2))
            · rfl
      · exact absurd (bI_inj c_53) e
  have a28 : ∀ b1 : Bool, b1 = decide (y < Y (nx m k)) → AW iM_isEast (d + 3) 28 [some (vR 6 0 0), some (vI (nI i)), some (vI (nI k)), some (vI x), some (vI y), some (vL (dX Y m k)), none, none, none, none, none] [vI (bI b1)] M (.inl (some (vI (bI (metM X Y m x y k))))) M 0 := by
    intro b1 h1
    refine aw_istore k133_28 (Nat.le_of_ble_eq_true rfl) rfl ?_
    refine aw_aload_n k133_30 rfl ?_
    refine aw_iload_n k133_31 rfl ?_
    refine aw_iload_n k133_32 rfl ?_
    refine aw_iconst (v := 1) k133_33 (by decide) ?_
    refine aw_callV3 k133_34 hC_M_isEast ok_M_part sv_M_61 hH_M_part ⟨rfl, rfl⟩ (by decide) hN_M_part (by rw [hL_M_part]; exact Nat.le_of_ble_eq_true rfl) (Nat.le_of_ble_eq_true rfl) p1 ?_
    refine aw_iload k133_37 rfl ?_
    refine aw_icmp_le 46 k133_39 (by decide) (fun c_39 => ?_) (fun c_39 => ?_)
    · refine aw_iconst (v := 0) k133_46 (by decide) ?_
      first
        | (have g := Int32.not_le.mp c_39
           have q := a49 b1 true h1 (decide_eq_true g).symm
           refine aw_istore k133_47 (Nat.le_of_ble_eq_true rfl) rfl ?_
           exact q)
        | (have g := Int32.not_lt.mpr c_39
           have q := a49 b1 false h1 (decide_eq_false g).symm
           refine aw_istore k133_47 (Nat.le_of_ble_eq_true rfl) rfl ?_
           exact q)
    · refine aw_iconst (v := 1) k133_42 (by decide) ?_
      refine aw_goto (t := 47) k133_43 (by decide) ?_
      first
        | (have g := Int32.not_le.mp c_39
           have q := a49 b1 true h1 (decide_eq_true g).symm
           refine aw_istore k133_47 (Nat.le_of_ble_eq_true rfl) rfl ?_
           exact q)
        | (have g := Int32.not_lt.mpr c_39
           have q := a49 b1 false h1 (decide_eq_false g).symm
           refine aw_istore k133_47 (Nat.le_of_ble_eq_true rfl) rfl ?_
           exact q)
  refine aw_aload_n k133_0 rfl ?_
  refine aw_iload_n k133_1 rfl ?_
  refine aw_iload_n k133_2 rfl ?_
  refine aw_iconst (v := 1) k133_3 (by decide) ?_
  refine aw_callV3 k133_4 hC_M_isEast ok_M_change sv_M_65 hH_M_change ⟨rfl, rfl⟩ (by decide) hN_M_change (by rw [hL_M_change]; exact Nat.le_of_ble_eq_true rfl) (Nat.le_of_ble_eq_true rfl) c1 ?_
  refine aw_lstore k133_7 (Nat.le_of_ble_eq_true rfl) rfl ?_
  refine aw_aload_n k133_9 rfl ?_
  refine aw_iload_n k133_10 rfl ?_
  refine aw_iload_n k133_11 rfl ?_
  refine aw_iconst (v := 1) k133_12 (by decide) ?_
  refine aw_iadd k133_13 ?_
  rw [nI_1 k]
  refine aw_iconst (v := 1) k133_14 (by decide) ?_
  refine aw_callV3 k133_15 hC_M_isEast ok_M_part sv_M_61 hH_M_part ⟨rfl, rfl⟩ (by decide) hN_M_part (by rw [hL_M_part]; exact Nat.le_of_ble_eq_true rfl) (Nat.le_of_ble_eq_true rfl) n1 ?_
  refine aw_iload k133_18 rfl ?_
  refine aw_icmp_le 27 k133_20 (by decide) (fun c_20 => ?_) (fun c_20 => ?_)
  · refine aw_iconst (v := 0) k133_27 (by decide) ?_
    first
      | (have g := Int32.not_le.mp c_20
         exact a28 true (decide_eq_true g).symm)
      | (have g := Int32.not_lt.mpr c_20
         exact a28 false (decide_eq_false g).symm)
  · refine aw_iconst (v := 1) k133_23 (by decide) ?_
    refine aw_goto (t := 28) k133_24 (by decide) ?_
    first
      | (have g := Int32.not_le.mp c_20
         exact a28 true (decide_eq_true g).symm)
      | (have g := Int32.not_lt.mpr c_20
         exact a28 false (decide_eq_false g).symm)
