/-! THE MODEL'S TELLINGS -/
theorem m_legs {d L : Nat} {M : mM} {f t : Nat → Int32} {hs : List (Nat → Int32)} {sn : Option (Nat → Int32)} (h : MR M f hs sn t L) (hS : ShF f) (hB : BdF f) : CT iM_legs (d + 8) [vR 6 0 0] M (.inl (some (vI (f 0)))) (mUp M (6, 0, 0) 0 0) 0 := by
  have e : mUp M (6, 0, 0) 0 0 (13, 0, 0) = f := by rw [mUp_ne (by simp)]; exact h.1
  refine ct_go hL_M_legs rfl ?_
  refine aw_aload_n k168_0 rfl ?_
  refine aw_iconst (v := 0) k168_1 (by decide) ?_
  refine aw_putI k168_2 hC_M_legs fs_M_25 (by decide) ⟨rfl, rfl⟩ rfl po_6_0 ?_
  try simp only [e, tn0]
  refine aw_aload_n k168_5 rfl ?_
  refine aw_getR k168_6 hC_M_legs fs_M_7 (by decide) ⟨rfl, rfl⟩ rfl ?_
  try simp only [e, tn0]
  refine aw_iconst (v := 0) k168_9 (by decide) ?_
  refine aw_iaload k168_10 (by first | exact ⟨rfl, rfl⟩ | exact ⟨by assumption, rfl⟩ | exact ⟨by assumption, by assumption⟩ | exact ⟨rfl, by decide⟩ | exact ⟨by assumption, by decide⟩ | exact ⟨by decide, rfl⟩ | exact ⟨by decide, by decide⟩ | exact ⟨by decide, by assumption⟩ | assumption) (by first | rfl | assumption) (by first | rfl | assumption) (vp_in_nI (n := 0) (by decide) (by decide)) ?_
  try simp only [e, tn0]
  refine aw_ireturn k168_11 hR_M_legs ?_ ?_
  all_goals first | rfl | exact Or.inl rfl | exact Or.inr rfl | assumption | (simp_all; done) | ((repeat' split) <;> first | rfl | (simp only [Int32.lt_iff_toInt_lt, Int32.le_iff_toInt_le, Int64.lt_iff_toInt_lt, Int64.le_iff_toInt_le] at *; omega) | (simp_all; done))
theorem m_traverseLength {d L : Nat} {M : mM} {f t : Nat → Int32} {hs : List (Nat → Int32)} {sn : Option (Nat → Int32)} (h : MR M f hs sn t L) (hS : ShF f) (hB : BdF f) : CT iM_traverseLength (d + 8) [vR 6 0 0] M (.inl (some (vI (bef f 2 (fN f))))) (mUp M (6, 0, 0) 0 0) 0 := by
  have e : mUp M (6, 0, 0) 0 0 (13, 0, 0) = f := by rw [mUp_ne (by simp)]; exact h.1
  have hk := s_M_error (d := d + 6) (M := mUp M (6, 0, 0) 0 0) (n := fN f) (w := 2) (by rw [e]; exact hS.1) hS.2.1 (by decide)
  rw [e] at hk
  refine ct_go hL_M_traverseLength rfl ?_
  refine aw_aload_n k169_0 rfl ?_
  refine aw_iconst (v := 0) k169_1 (by decide) ?_
  refine aw_putI k169_2 hC_M_traverseLength fs_M_25 (by decide) ⟨rfl, rfl⟩ rfl po_6_0 ?_
  refine aw_aload_n k169_5 rfl ?_
  refine aw_iconst (v := 2) k169_6 (by decide) ?_
  refine aw_callV1 k169_7 hC_M_traverseLength ok_M_error sv_M_50 hH_M_error ⟨rfl, rfl⟩ (by decide) hN_M_error (by rw [hL_M_error]; exact Nat.le_of_ble_eq_true rfl) (Nat.le_of_ble_eq_true rfl) hk ?_
  refine aw_ireturn k169_10 hR_M_traverseLength ?_ ?_
  all_goals first | rfl | exact Or.inl rfl | exact Or.inr rfl | assumption | (simp_all; done) | ((repeat' split) <;> first | rfl | (simp only [Int32.lt_iff_toInt_lt, Int32.le_iff_toInt_le, Int64.lt_iff_toInt_lt, Int64.le_iff_toInt_le] at *; omega) | (simp_all; done))
theorem m_errorEast {d L : Nat} {M : mM} {f t : Nat → Int32} {hs : List (Nat → Int32)} {sn : Option (Nat → Int32)} (h : MR M f hs sn t L) (hS : ShF f) (hB : BdF f) : CT iM_errorEast (d + 8) [vR 6 0 0] M (.inl (some (vI (bef f 0 (fN f))))) (mUp M (6, 0, 0) 0 0) 0 := by
  have e : mUp M (6, 0, 0) 0 0 (13, 0, 0) = f := by rw [mUp_ne (by simp)]; exact h.1
  have hk := s_M_error (d := d + 6) (M := mUp M (6, 0, 0) 0 0) (n := fN f) (w := 0) (by rw [e]; exact hS.1) hS.2.1 (by decide)
  rw [e] at hk
  refine ct_go hL_M_errorEast rfl ?_
  refine aw_aload_n k170_0 rfl ?_
  refine aw_iconst (v := 0) k170_1 (by decide) ?_
  refine aw_putI k170_2 hC_M_errorEast fs_M_25 (by decide) ⟨rfl, rfl⟩ rfl po_6_0 ?_
  refine aw_aload_n k170_5 rfl ?_
  refine aw_iconst (v := 0) k170_6 (by decide) ?_
  refine aw_callV1 k170_7 hC_M_errorEast ok_M_error sv_M_50 hH_M_error ⟨rfl, rfl⟩ (by decide) hN_M_error (by rw [hL_M_error]; exact Nat.le_of_ble_eq_true rfl) (Nat.le_of_ble_eq_true rfl) hk ?_
  refine aw_ireturn k170_10 hR_M_errorEast ?_ ?_
  all_goals first | rfl | exact Or.inl rfl | exact Or.inr rfl | assumption | (simp_all; done) | ((repeat' split) <;> first | rfl | (simp only [Int32.lt_iff_toInt_lt, Int32.le_iff_toInt_le, Int64.lt_iff_toInt_lt, Int64.le_iff_toInt_le] at *; omega) | (simp_all; done))
theorem m_errorNorth {d L : Nat} {M : mM} {f t : Nat → Int32} {hs : List (Nat → Int32)} {sn : Option (Nat → Int32)} (h : MR M f hs sn t L) (hS : ShF f) (hB : BdF f) : CT iM_errorNorth (d + 8) [vR 6 0 0] M (.inl (some (vI (bef f 1 (fN f))))) (mUp M (6, 0, 0) 0 0) 0 := by
  have e : mUp M (6, 0, 0) 0 0 (13, 0, 0) = f := by rw [mUp_ne (by simp)]; exact h.1
  have hk := s_M_error (d := d + 6) (M := mUp M (6, 0, 0) 0 0) (n := fN f) (w := 1) (by rw [e]; exact hS.1) hS.2.1 (by decide)
  rw [e] at hk
  refine ct_go hL_M_errorNorth rfl ?_
  refine aw_aload_n k171_0 rfl ?_
  refine aw_iconst (v := 0) k171_1 (by decide) ?_
  refine aw_putI k171_2 hC_M_errorNorth fs_M_25 (by decide) ⟨rfl, rfl⟩ rfl po_6_0 ?_
  refine aw_aload_n k171_5 rfl ?_
  refine aw_iconst (v := 1) k171_6 (by decide) ?_
  refine aw_callV1 k171_7 hC_M_errorNorth ok_M_error sv_M_50 hH_M_error ⟨rfl, rfl⟩ (by decide) hN_M_error (by rw [hL_M_error]; exact Nat.le_of_ble_eq_true rfl) (Nat.le_of_ble_eq_true rfl) hk ?_
  refine aw_ireturn k171_10 hR_M_errorNorth ?_ ?_
  all_goals first | rfl | exact Or.inl rfl | exact Or.inr rfl | assumption | (simp_all; done) | ((repeat' split) <;> first | rfl | (simp only [Int32.lt_iff_toInt_lt, Int32.le_iff_toInt_le, Int64.lt_iff_toInt_lt, Int64.le_iff_toInt_le] at *; omega) | (simp_all; done))
theorem m_isClose {d L : Nat} {M : mM} {f t : Nat → Int32} {hs : List (Nat → Int32)} {sn : Option (Nat → Int32)} (h : MR M f hs sn t L) (hS : ShF f) (hB : BdF f) : CT iM_isClose (d + 8) [vR 6 0 0] M (.inl (some (vI (bI (closeF f (fN f)))))) (mUp M (6, 0, 0) 0 0) 0 := by
  have e : mUp M (6, 0, 0) 0 0 (13, 0, 0) = f := by rw [mUp_ne (by simp)]; exact h.1
  have hk := s_M_close (d := d + 5) (M := mUp M (6, 0, 0) 0 0) (n := fN f) (by rw [e]; exact hS.1) hS.2.1
  rw [e, close_eq hB hS.2.1] at hk
  refine ct_go hL_M_isClose rfl ?_
  refine aw_aload_n k172_0 rfl ?_
  refine aw_iconst (v := 0) k172_1 (by decide) ?_
  refine aw_putI k172_2 hC_M_isClose fs_M_25 (by decide) ⟨rfl, rfl⟩ rfl po_6_0 ?_
  refine aw_aload_n k172_5 rfl ?_
  refine aw_callV0 k172_6 hC_M_isClose ok_M_close sv_M_80 hH_M_close ⟨rfl, rfl⟩ (by decide) hN_M_close (by rw [hL_M_close]; exact Nat.le_of_ble_eq_true rfl) (Nat.le_of_ble_eq_true rfl) hk ?_
  refine aw_zreturn k172_9 hR_M_isClose ?_ ?_ ?_
  · exact bI01 _
  · rfl
  · rfl
theorem m_fields {d L : Nat} {M : mM} {f t : Nat → Int32} {hs : List (Nat → Int32)} {sn : Option (Nat → Int32)} (h : MR M f hs sn t L) (hS : ShF f) (hB : BdF f) : CT iM_fields (d + 8) [vR 6 0 0] M (.inl (some (vI (f 39)))) (mUp M (6, 0, 0) 0 0) 0 := by
  have e : mUp M (6, 0, 0) 0 0 (13, 0, 0) = f := by rw [mUp_ne (by simp)]; exact h.1
  refine ct_go hL_M_fields rfl ?_
  refine aw_aload_n k175_0 rfl ?_
  refine aw_iconst (v := 0) k175_1 (by decide) ?_
  refine aw_putI k175_2 hC_M_fields fs_M_25 (by decide) ⟨rfl, rfl⟩ rfl po_6_0 ?_
  try simp only [e, tn39]
  refine aw_aload_n k175_5 rfl ?_
  refine aw_getR k175_6 hC_M_fields fs_M_7 (by decide) ⟨rfl, rfl⟩ rfl ?_
  try simp only [e, tn39]
  refine aw_bipush (v := 39) k175_9 (by decide) ?_
  refine aw_iaload k175_11 (by first | exact ⟨rfl, rfl⟩ | exact ⟨by assumption, rfl⟩ | exact ⟨by assumption, by assumption⟩ | exact ⟨rfl, by decide⟩ | exact ⟨by assumption, by decide⟩ | exact ⟨by decide, rfl⟩ | exact ⟨by decide, by decide⟩ | exact ⟨by decide, by assumption⟩ | assumption) (by first | rfl | assumption) (by first | rfl | assumption) (vp_in_nI (n := 39) (by decide) (by decide)) ?_
  try simp only [e, tn39]
  refine aw_ireturn k175_12 hR_M_fields ?_ ?_
  all_goals first | rfl | exact Or.inl rfl | exact Or.inr rfl | assumption | (simp_all; done) | ((repeat' split) <;> first | rfl | (simp only [Int32.lt_iff_toInt_lt, Int32.le_iff_toInt_le, Int64.lt_iff_toInt_lt, Int64.le_iff_toInt_le] at *; omega) | (simp_all; done))
theorem m_recordedStates {d L : Nat} {M : mM} {f t : Nat → Int32} {hs : List (Nat → Int32)} {sn : Option (Nat → Int32)} (h : MR M f hs sn t L) (hS : ShF f) (hB : BdF f) : CT iM_recordedStates (d + 8) [vR 6 0 0] M (.inl (some (vI (nI hs.length)))) (mUp M (6, 0, 0) 0 0) 0 := by
  have e : mUp M (6, 0, 0) 0 0 (13, 0, 0) = f := by rw [mUp_ne (by simp)]; exact h.1
  have h6 : mUp M (6, 0, 0) 0 0 (6, 0, 0) 6 = nI hs.length := by rw [← h.2.1.1]; simp [mUp_at]
  refine ct_go hL_M_recordedStates rfl ?_
  refine aw_aload_n k194_0 rfl ?_
  refine aw_iconst (v := 0) k194_1 (by decide) ?_
  refine aw_putI k194_2 hC_M_recordedStates fs_M_25 (by decide) ⟨rfl, rfl⟩ rfl po_6_0 ?_
  refine aw_aload_n k194_5 rfl ?_
  refine aw_getI k194_6 hC_M_recordedStates fs_M_41 (by decide) ⟨rfl, rfl⟩ rfl ?_
  refine aw_ireturn k194_9 hR_M_recordedStates ?_ ?_
  exact h6; rfl
theorem m_adjustedEast {d L : Nat} {M : mM} {f t : Nat → Int32} {hs : List (Nat → Int32)} {sn : Option (Nat → Int32)} (h : MR M f hs sn t L) (hS : ShF f) (hB : BdF f) {x : Int32} (hx : 0 ≤ x ∧ x ≤ f 0) : CT iM_adjustedEast (d + 8) [vR 6 0 0, vI x] M (.inl (some (vI (adjF f (fN f) x.toNatClampNeg 0)))) (mUp M (6, 0, 0) 0 0) 0 := by
  have e : mUp M (6, 0, 0) 0 0 (13, 0, 0) = f := by rw [mUp_ne (by simp)]; exact h.1
  have ex := nI_back hx.1
  have hle : x.toNatClampNeg ≤ fN f := by
    have h2 := hx.2
    rw [hS.1, ← ex] at h2
    exact nI_le_of h2 (ha := by
      have h3 := x.toInt_lt
      have h2 : x.toNatClampNeg = x.toInt.toNat := rfl
      omega) (hb := by have := hS.2.1; omega)
  have hx2 : 0 ≤ x ∧ x ≤ M (13, 0, 0) 0 := by rw [h.1]; exact hx
  have hl2 := bef2 hB hS.2.1 _ (Nat.le_refl (fN f))
  have hk := s_M_adjusted (d := d + 5) (M := mUp M (6, 0, 0) 0 0) (n := fN f) (c := x.toNatClampNeg) (w := 0) (by rw [e]; exact hS.1) hS.2.1 hle (by decide) (by
    by_cases q : x.toNatClampNeg = 0
    · exact Or.inl q
    · refine Or.inr (fun q2 => ?_)
      rw [e] at q2
      have := congrArg Int64.toInt q2
      rw [Int32.toInt_toInt64] at this
      have z : (0 : Int64).toInt = 0 := rfl
      omega)
  rw [e, adj_eq hB hS.2.1 hle, ex] at hk
  refine ct_go hL_M_adjustedEast rfl ?_
  refine aw_aload_n k173_0 rfl ?_
  refine aw_iload_n k173_1 rfl ?_
  refine aw_iconst (v := 0) k173_2 (by decide) ?_
  refine aw_aload_n k173_3 rfl ?_
  refine aw_getR k173_4 hC_M_adjustedEast fs_M_7 (by decide) ⟨rfl, rfl⟩ rfl ?_
  try simp only [tn0]
  refine aw_iconst (v := 0) k173_7 (by decide) ?_
  refine aw_iaload k173_8 (by first | exact ⟨rfl, rfl⟩ | exact ⟨by assumption, rfl⟩ | exact ⟨by assumption, by assumption⟩ | exact ⟨rfl, by decide⟩ | exact ⟨by assumption, by decide⟩ | exact ⟨by decide, rfl⟩ | exact ⟨by decide, by decide⟩ | exact ⟨by decide, by assumption⟩ | assumption) (by first | rfl | assumption) (by first | rfl | assumption) (vp_in_nI (n := 0) (by decide) (by decide)) ?_
  try simp only [tn0]
  refine aw_callS3 k173_9 hC_M_adjustedEast ok_M_in ss_M_29 hH_M_in (by rw [hL_M_in]; exact Nat.le_of_ble_eq_true rfl) (Nat.le_of_ble_eq_true rfl) (in_t hx2) ?_
  refine aw_if_eq 19 k173_12 (by decide) (fun c_12 => ?_) (fun c_12 => ?_)
  · exact absurd (show (1 : Int32) = 0 from c_12) (by decide)
  · refine aw_iconst (v := 0) k173_15 (by decide) ?_
    refine aw_goto (t := 20) k173_16 (by decide) ?_
    refine aw_callV1 k173_20 hC_M_adjustedEast ok_M_holds sv_M_102 hH_M_holds ⟨rfl, rfl⟩ (by decide) hN_M_holds (by rw [hL_M_holds]; exact Nat.le_of_ble_eq_true rfl) (Nat.le_of_ble_eq_true rfl) holds_t ?_
    refine aw_if_eq 35 k173_23 (by decide) (fun c_23 => ?_) (fun c_23 => ?_)
    · exact absurd (show (1 : Int32) = 0 from c_23) (by decide)
    · refine aw_aload_n k173_26 rfl ?_
      refine aw_iload_n k173_27 rfl ?_
      refine aw_iconst (v := 0) k173_28 (by decide) ?_
      refine aw_callV2 k173_29 hC_M_adjustedEast ok_M_adjusted sv_M_77 hH_M_adjusted ⟨rfl, rfl⟩ (by decide) hN_M_adjusted (by rw [hL_M_adjusted]; exact Nat.le_of_ble_eq_true rfl) (Nat.le_of_ble_eq_true rfl) hk ?_
      refine aw_goto (t := 36) k173_32 (by decide) ?_
      refine aw_ireturn k173_36 hR_M_adjustedEast ?_ ?_
      all_goals first | rfl | exact Or.inl rfl | exact Or.inr rfl | assumption | (simp_all; done) | ((repeat' split) <;> first | rfl | (simp only [Int32.lt_iff_toInt_lt, Int32.le_iff_toInt_le, Int64.lt_iff_toInt_lt, Int64.le_iff_toInt_le] at *; omega) | (simp_all; done))
theorem mx_adjustedEast {d L : Nat} {M : mM} {f t : Nat → Int32} {hs : List (Nat → Int32)} {sn : Option (Nat → Int32)} (h : MR M f hs sn t L) {x : Int32} (hx : ¬ (0 ≤ x ∧ x ≤ f 0)) : CT iM_adjustedEast (d + 8) [vR 6 0 0, vI x] M (.inl (some (vI 0))) (mUp M (6, 0, 0) 0 1) 0 := by
  have hx2 : ¬ (0 ≤ x ∧ x ≤ M (13, 0, 0) 0) := by rw [h.1]; exact hx
  refine ct_go hL_M_adjustedEast rfl ?_
  refine aw_aload_n k173_0 rfl ?_
  refine aw_iload_n k173_1 rfl ?_
  refine aw_iconst (v := 0) k173_2 (by decide) ?_
  refine aw_aload_n k173_3 rfl ?_
  refine aw_getR k173_4 hC_M_adjustedEast fs_M_7 (by decide) ⟨rfl, rfl⟩ rfl ?_
  try simp only [tn0]
  refine aw_iconst (v := 0) k173_7 (by decide) ?_
  refine aw_iaload k173_8 (by first | exact ⟨rfl, rfl⟩ | exact ⟨by assumption, rfl⟩ | exact ⟨by assumption, by assumption⟩ | exact ⟨rfl, by decide⟩ | exact ⟨by assumption, by decide⟩ | exact ⟨by decide, rfl⟩ | exact ⟨by decide, by decide⟩ | exact ⟨by decide, by assumption⟩ | assumption) (by first | rfl | assumption) (by first | rfl | assumption) (vp_in_nI (n := 0) (by decide) (by decide)) ?_
  try simp only [tn0]
  refine aw_callS3 k173_9 hC_M_adjustedEast ok_M_in ss_M_29 hH_M_in (by rw [hL_M_in]; exact Nat.le_of_ble_eq_true rfl) (Nat.le_of_ble_eq_true rfl) (in_f hx2) ?_
  refine aw_if_eq 19 k173_12 (by decide) (fun c_12 => ?_) (fun c_12 => ?_)
  · refine aw_iconst (v := 1) k173_19 (by decide) ?_
    refine aw_callV1 k173_20 hC_M_adjustedEast ok_M_holds sv_M_102 hH_M_holds ⟨rfl, rfl⟩ (by decide) hN_M_holds (by rw [hL_M_holds]; exact Nat.le_of_ble_eq_true rfl) (Nat.le_of_ble_eq_true rfl) (holds_f (by decide)) ?_
    refine aw_if_eq 35 k173_23 (by decide) (fun c_23 => ?_) (fun c_23 => ?_)
    · refine aw_iconst (v := 0) k173_35 (by decide) ?_
      refine aw_ireturn k173_36 hR_M_adjustedEast ?_ ?_
      all_goals first | rfl | exact Or.inl rfl | exact Or.inr rfl | assumption | (simp_all; done) | ((repeat' split) <;> first | rfl | (simp only [Int32.lt_iff_toInt_lt, Int32.le_iff_toInt_le, Int64.lt_iff_toInt_lt, Int64.le_iff_toInt_le] at *; omega) | (simp_all; done))
    · exact absurd rfl c_23
  · exact absurd rfl c_12
theorem m_adjustedNorth {d L : Nat} {M : mM} {f t : Nat → Int32} {hs : List (Nat → Int32)} {sn : Option (Nat → Int32)} (h : MR M f hs sn t L) (hS : ShF f) (hB : BdF f) {x : Int32} (hx : 0 ≤ x ∧ x ≤ f 0) : CT iM_adjustedNorth (d + 8) [vR 6 0 0, vI x] M (.inl (some (vI (adjF f (fN f) x.toNatClampNeg 1)))) (mUp M (6, 0, 0) 0 0) 0 := by
  have e : mUp M (6, 0, 0) 0 0 (13, 0, 0) = f := by rw [mUp_ne (by simp)]; exact h.1
  have ex := nI_back hx.1
  have hle : x.toNatClampNeg ≤ fN f := by
    have h2 := hx.2
    rw [hS.1, ← ex] at h2
    exact nI_le_of h2 (ha := by
      have h3 := x.toInt_lt
      have h2 : x.toNatClampNeg = x.toInt.toNat := rfl
      omega) (hb := by have := hS.2.1; omega)
  have hx2 : 0 ≤ x ∧ x ≤ M (13, 0, 0) 0 := by rw [h.1]; exact hx
  have hl2 := bef2 hB hS.2.1 _ (Nat.le_refl (fN f))
  have hk := s_M_adjusted (d := d + 5) (M := mUp M (6, 0, 0) 0 0) (n := fN f) (c := x.toNatClampNeg) (w := 1) (by rw [e]; exact hS.1) hS.2.1 hle (by decide) (by
    by_cases q : x.toNatClampNeg = 0
    · exact Or.inl q
    · refine Or.inr (fun q2 => ?_)
      rw [e] at q2
      have := congrArg Int64.toInt q2
      rw [Int32.toInt_toInt64] at this
      have z : (0 : Int64).toInt = 0 := rfl
      omega)
  rw [e, adj_eq hB hS.2.1 hle, ex] at hk
  refine ct_go hL_M_adjustedNorth rfl ?_
  refine aw_aload_n k174_0 rfl ?_
  refine aw_iload_n k174_1 rfl ?_
  refine aw_iconst (v := 0) k174_2 (by decide) ?_
  refine aw_aload_n k174_3 rfl ?_
  refine aw_getR k174_4 hC_M_adjustedNorth fs_M_7 (by decide) ⟨rfl, rfl⟩ rfl ?_
  try simp only [tn0]
  refine aw_iconst (v := 0) k174_7 (by decide) ?_
  refine aw_iaload k174_8 (by first | exact ⟨rfl, rfl⟩ | exact ⟨by assumption, rfl⟩ | exact ⟨by assumption, by assumption⟩ | exact ⟨rfl, by decide⟩ | exact ⟨by assumption, by decide⟩ | exact ⟨by decide, rfl⟩ | exact ⟨by decide, by decide⟩ | exact ⟨by decide, by assumption⟩ | assumption) (by first | rfl | assumption) (by first | rfl | assumption) (vp_in_nI (n := 0) (by decide) (by decide)) ?_
  try simp only [tn0]
  refine aw_callS3 k174_9 hC_M_adjustedNorth ok_M_in ss_M_29 hH_M_in (by rw [hL_M_in]; exact Nat.le_of_ble_eq_true rfl) (Nat.le_of_ble_eq_true rfl) (in_t hx2) ?_
  refine aw_if_eq 19 k174_12 (by decide) (fun c_12 => ?_) (fun c_12 => ?_)
  · exact absurd (show (1 : Int32) = 0 from c_12) (by decide)
  · refine aw_iconst (v := 0) k174_15 (by decide) ?_
    refine aw_goto (t := 20) k174_16 (by decide) ?_
    refine aw_callV1 k174_20 hC_M_adjustedNorth ok_M_holds sv_M_102 hH_M_holds ⟨rfl, rfl⟩ (by decide) hN_M_holds (by rw [hL_M_holds]; exact Nat.le_of_ble_eq_true rfl) (Nat.le_of_ble_eq_true rfl) holds_t ?_
    refine aw_if_eq 35 k174_23 (by decide) (fun c_23 => ?_) (fun c_23 => ?_)
    · exact absurd (show (1 : Int32) = 0 from c_23) (by decide)
    · refine aw_aload_n k174_26 rfl ?_
      refine aw_iload_n k174_27 rfl ?_
      refine aw_iconst (v := 1) k174_28 (by decide) ?_
      refine aw_callV2 k174_29 hC_M_adjustedNorth ok_M_adjusted sv_M_77 hH_M_adjusted ⟨rfl, rfl⟩ (by decide) hN_M_adjusted (by rw [hL_M_adjusted]; exact Nat.le_of_ble_eq_true rfl) (Nat.le_of_ble_eq_true rfl) hk ?_
      refine aw_goto (t := 36) k174_32 (by decide) ?_
      refine aw_ireturn k174_36 hR_M_adjustedNorth ?_ ?_
      all_goals first | rfl | exact Or.inl rfl | exact Or.inr rfl | assumption | (simp_all; done) | ((repeat' split) <;> first | rfl | (simp only [Int32.lt_iff_toInt_lt, Int32.le_iff_toInt_le, Int64.lt_iff_toInt_lt, Int64.le_iff_toInt_le] at *; omega) | (simp_all; done))
theorem mx_adjustedNorth {d L : Nat} {M : mM} {f t : Nat → Int32} {hs : List (Nat → Int32)} {sn : Option (Nat → Int32)} (h : MR M f hs sn t L) {x : Int32} (hx : ¬ (0 ≤ x ∧ x ≤ f 0)) : CT iM_adjustedNorth (d + 8) [vR 6 0 0, vI x] M (.inl (some (vI 0))) (mUp M (6, 0, 0) 0 1) 0 := by
  have hx2 : ¬ (0 ≤ x ∧ x ≤ M (13, 0, 0) 0) := by rw [h.1]; exact hx
  refine ct_go hL_M_adjustedNorth rfl ?_
  refine aw_aload_n k174_0 rfl ?_
  refine aw_iload_n k174_1 rfl ?_
  refine aw_iconst (v := 0) k174_2 (by decide) ?_
  refine aw_aload_n k174_3 rfl ?_
  refine aw_getR k174_4 hC_M_adjustedNorth fs_M_7 (by decide) ⟨rfl, rfl⟩ rfl ?_
  try simp only [tn0]
  refine aw_iconst (v := 0) k174_7 (by decide) ?_
  refine aw_iaload k174_8 (by first | exact ⟨rfl, rfl⟩ | exact ⟨by assumption, rfl⟩ | exact ⟨by assumption, by assumption⟩ | exact ⟨rfl, by decide⟩ | exact ⟨by assumption, by decide⟩ | exact ⟨by decide, rfl⟩ | exact ⟨by decide, by decide⟩ | exact ⟨by decide, by assumption⟩ | assumption) (by first | rfl | assumption) (by first | rfl | assumption) (vp_in_nI (n := 0) (by decide) (by decide)) ?_
  try simp only [tn0]
  refine aw_callS3 k174_9 hC_M_adjustedNorth ok_M_in ss_M_29 hH_M_in (by rw [hL_M_in]; exact Nat.le_of_ble_eq_true rfl) (Nat.le_of_ble_eq_true rfl) (in_f hx2) ?_
  refine aw_if_eq 19 k174_12 (by decide) (fun c_12 => ?_) (fun c_12 => ?_)
  · refine aw_iconst (v := 1) k174_19 (by decide) ?_
    refine aw_callV1 k174_20 hC_M_adjustedNorth ok_M_holds sv_M_102 hH_M_holds ⟨rfl, rfl⟩ (by decide) hN_M_holds (by rw [hL_M_holds]; exact Nat.le_of_ble_eq_true rfl) (Nat.le_of_ble_eq_true rfl) (holds_f (by decide)) ?_
    refine aw_if_eq 35 k174_23 (by decide) (fun c_23 => ?_) (fun c_23 => ?_)
    · refine aw_iconst (v := 0) k174_35 (by decide) ?_
      refine aw_ireturn k174_36 hR_M_adjustedNorth ?_ ?_
      all_goals first | rfl | exact Or.inl rfl | exact Or.inr rfl | assumption | (simp_all; done) | ((repeat' split) <;> first | rfl | (simp only [Int32.lt_iff_toInt_lt, Int32.le_iff_toInt_le, Int64.lt_iff_toInt_lt, Int64.le_iff_toInt_le] at *; omega) | (simp_all; done))
    · exact absurd rfl c_23
  · exact absurd rfl c_12
theorem m_cornersOf {d L : Nat} {M : mM} {f t : Nat → Int32} {hs : List (Nat → Int32)} {sn : Option (Nat → Int32)} (h : MR M f hs sn t L) (hS : ShF f) (hB : BdF f) {x : Int32} (hx : hasF f x = true) : CT iM_cornersOf (d + 8) [vR 6 0 0, vI x] M (.inl (some (vI (f (40 + 25 * x.toNatClampNeg))))) (mUp M (6, 0, 0) 0 0) 0 := by
  have e : mUp M (6, 0, 0) 0 0 (13, 0, 0) = f := by rw [mUp_ne (by simp)]; exact h.1
  have hc := m_isF (d := d + 6) (x := x) h hS
  rw [hx] at hc
  obtain ⟨ex, hlt⟩ := hasF_at hx hS.2.2.1 hS.2.2.2.1
  have hfm : FM (mUp M (6, 0, 0) 0 0 (13, 0, 0)) x.toNatClampNeg (bN f x.toNatClampNeg) := by rw [e]; exact hS.fm hlt
  have hb9 : ∀ k, k < bN f x.toNatClampNeg → bi (bX (blk f x.toNatClampNeg) k) 400000 ∧ bi (bY (blk f x.toNatClampNeg) k) 400000 := hB.2.2.2.1 _ hlt
  have h12 : bN f x.toNatClampNeg ≤ 12 := hfm.2.2.2
  have h03 : 0 < bN f x.toNatClampNeg := hfm.2.2.1
  have hk := s_M_corners (d := d + 7) (M := mUp M (6, 0, 0) 0 0) hfm.1
  rw [e, ← ex] at hk
  refine ct_go hL_M_cornersOf rfl ?_
  refine aw_aload_n k176_0 rfl ?_
  refine aw_aload_n k176_1 rfl ?_
  refine aw_iload_n k176_2 rfl ?_
  refine aw_callV1 k176_3 hC_M_cornersOf ok_M_isField sv_M_33 hH_M_isField ⟨rfl, rfl⟩ (by decide) hN_M_isField (by rw [hL_M_isField]; exact Nat.le_of_ble_eq_true rfl) (Nat.le_of_ble_eq_true rfl) hc ?_
  refine aw_if_eq 13 k176_6 (by decide) (fun c_6 => ?_) (fun c_6 => ?_)
  · exact absurd (show (1 : Int32) = 0 from c_6) (by decide)
  · refine aw_iconst (v := 0) k176_9 (by decide) ?_
    refine aw_goto (t := 14) k176_10 (by decide) ?_
    refine aw_callV1 k176_14 hC_M_cornersOf ok_M_holds sv_M_102 hH_M_holds ⟨rfl, rfl⟩ (by decide) hN_M_holds (by rw [hL_M_holds]; exact Nat.le_of_ble_eq_true rfl) (Nat.le_of_ble_eq_true rfl) holds_t ?_
    refine aw_if_eq 28 k176_17 (by decide) (fun c_17 => ?_) (fun c_17 => ?_)
    · exact absurd (show (1 : Int32) = 0 from c_17) (by decide)
    · refine aw_aload_n k176_20 rfl ?_
      refine aw_iload_n k176_21 rfl ?_
      refine aw_callV1 k176_22 hC_M_cornersOf ok_M_corners sv_M_37 hH_M_corners ⟨rfl, rfl⟩ (by decide) hN_M_corners (by rw [hL_M_corners]; exact Nat.le_of_ble_eq_true rfl) (Nat.le_of_ble_eq_true rfl) hk ?_
      refine aw_goto (t := 29) k176_25 (by decide) ?_
      refine aw_ireturn k176_29 hR_M_cornersOf ?_ ?_
      all_goals first | rfl | exact Or.inl rfl | exact Or.inr rfl | assumption | (simp_all; done) | ((repeat' split) <;> first | rfl | (simp only [Int32.lt_iff_toInt_lt, Int32.le_iff_toInt_le, Int64.lt_iff_toInt_lt, Int64.le_iff_toInt_le] at *; omega) | (simp_all; done))
theorem mx_cornersOf {d L : Nat} {M : mM} {f t : Nat → Int32} {hs : List (Nat → Int32)} {sn : Option (Nat → Int32)} (h : MR M f hs sn t L) (hS : ShF f) (hB : BdF f) {x : Int32} (hx : hasF f x = false) : CT iM_cornersOf (d + 8) [vR 6 0 0, vI x] M (.inl (some (vI 0))) (mUp M (6, 0, 0) 0 1) 0 := by
  have hc := m_isF (d := d + 6) (x := x) h hS
  rw [hx] at hc
  refine ct_go hL_M_cornersOf rfl ?_
  refine aw_aload_n k176_0 rfl ?_
  refine aw_aload_n k176_1 rfl ?_
  refine aw_iload_n k176_2 rfl ?_
  refine aw_callV1 k176_3 hC_M_cornersOf ok_M_isField sv_M_33 hH_M_isField ⟨rfl, rfl⟩ (by decide) hN_M_isField (by rw [hL_M_isField]; exact Nat.le_of_ble_eq_true rfl) (Nat.le_of_ble_eq_true rfl) hc ?_
  refine aw_if_eq 13 k176_6 (by decide) (fun c_6 => ?_) (fun c_6 => ?_)
  · refine aw_iconst (v := 1) k176_13 (by decide) ?_
    refine aw_callV1 k176_14 hC_M_cornersOf ok_M_holds sv_M_102 hH_M_holds ⟨rfl, rfl⟩ (by decide) hN_M_holds (by rw [hL_M_holds]; exact Nat.le_of_ble_eq_true rfl) (Nat.le_of_ble_eq_true rfl) (holds_f (by decide)) ?_
    refine aw_if_eq 28 k176_17 (by decide) (fun c_17 => ?_) (fun c_17 => ?_)
    · refine aw_iconst (v := 0) k176_28 (by decide) ?_
      refine aw_ireturn k176_29 hR_M_cornersOf ?_ ?_
      all_goals first | rfl | exact Or.inl rfl | exact Or.inr rfl | assumption | (simp_all; done) | ((repeat' split) <;> first | rfl | (simp only [Int32.lt_iff_toInt_lt, Int32.le_iff_toInt_le, Int64.lt_iff_toInt_lt, Int64.le_iff_toInt_le] at *; omega) | (simp_all; done))
    · exact absurd rfl c_17
  · exact absurd rfl c_6
theorem m_leftTurns {d L : Nat} {M : mM} {f t : Nat → Int32} {hs : List (Nat → Int32)} {sn : Option (Nat → Int32)} (h : MR M f hs sn t L) (hS : ShF f) (hB : BdF f) {x : Int32} (hx : hasF f x = true) : CT iM_leftTurns (d + 8) [vR 6 0 0, vI x] M (.inl (some (vI (nI (leF f x.toNatClampNeg))))) (mUp M (6, 0, 0) 0 0) 0 := by
  have e : mUp M (6, 0, 0) 0 0 (13, 0, 0) = f := by rw [mUp_ne (by simp)]; exact h.1
  have hc := m_isF (d := d + 6) (x := x) h hS
  rw [hx] at hc
  obtain ⟨ex, hlt⟩ := hasF_at hx hS.2.2.1 hS.2.2.2.1
  have hfm : FM (mUp M (6, 0, 0) 0 0 (13, 0, 0)) x.toNatClampNeg (bN f x.toNatClampNeg) := by rw [e]; exact hS.fm hlt
  have hb9 : ∀ k, k < bN f x.toNatClampNeg → bi (bX (blk f x.toNatClampNeg) k) 400000 ∧ bi (bY (blk f x.toNatClampNeg) k) 400000 := hB.2.2.2.1 _ hlt
  have h12 : bN f x.toNatClampNeg ≤ 12 := hfm.2.2.2
  have h03 : 0 < bN f x.toNatClampNeg := hfm.2.2.1
  have hk := m_left (d := d + 3) hfm (by rw [e])
  rw [e, ← ex] at hk
  refine ct_go hL_M_leftTurns rfl ?_
  refine aw_aload_n k179_0 rfl ?_
  refine aw_aload_n k179_1 rfl ?_
  refine aw_iload_n k179_2 rfl ?_
  refine aw_callV1 k179_3 hC_M_leftTurns ok_M_isField sv_M_33 hH_M_isField ⟨rfl, rfl⟩ (by decide) hN_M_isField (by rw [hL_M_isField]; exact Nat.le_of_ble_eq_true rfl) (Nat.le_of_ble_eq_true rfl) hc ?_
  refine aw_if_eq 13 k179_6 (by decide) (fun c_6 => ?_) (fun c_6 => ?_)
  · exact absurd (show (1 : Int32) = 0 from c_6) (by decide)
  · refine aw_iconst (v := 0) k179_9 (by decide) ?_
    refine aw_goto (t := 14) k179_10 (by decide) ?_
    refine aw_callV1 k179_14 hC_M_leftTurns ok_M_holds sv_M_102 hH_M_holds ⟨rfl, rfl⟩ (by decide) hN_M_holds (by rw [hL_M_holds]; exact Nat.le_of_ble_eq_true rfl) (Nat.le_of_ble_eq_true rfl) holds_t ?_
    refine aw_if_eq 29 k179_17 (by decide) (fun c_17 => ?_) (fun c_17 => ?_)
    · exact absurd (show (1 : Int32) = 0 from c_17) (by decide)
    · refine aw_aload_n k179_20 rfl ?_
      refine aw_iload_n k179_21 rfl ?_
      refine aw_iconst (v := 1) k179_22 (by decide) ?_
      refine aw_callV2 k179_23 hC_M_leftTurns ok_M_turns sv_M_169 hH_M_turns ⟨rfl, rfl⟩ (by decide) hN_M_turns (by rw [hL_M_turns]; exact Nat.le_of_ble_eq_true rfl) (Nat.le_of_ble_eq_true rfl) hk ?_
      refine aw_goto (t := 30) k179_26 (by decide) ?_
      refine aw_ireturn k179_30 hR_M_leftTurns ?_ ?_
      all_goals first | rfl | exact Or.inl rfl | exact Or.inr rfl | assumption | (simp_all; done) | ((repeat' split) <;> first | rfl | (simp only [Int32.lt_iff_toInt_lt, Int32.le_iff_toInt_le, Int64.lt_iff_toInt_lt, Int64.le_iff_toInt_le] at *; omega) | (simp_all; done))
theorem mx_leftTurns {d L : Nat} {M : mM} {f t : Nat → Int32} {hs : List (Nat → Int32)} {sn : Option (Nat → Int32)} (h : MR M f hs sn t L) (hS : ShF f) (hB : BdF f) {x : Int32} (hx : hasF f x = false) : CT iM_leftTurns (d + 8) [vR 6 0 0, vI x] M (.inl (some (vI 0))) (mUp M (6, 0, 0) 0 1) 0 := by
  have hc := m_isF (d := d + 6) (x := x) h hS
  rw [hx] at hc
  refine ct_go hL_M_leftTurns rfl ?_
  refine aw_aload_n k179_0 rfl ?_
  refine aw_aload_n k179_1 rfl ?_
  refine aw_iload_n k179_2 rfl ?_
  refine aw_callV1 k179_3 hC_M_leftTurns ok_M_isField sv_M_33 hH_M_isField ⟨rfl, rfl⟩ (by decide) hN_M_isField (by rw [hL_M_isField]; exact Nat.le_of_ble_eq_true rfl) (Nat.le_of_ble_eq_true rfl) hc ?_
  refine aw_if_eq 13 k179_6 (by decide) (fun c_6 => ?_) (fun c_6 => ?_)
  · refine aw_iconst (v := 1) k179_13 (by decide) ?_
    refine aw_callV1 k179_14 hC_M_leftTurns ok_M_holds sv_M_102 hH_M_holds ⟨rfl, rfl⟩ (by decide) hN_M_holds (by rw [hL_M_holds]; exact Nat.le_of_ble_eq_true rfl) (Nat.le_of_ble_eq_true rfl) (holds_f (by decide)) ?_
    refine aw_if_eq 29 k179_17 (by decide) (fun c_17 => ?_) (fun c_17 => ?_)
    · refine aw_iconst (v := 0) k179_29 (by decide) ?_
      refine aw_ireturn k179_30 hR_M_leftTurns ?_ ?_
      all_goals first | rfl | exact Or.inl rfl | exact Or.inr rfl | assumption | (simp_all; done) | ((repeat' split) <;> first | rfl | (simp only [Int32.lt_iff_toInt_lt, Int32.le_iff_toInt_le, Int64.lt_iff_toInt_lt, Int64.le_iff_toInt_le] at *; omega) | (simp_all; done))
    · exact absurd rfl c_17
  · exact absurd rfl c_6
theorem m_twiceAreaByCorners {d L : Nat} {M : mM} {f t : Nat → Int32} {hs : List (Nat → Int32)} {sn : Option (Nat → Int32)} (h : MR M f hs sn t L) (hS : ShF f) (hB : BdF f) {x : Int32} (hx : hasF f x = true) : CT iM_twiceAreaByCorners (d + 8) [vR 6 0 0, vI x] M (.inl (some (vL (twF f x.toNatClampNeg)))) (mUp M (6, 0, 0) 0 0) 0 := by
  have e : mUp M (6, 0, 0) 0 0 (13, 0, 0) = f := by rw [mUp_ne (by simp)]; exact h.1
  have hc := m_isF (d := d + 6) (x := x) h hS
  rw [hx] at hc
  obtain ⟨ex, hlt⟩ := hasF_at hx hS.2.2.1 hS.2.2.2.1
  have hfm : FM (mUp M (6, 0, 0) 0 0 (13, 0, 0)) x.toNatClampNeg (bN f x.toNatClampNeg) := by rw [e]; exact hS.fm hlt
  have hb9 : ∀ k, k < bN f x.toNatClampNeg → bi (bX (blk f x.toNatClampNeg) k) 400000 ∧ bi (bY (blk f x.toNatClampNeg) k) 400000 := hB.2.2.2.1 _ hlt
  have h12 : bN f x.toNatClampNeg ≤ 12 := hfm.2.2.2
  have h03 : 0 < bN f x.toNatClampNeg := hfm.2.2.1
  have hk := s_M_twice (d := d + 4) hfm
  rw [e, ← ex] at hk
  refine ct_go hL_M_twiceAreaByCorners rfl ?_
  refine aw_aload_n k183_0 rfl ?_
  refine aw_aload_n k183_1 rfl ?_
  refine aw_iload_n k183_2 rfl ?_
  refine aw_callV1 k183_3 hC_M_twiceAreaByCorners ok_M_isField sv_M_33 hH_M_isField ⟨rfl, rfl⟩ (by decide) hN_M_isField (by rw [hL_M_isField]; exact Nat.le_of_ble_eq_true rfl) (Nat.le_of_ble_eq_true rfl) hc ?_
  refine aw_if_eq 13 k183_6 (by decide) (fun c_6 => ?_) (fun c_6 => ?_)
  · exact absurd (show (1 : Int32) = 0 from c_6) (by decide)
  · refine aw_iconst (v := 0) k183_9 (by decide) ?_
    refine aw_goto (t := 14) k183_10 (by decide) ?_
    refine aw_callV1 k183_14 hC_M_twiceAreaByCorners ok_M_holds sv_M_102 hH_M_holds ⟨rfl, rfl⟩ (by decide) hN_M_holds (by rw [hL_M_holds]; exact Nat.le_of_ble_eq_true rfl) (Nat.le_of_ble_eq_true rfl) holds_t ?_
    refine aw_if_eq 28 k183_17 (by decide) (fun c_17 => ?_) (fun c_17 => ?_)
    · exact absurd (show (1 : Int32) = 0 from c_17) (by decide)
    · refine aw_aload_n k183_20 rfl ?_
      refine aw_iload_n k183_21 rfl ?_
      refine aw_callV1 k183_22 hC_M_twiceAreaByCorners ok_M_twice sv_M_87 hH_M_twice ⟨rfl, rfl⟩ (by decide) hN_M_twice (by rw [hL_M_twice]; exact Nat.le_of_ble_eq_true rfl) (Nat.le_of_ble_eq_true rfl) hk ?_
      refine aw_goto (t := 29) k183_25 (by decide) ?_
      refine aw_lreturn k183_29 hR_M_twiceAreaByCorners ?_ ?_
      all_goals first | rfl | exact Or.inl rfl | exact Or.inr rfl | assumption | (simp_all; done) | ((repeat' split) <;> first | rfl | (simp only [Int32.lt_iff_toInt_lt, Int32.le_iff_toInt_le, Int64.lt_iff_toInt_lt, Int64.le_iff_toInt_le] at *; omega) | (simp_all; done))
theorem mx_twiceAreaByCorners {d L : Nat} {M : mM} {f t : Nat → Int32} {hs : List (Nat → Int32)} {sn : Option (Nat → Int32)} (h : MR M f hs sn t L) (hS : ShF f) (hB : BdF f) {x : Int32} (hx : hasF f x = false) : CT iM_twiceAreaByCorners (d + 8) [vR 6 0 0, vI x] M (.inl (some (vL 0))) (mUp M (6, 0, 0) 0 1) 0 := by
  have hc := m_isF (d := d + 6) (x := x) h hS
  rw [hx] at hc
  refine ct_go hL_M_twiceAreaByCorners rfl ?_
  refine aw_aload_n k183_0 rfl ?_
  refine aw_aload_n k183_1 rfl ?_
  refine aw_iload_n k183_2 rfl ?_
  refine aw_callV1 k183_3 hC_M_twiceAreaByCorners ok_M_isField sv_M_33 hH_M_isField ⟨rfl, rfl⟩ (by decide) hN_M_isField (by rw [hL_M_isField]; exact Nat.le_of_ble_eq_true rfl) (Nat.le_of_ble_eq_true rfl) hc ?_
  refine aw_if_eq 13 k183_6 (by decide) (fun c_6 => ?_) (fun c_6 => ?_)
  · refine aw_iconst (v := 1) k183_13 (by decide) ?_
    refine aw_callV1 k183_14 hC_M_twiceAreaByCorners ok_M_holds sv_M_102 hH_M_holds ⟨rfl, rfl⟩ (by decide) hN_M_holds (by rw [hL_M_holds]; exact Nat.le_of_ble_eq_true rfl) (Nat.le_of_ble_eq_true rfl) (holds_f (by decide)) ?_
    refine aw_if_eq 28 k183_17 (by decide) (fun c_17 => ?_) (fun c_17 => ?_)
    · refine aw_lconst (v := 0) k183_28 (by decide) ?_
      refine aw_lreturn k183_29 hR_M_twiceAreaByCorners ?_ ?_
      all_goals first | rfl | exact Or.inl rfl | exact Or.inr rfl | assumption | (simp_all; done) | ((repeat' split) <;> first | rfl | (simp only [Int32.lt_iff_toInt_lt, Int32.le_iff_toInt_le, Int64.lt_iff_toInt_lt, Int64.le_iff_toInt_le] at *; omega) | (simp_all; done))
    · exact absurd rfl c_17
  · exact absurd rfl c_6
theorem m_twiceAreaByStrips {d L : Nat} {M : mM} {f t : Nat → Int32} {hs : List (Nat → Int32)} {sn : Option (Nat → Int32)} (h : MR M f hs sn t L) (hS : ShF f) (hB : BdF f) {x : Int32} (hx : hasF f x = true) : CT iM_twiceAreaByStrips (d + 8) [vR 6 0 0, vI x] M (.inl (some (vL (strF f x.toNatClampNeg)))) (mUp M (6, 0, 0) 0 0) 0 := by
  have e : mUp M (6, 0, 0) 0 0 (13, 0, 0) = f := by rw [mUp_ne (by simp)]; exact h.1
  have hc := m_isF (d := d + 6) (x := x) h hS
  rw [hx] at hc
  obtain ⟨ex, hlt⟩ := hasF_at hx hS.2.2.1 hS.2.2.2.1
  have hfm : FM (mUp M (6, 0, 0) 0 0 (13, 0, 0)) x.toNatClampNeg (bN f x.toNatClampNeg) := by rw [e]; exact hS.fm hlt
  have hb9 : ∀ k, k < bN f x.toNatClampNeg → bi (bX (blk f x.toNatClampNeg) k) 400000 ∧ bi (bY (blk f x.toNatClampNeg) k) 400000 := hB.2.2.2.1 _ hlt
  have h12 : bN f x.toNatClampNeg ≤ 12 := hfm.2.2.2
  have h03 : 0 < bN f x.toNatClampNeg := hfm.2.2.1
  have hk := s_M_twice (d := d + 4) hfm
  rw [e, ← ex] at hk
  have hst : strF f x.toNatClampNeg = twF f x.toNatClampNeg := st_eq hb9 h12 h03
  rw [hst]
  refine ct_go hL_M_twiceAreaByStrips rfl ?_
  refine aw_aload_n k184_0 rfl ?_
  refine aw_aload_n k184_1 rfl ?_
  refine aw_iload_n k184_2 rfl ?_
  refine aw_callV1 k184_3 hC_M_twiceAreaByStrips ok_M_isField sv_M_33 hH_M_isField ⟨rfl, rfl⟩ (by decide) hN_M_isField (by rw [hL_M_isField]; exact Nat.le_of_ble_eq_true rfl) (Nat.le_of_ble_eq_true rfl) hc ?_
  refine aw_if_eq 13 k184_6 (by decide) (fun c_6 => ?_) (fun c_6 => ?_)
  · exact absurd (show (1 : Int32) = 0 from c_6) (by decide)
  · refine aw_iconst (v := 0) k184_9 (by decide) ?_
    refine aw_goto (t := 14) k184_10 (by decide) ?_
    refine aw_callV1 k184_14 hC_M_twiceAreaByStrips ok_M_holds sv_M_102 hH_M_holds ⟨rfl, rfl⟩ (by decide) hN_M_holds (by rw [hL_M_holds]; exact Nat.le_of_ble_eq_true rfl) (Nat.le_of_ble_eq_true rfl) holds_t ?_
    refine aw_if_eq 28 k184_17 (by decide) (fun c_17 => ?_) (fun c_17 => ?_)
    · exact absurd (show (1 : Int32) = 0 from c_17) (by decide)
    · refine aw_aload_n k184_20 rfl ?_
      refine aw_iload_n k184_21 rfl ?_
      refine aw_callV1 k184_22 hC_M_twiceAreaByStrips ok_M_twice sv_M_87 hH_M_twice ⟨rfl, rfl⟩ (by decide) hN_M_twice (by rw [hL_M_twice]; exact Nat.le_of_ble_eq_true rfl) (Nat.le_of_ble_eq_true rfl) hk ?_
      refine aw_goto (t := 29) k184_25 (by decide) ?_
      refine aw_lreturn k184_29 hR_M_twiceAreaByStrips ?_ ?_
      all_goals first | rfl | exact Or.inl rfl | exact Or.inr rfl | assumption | (simp_all; done) | ((repeat' split) <;> first | rfl | (simp only [Int32.lt_iff_toInt_lt, Int32.le_iff_toInt_le, Int64.lt_iff_toInt_lt, Int64.le_iff_toInt_le] at *; omega) | (simp_all; done))
theorem mx_twiceAreaByStrips {d L : Nat} {M : mM} {f t : Nat → Int32} {hs : List (Nat → Int32)} {sn : Option (Nat → Int32)} (h : MR M f hs sn t L) (hS : ShF f) (hB : BdF f) {x : Int32} (hx : hasF f x = false) : CT iM_twiceAreaByStrips (d + 8) [vR 6 0 0, vI x] M (.inl (some (vL 0))) (mUp M (6, 0, 0) 0 1) 0 := by
  have hc := m_isF (d := d + 6) (x := x) h hS
  rw [hx] at hc
  refine ct_go hL_M_twiceAreaByStrips rfl ?_
  refine aw_aload_n k184_0 rfl ?_
  refine aw_aload_n k184_1 rfl ?_
  refine aw_iload_n k184_2 rfl ?_
  refine aw_callV1 k184_3 hC_M_twiceAreaByStrips ok_M_isField sv_M_33 hH_M_isField ⟨rfl, rfl⟩ (by decide) hN_M_isField (by rw [hL_M_isField]; exact Nat.le_of_ble_eq_true rfl) (Nat.le_of_ble_eq_true rfl) hc ?_
  refine aw_if_eq 13 k184_6 (by decide) (fun c_6 => ?_) (fun c_6 => ?_)
  · refine aw_iconst (v := 1) k184_13 (by decide) ?_
    refine aw_callV1 k184_14 hC_M_twiceAreaByStrips ok_M_holds sv_M_102 hH_M_holds ⟨rfl, rfl⟩ (by decide) hN_M_holds (by rw [hL_M_holds]; exact Nat.le_of_ble_eq_true rfl) (Nat.le_of_ble_eq_true rfl) (holds_f (by decide)) ?_
    refine aw_if_eq 28 k184_17 (by decide) (fun c_17 => ?_) (fun c_17 => ?_)
    · refine aw_lconst (v := 0) k184_28 (by decide) ?_
      refine aw_lreturn k184_29 hR_M_twiceAreaByStrips ?_ ?_
      all_goals first | rfl | exact Or.inl rfl | exact Or.inr rfl | assumption | (simp_all; done) | ((repeat' split) <;> first | rfl | (simp only [Int32.lt_iff_toInt_lt, Int32.le_iff_toInt_le, Int64.lt_iff_toInt_lt, Int64.le_iff_toInt_le] at *; omega) | (simp_all; done))
    · exact absurd rfl c_17
  · exact absurd rfl c_6
theorem m_area {d : Nat} {M : mM} {f : Nat → Int32} {i : Nat} (e : M (13, 0, 0) = f) (hfm : FM (M (13, 0, 0)) i (bN f i)) : CT iM_area (d + 4) [vR 6 0 0, vI (nI i)] M (.inl (some (vL (twF f i / 2)))) M 0 := by
  have hk := s_M_twice (d := d) hfm
  rw [e] at hk
  refine ct_go hL_M_area rfl ?_
  refine aw_aload_n k185_0 rfl ?_
  refine aw_iload_n k185_1 rfl ?_
  refine aw_callV1 k185_2 hC_M_area ok_M_twice sv_M_87 hH_M_twice ⟨rfl, rfl⟩ (by decide) hN_M_twice (by rw [hL_M_twice]; exact Nat.le_of_ble_eq_true rfl) (Nat.le_of_ble_eq_true rfl) hk ?_
  refine aw_ldc2_w k185_5 hC_M_area cl_M_181 ?_
  refine aw_ldiv k185_8 (by decide) ?_
  refine aw_lreturn k185_9 hR_M_area ?_ ?_
  all_goals first | rfl | exact Or.inl rfl | exact Or.inr rfl | assumption | (simp_all; done) | ((repeat' split) <;> first | rfl | (simp only [Int32.lt_iff_toInt_lt, Int32.le_iff_toInt_le, Int64.lt_iff_toInt_lt, Int64.le_iff_toInt_le] at *; omega) | (simp_all; done))
theorem m_acresOf {d L : Nat} {M : mM} {f t : Nat → Int32} {hs : List (Nat → Int32)} {sn : Option (Nat → Int32)} (h : MR M f hs sn t L) (hS : ShF f) (hB : BdF f) {x : Int32} (hx : hasF f x = true) : CT iM_acresOf (d + 8) [vR 6 0 0, vI x] M (.inl (some (vI ((twF f x.toNatClampNeg / 2 / 100000).toInt32)))) (mUp M (6, 0, 0) 0 0) 0 := by
  have e : mUp M (6, 0, 0) 0 0 (13, 0, 0) = f := by rw [mUp_ne (by simp)]; exact h.1
  have hc := m_isF (d := d + 6) (x := x) h hS
  rw [hx] at hc
  obtain ⟨ex, hlt⟩ := hasF_at hx hS.2.2.1 hS.2.2.2.1
  have hfm : FM (mUp M (6, 0, 0) 0 0 (13, 0, 0)) x.toNatClampNeg (bN f x.toNatClampNeg) := by rw [e]; exact hS.fm hlt
  have hb9 : ∀ k, k < bN f x.toNatClampNeg → bi (bX (blk f x.toNatClampNeg) k) 400000 ∧ bi (bY (blk f x.toNatClampNeg) k) 400000 := hB.2.2.2.1 _ hlt
  have h12 : bN f x.toNatClampNeg ≤ 12 := hfm.2.2.2
  have h03 : 0 < bN f x.toNatClampNeg := hfm.2.2.1
  have hk := m_area (d := d + 3) e hfm
  rw [← ex] at hk
  refine ct_go hL_M_acresOf rfl ?_
  refine aw_aload_n k186_0 rfl ?_
  refine aw_aload_n k186_1 rfl ?_
  refine aw_iload_n k186_2 rfl ?_
  refine aw_callV1 k186_3 hC_M_acresOf ok_M_isField sv_M_33 hH_M_isField ⟨rfl, rfl⟩ (by decide) hN_M_isField (by rw [hL_M_isField]; exact Nat.le_of_ble_eq_true rfl) (Nat.le_of_ble_eq_true rfl) hc ?_
  refine aw_if_eq 13 k186_6 (by decide) (fun c_6 => ?_) (fun c_6 => ?_)
  · exact absurd (show (1 : Int32) = 0 from c_6) (by decide)
  · refine aw_iconst (v := 0) k186_9 (by decide) ?_
    refine aw_goto (t := 14) k186_10 (by decide) ?_
    refine aw_callV1 k186_14 hC_M_acresOf ok_M_holds sv_M_102 hH_M_holds ⟨rfl, rfl⟩ (by decide) hN_M_holds (by rw [hL_M_holds]; exact Nat.le_of_ble_eq_true rfl) (Nat.le_of_ble_eq_true rfl) holds_t ?_
    refine aw_if_eq 33 k186_17 (by decide) (fun c_17 => ?_) (fun c_17 => ?_)
    · exact absurd (show (1 : Int32) = 0 from c_17) (by decide)
    · refine aw_aload_n k186_20 rfl ?_
      refine aw_iload_n k186_21 rfl ?_
      refine aw_callV1 k186_22 hC_M_acresOf ok_M_area sv_M_183 hH_M_area ⟨rfl, rfl⟩ (by decide) hN_M_area (by rw [hL_M_area]; exact Nat.le_of_ble_eq_true rfl) (Nat.le_of_ble_eq_true rfl) hk ?_
      refine aw_ldc2_w k186_25 hC_M_acresOf cl_M_186 ?_
      refine aw_ldiv k186_28 (by decide) ?_
      refine aw_l2i k186_29 ?_
      refine aw_goto (t := 34) k186_30 (by decide) ?_
      refine aw_ireturn k186_34 hR_M_acresOf ?_ ?_
      all_goals first | rfl | exact Or.inl rfl | exact Or.inr rfl | assumption | (simp_all; done) | ((repeat' split) <;> first | rfl | (simp only [Int32.lt_iff_toInt_lt, Int32.le_iff_toInt_le, Int64.lt_iff_toInt_lt, Int64.le_iff_toInt_le] at *; omega) | (simp_all; done))
theorem mx_acresOf {d L : Nat} {M : mM} {f t : Nat → Int32} {hs : List (Nat → Int32)} {sn : Option (Nat → Int32)} (h : MR M f hs sn t L) (hS : ShF f) (hB : BdF f) {x : Int32} (hx : hasF f x = false) : CT iM_acresOf (d + 8) [vR 6 0 0, vI x] M (.inl (some (vI 0))) (mUp M (6, 0, 0) 0 1) 0 := by
  have hc := m_isF (d := d + 6) (x := x) h hS
  rw [hx] at hc
  refine ct_go hL_M_acresOf rfl ?_
  refine aw_aload_n k186_0 rfl ?_
  refine aw_aload_n k186_1 rfl ?_
  refine aw_iload_n k186_2 rfl ?_
  refine aw_callV1 k186_3 hC_M_acresOf ok_M_isField sv_M_33 hH_M_isField ⟨rfl, rfl⟩ (by decide) hN_M_isField (by rw [hL_M_isField]; exact Nat.le_of_ble_eq_true rfl) (Nat.le_of_ble_eq_true rfl) hc ?_
  refine aw_if_eq 13 k186_6 (by decide) (fun c_6 => ?_) (fun c_6 => ?_)
  · refine aw_iconst (v := 1) k186_13 (by decide) ?_
    refine aw_callV1 k186_14 hC_M_acresOf ok_M_holds sv_M_102 hH_M_holds ⟨rfl, rfl⟩ (by decide) hN_M_holds (by rw [hL_M_holds]; exact Nat.le_of_ble_eq_true rfl) (Nat.le_of_ble_eq_true rfl) (holds_f (by decide)) ?_
    refine aw_if_eq 33 k186_17 (by decide) (fun c_17 => ?_) (fun c_17 => ?_)
    · refine aw_iconst (v := 0) k186_33 (by decide) ?_
      refine aw_ireturn k186_34 hR_M_acresOf ?_ ?_
      all_goals first | rfl | exact Or.inl rfl | exact Or.inr rfl | assumption | (simp_all; done) | ((repeat' split) <;> first | rfl | (simp only [Int32.lt_iff_toInt_lt, Int32.le_iff_toInt_le, Int64.lt_iff_toInt_lt, Int64.le_iff_toInt_le] at *; omega) | (simp_all; done))
    · exact absurd rfl c_17
  · exact absurd rfl c_6
theorem m_perchesOf {d L : Nat} {M : mM} {f t : Nat → Int32} {hs : List (Nat → Int32)} {sn : Option (Nat → Int32)} (h : MR M f hs sn t L) (hS : ShF f) (hB : BdF f) {x : Int32} (hx : hasF f x = true) : CT iM_perchesOf (d + 8) [vR 6 0 0, vI x] M (.inl (some (vI (((twF f x.toNatClampNeg / 2 - twF f x.toNatClampNeg / 2 / 25000 * 25000) / 625).toInt32)))) (mUp M (6, 0, 0) 0 0) 0 := by
  have e : mUp M (6, 0, 0) 0 0 (13, 0, 0) = f := by rw [mUp_ne (by simp)]; exact h.1
  have hc := m_isF (d := d + 6) (x := x) h hS
  rw [hx] at hc
  obtain ⟨ex, hlt⟩ := hasF_at hx hS.2.2.1 hS.2.2.2.1
  have hfm : FM (mUp M (6, 0, 0) 0 0 (13, 0, 0)) x.toNatClampNeg (bN f x.toNatClampNeg) := by rw [e]; exact hS.fm hlt
  have hb9 : ∀ k, k < bN f x.toNatClampNeg → bi (bX (blk f x.toNatClampNeg) k) 400000 ∧ bi (bY (blk f x.toNatClampNeg) k) 400000 := hB.2.2.2.1 _ hlt
  have h12 : bN f x.toNatClampNeg ≤ 12 := hfm.2.2.2
  have h03 : 0 < bN f x.toNatClampNeg := hfm.2.2.1
  have hk := m_area (d := d + 3) e hfm
  rw [← ex] at hk
  refine ct_go hL_M_perchesOf rfl ?_
  refine aw_aload_n k188_0 rfl ?_
  refine aw_aload_n k188_1 rfl ?_
  refine aw_iload_n k188_2 rfl ?_
  refine aw_callV1 k188_3 hC_M_perchesOf ok_M_isField sv_M_33 hH_M_isField ⟨rfl, rfl⟩ (by decide) hN_M_isField (by rw [hL_M_isField]; exact Nat.le_of_ble_eq_true rfl) (Nat.le_of_ble_eq_true rfl) hc ?_
  refine aw_if_eq 13 k188_6 (by decide) (fun c_6 => ?_) (fun c_6 => ?_)
  · exact absurd (show (1 : Int32) = 0 from c_6) (by decide)
  · refine aw_iconst (v := 0) k188_9 (by decide) ?_
    refine aw_goto (t := 14) k188_10 (by decide) ?_
    refine aw_callV1 k188_14 hC_M_perchesOf ok_M_holds sv_M_102 hH_M_holds ⟨rfl, rfl⟩ (by decide) hN_M_holds (by rw [hL_M_holds]; exact Nat.le_of_ble_eq_true rfl) (Nat.le_of_ble_eq_true rfl) holds_t ?_
    refine aw_if_eq 37 k188_17 (by decide) (fun c_17 => ?_) (fun c_17 => ?_)
    · exact absurd (show (1 : Int32) = 0 from c_17) (by decide)
    · refine aw_aload_n k188_20 rfl ?_
      refine aw_iload_n k188_21 rfl ?_
      refine aw_callV1 k188_22 hC_M_perchesOf ok_M_area sv_M_183 hH_M_area ⟨rfl, rfl⟩ (by decide) hN_M_area (by rw [hL_M_area]; exact Nat.le_of_ble_eq_true rfl) (Nat.le_of_ble_eq_true rfl) hk ?_
      refine aw_ldc2_w k188_25 hC_M_perchesOf cl_M_188 ?_
      refine aw_lrem k188_28 (by decide) ?_
      refine aw_ldc2_w k188_29 hC_M_perchesOf cl_M_192 ?_
      refine aw_ldiv k188_32 (by decide) ?_
      refine aw_l2i k188_33 ?_
      refine aw_goto (t := 38) k188_34 (by decide) ?_
      refine aw_ireturn k188_38 hR_M_perchesOf ?_ ?_
      all_goals first | rfl | exact Or.inl rfl | exact Or.inr rfl | assumption | (simp_all; done) | ((repeat' split) <;> first | rfl | (simp only [Int32.lt_iff_toInt_lt, Int32.le_iff_toInt_le, Int64.lt_iff_toInt_lt, Int64.le_iff_toInt_le] at *; omega) | (simp_all; done))
theorem mx_perchesOf {d L : Nat} {M : mM} {f t : Nat → Int32} {hs : List (Nat → Int32)} {sn : Option (Nat → Int32)} (h : MR M f hs sn t L) (hS : ShF f) (hB : BdF f) {x : Int32} (hx : hasF f x = false) : CT iM_perchesOf (d + 8) [vR 6 0 0, vI x] M (.inl (some (vI 0))) (mUp M (6, 0, 0) 0 1) 0 := by
  have hc := m_isF (d := d + 6) (x := x) h hS
  rw [hx] at hc
  refine ct_go hL_M_perchesOf rfl ?_
  refine aw_aload_n k188_0 rfl ?_
  refine aw_aload_n k188_1 rfl ?_
  refine aw_iload_n k188_2 rfl ?_
  refine aw_callV1 k188_3 hC_M_perchesOf ok_M_isField sv_M_33 hH_M_isField ⟨rfl, rfl⟩ (by decide) hN_M_isField (by rw [hL_M_isField]; exact Nat.le_of_ble_eq_true rfl) (Nat.le_of_ble_eq_true rfl) hc ?_
  refine aw_if_eq 13 k188_6 (by decide) (fun c_6 => ?_) (fun c_6 => ?_)
  · refine aw_iconst (v := 1) k188_13 (by decide) ?_
    refine aw_callV1 k188_14 hC_M_perchesOf ok_M_holds sv_M_102 hH_M_holds ⟨rfl, rfl⟩ (by decide) hN_M_holds (by rw [hL_M_holds]; exact Nat.le_of_ble_eq_true rfl) (Nat.le_of_ble_eq_true rfl) (holds_f (by decide)) ?_
    refine aw_if_eq 37 k188_17 (by decide) (fun c_17 => ?_) (fun c_17 => ?_)
    · refine aw_iconst (v := 0) k188_37 (by decide) ?_
      refine aw_ireturn k188_38 hR_M_perchesOf ?_ ?_
      all_goals first | rfl | exact Or.inl rfl | exact Or.inr rfl | assumption | (simp_all; done) | ((repeat' split) <;> first | rfl | (simp only [Int32.lt_iff_toInt_lt, Int32.le_iff_toInt_le, Int64.lt_iff_toInt_lt, Int64.le_iff_toInt_le] at *; omega) | (simp_all; done))
    · exact absurd rfl c_17
  · exact absurd rfl c_6
theorem m_roodsOf {d L : Nat} {M : mM} {f t : Nat → Int32} {hs : List (Nat → Int32)} {sn : Option (Nat → Int32)} (h : MR M f hs sn t L) (hS : ShF f) (hB : BdF f) {x : Int32} (hx : hasF f x = true) : CT iM_roodsOf (d + 8) [vR 6 0 0, vI x] M (.inl (some (vI (((twF f x.toNatClampNeg / 2 - twF f x.toNatClampNeg / 2 / 100000 * 100000) / 25000).toInt32)))) (mUp M (6, 0, 0) 0 0) 0 := by
  have e : mUp M (6, 0, 0) 0 0 (13, 0, 0) = f := by rw [mUp_ne (by simp)]; exact h.1
  have hc := m_isF (d := d + 6) (x := x) h hS
  rw [hx] at hc
  obtain ⟨ex, hlt⟩ := hasF_at hx hS.2.2.1 hS.2.2.2.1
  have hfm : FM (mUp M (6, 0, 0) 0 0 (13, 0, 0)) x.toNatClampNeg (bN f x.toNatClampNeg) := by rw [e]; exact hS.fm hlt
  have hb9 : ∀ k, k < bN f x.toNatClampNeg → bi (bX (blk f x.toNatClampNeg) k) 400000 ∧ bi (bY (blk f x.toNatClampNeg) k) 400000 := hB.2.2.2.1 _ hlt
  have h12 : bN f x.toNatClampNeg ≤ 12 := hfm.2.2.2
  have h03 : 0 < bN f x.toNatClampNeg := hfm.2.2.1
  have hk := m_area (d := d + 3) e hfm
  rw [← ex] at hk
  have hr := tw_rng hb9 h12
  have hrd := roods_eq (a := twF f x.toNatClampNeg / 2) (by
    have hr1 : 0 ≤ (twF f x.toNatClampNeg).toInt := hr.1
    rw [l_dive (by decide) hr1]
    have z2 : (2 : Int64).toInt = 2 := rfl
    rw [z2]
    omega)
  rw [← hrd]
  refine ct_go hL_M_roodsOf rfl ?_
  refine aw_aload_n k187_0 rfl ?_
  refine aw_aload_n k187_1 rfl ?_
  refine aw_iload_n k187_2 rfl ?_
  refine aw_callV1 k187_3 hC_M_roodsOf ok_M_isField sv_M_33 hH_M_isField ⟨rfl, rfl⟩ (by decide) hN_M_isField (by rw [hL_M_isField]; exact Nat.le_of_ble_eq_true rfl) (Nat.le_of_ble_eq_true rfl) hc ?_
  refine aw_if_eq 13 k187_6 (by decide) (fun c_6 => ?_) (fun c_6 => ?_)
  · exact absurd (show (1 : Int32) = 0 from c_6) (by decide)
  · refine aw_iconst (v := 0) k187_9 (by decide) ?_
    refine aw_goto (t := 14) k187_10 (by decide) ?_
    refine aw_callV1 k187_14 hC_M_roodsOf ok_M_holds sv_M_102 hH_M_holds ⟨rfl, rfl⟩ (by decide) hN_M_holds (by rw [hL_M_holds]; exact Nat.le_of_ble_eq_true rfl) (Nat.le_of_ble_eq_true rfl) holds_t ?_
    refine aw_if_eq 37 k187_17 (by decide) (fun c_17 => ?_) (fun c_17 => ?_)
    · exact absurd (show (1 : Int32) = 0 from c_17) (by decide)
    · refine aw_aload_n k187_20 rfl ?_
      refine aw_iload_n k187_21 rfl ?_
      refine aw_callV1 k187_22 hC_M_roodsOf ok_M_area sv_M_183 hH_M_area ⟨rfl, rfl⟩ (by decide) hN_M_area (by rw [hL_M_area]; exact Nat.le_of_ble_eq_true rfl) (Nat.le_of_ble_eq_true rfl) hk ?_
      refine aw_ldc2_w k187_25 hC_M_roodsOf cl_M_188 ?_
      refine aw_ldiv k187_28 (by decide) ?_
      refine aw_ldc2_w k187_29 hC_M_roodsOf cl_M_190 ?_
      refine aw_lrem k187_32 (by decide) ?_
      refine aw_l2i k187_33 ?_
      refine aw_goto (t := 38) k187_34 (by decide) ?_
      refine aw_ireturn k187_38 hR_M_roodsOf ?_ ?_
      all_goals first | rfl | exact Or.inl rfl | exact Or.inr rfl | assumption | (simp_all; done) | ((repeat' split) <;> first | rfl | (simp only [Int32.lt_iff_toInt_lt, Int32.le_iff_toInt_le, Int64.lt_iff_toInt_lt, Int64.le_iff_toInt_le] at *; omega) | (simp_all; done))
theorem mx_roodsOf {d L : Nat} {M : mM} {f t : Nat → Int32} {hs : List (Nat → Int32)} {sn : Option (Nat → Int32)} (h : MR M f hs sn t L) (hS : ShF f) (hB : BdF f) {x : Int32} (hx : hasF f x = false) : CT iM_roodsOf (d + 8) [vR 6 0 0, vI x] M (.inl (some (vI 0))) (mUp M (6, 0, 0) 0 1) 0 := by
  have hc := m_isF (d := d + 6) (x := x) h hS
  rw [hx] at hc
  refine ct_go hL_M_roodsOf rfl ?_
  refine aw_aload_n k187_0 rfl ?_
  refine aw_aload_n k187_1 rfl ?_
  refine aw_iload_n k187_2 rfl ?_
  refine aw_callV1 k187_3 hC_M_roodsOf ok_M_isField sv_M_33 hH_M_isField ⟨rfl, rfl⟩ (by decide) hN_M_isField (by rw [hL_M_isField]; exact Nat.le_of_ble_eq_true rfl) (Nat.le_of_ble_eq_true rfl) hc ?_
  refine aw_if_eq 13 k187_6 (by decide) (fun c_6 => ?_) (fun c_6 => ?_)
  · refine aw_iconst (v := 1) k187_13 (by decide) ?_
    refine aw_callV1 k187_14 hC_M_roodsOf ok_M_holds sv_M_102 hH_M_holds ⟨rfl, rfl⟩ (by decide) hN_M_holds (by rw [hL_M_holds]; exact Nat.le_of_ble_eq_true rfl) (Nat.le_of_ble_eq_true rfl) (holds_f (by decide)) ?_
    refine aw_if_eq 37 k187_17 (by decide) (fun c_17 => ?_) (fun c_17 => ?_)
    · refine aw_iconst (v := 0) k187_37 (by decide) ?_
      refine aw_ireturn k187_38 hR_M_roodsOf ?_ ?_
      all_goals first | rfl | exact Or.inl rfl | exact Or.inr rfl | assumption | (simp_all; done) | ((repeat' split) <;> first | rfl | (simp only [Int32.lt_iff_toInt_lt, Int32.le_iff_toInt_le, Int64.lt_iff_toInt_lt, Int64.le_iff_toInt_le] at *; omega) | (simp_all; done))
    · exact absurd rfl c_17
  · exact absurd rfl c_6
