/-! THE OFFICE'S CALLS -/
abbrev inR (x y : Int32) : Prop := -y ≤ x ∧ x ≤ y
theorem iw_t {d : Nat} {M : mM} {x y : Int32} (h : inR x y) : CT iA_isWithin d [vI x, vI y] M (.inl (some (vI 1))) M 0 := by
  have := s_A_isWithin (d := d) (M := M) (x := x) (y := y)
  rw [if_pos h] at this
  exact this
theorem iw_f {d : Nat} {M : mM} {x y : Int32} (h : ¬ inR x y) : CT iA_isWithin d [vI x, vI y] M (.inl (some (vI 0))) M 0 := by
  have := s_A_isWithin (d := d) (M := M) (x := x) (y := y)
  rw [if_neg h] at this
  exact this
theorem s_A_knownField {d : Nat} {M : mM} {f : Nat → Int32} {x : Int32} (hR : RelS M 0 f) (h : hasF f x = true) : CT iA_knownField (d + 6) [vR 5 0 0, vI x] M (.inl (some (vR 0 0 x.toNatClampNeg))) M 0 := by
  have hk := s_S_hasF (d := d + 5) (x := x) hR
  rw [h] at hk
  obtain ⟨e, hlt⟩ := hasF_at h hR.c.1 hR.c.2.1
  have hin : vp_in x 6 := by rw [e]; exact vp_in_nI (by have := hR.c.2.1; omega) (by decide)
  refine ct_go hL_A_knownField rfl ?_
  refine aw_aload_n k107_0 rfl ?_
  refine aw_getR k107_1 hC_A_knownField fs_A_10 (by decide) ⟨rfl, rfl⟩ rfl ?_
  refine aw_iload_n k107_4 rfl ?_
  refine aw_callV1 k107_5 hC_A_knownField ok_S_hasField sv_A_250 hH_S_hasField ⟨(by first | assumption | decide), rfl⟩ (by decide) hN_S_hasField (by rw [hL_S_hasField]; exact Nat.le_of_ble_eq_true rfl) (Nat.le_of_ble_eq_true rfl) hk ?_
  refine aw_if_ne 21 k107_8 (by decide) (fun c_8 => ?_) (fun c_8 => ?_)
  · refine aw_aload_n k107_21 rfl ?_
    refine aw_getR k107_22 hC_A_knownField fs_A_10 (by decide) ⟨rfl, rfl⟩ rfl ?_
    refine aw_getR k107_25 hC_A_knownField fs_A_253 (by decide) ⟨(by first | assumption | decide), rfl⟩ rfl ?_
    refine aw_iload_n k107_28 rfl ?_
    first | refine aw_aaloadF k107_29 (by first | assumption | decide) hin ?_ | refine aw_aaloadS k107_29 hin ?_
    refine aw_areturn k107_30 ⟨_, hR_A_knownField⟩ ?_
    all_goals first | rfl | exact Or.inl rfl | exact Or.inr rfl | assumption | (simp_all; done) | ((repeat' split) <;> first | rfl | (simp only [Int32.lt_iff_toInt_lt, Int32.le_iff_toInt_le, Int64.lt_iff_toInt_lt, Int64.le_iff_toInt_le] at *; omega) | (simp_all; done))
  · exact absurd (show (1 : Int32) = 0 from c_8) (by decide)
theorem x_A_knownField {d : Nat} {M : mM} {f : Nat → Int32} {x : Int32} (hR : RelS M 0 f) (h : hasF f x = false) : CT iA_knownField (d + 6) [vR 5 0 0, vI x] M (.inr tIOB) M 1 := by
  have hk := s_S_hasF (d := d + 5) (x := x) hR
  rw [h] at hk
  refine ct_go hL_A_knownField rfl ?_
  refine aw_aload_n k107_0 rfl ?_
  refine aw_getR k107_1 hC_A_knownField fs_A_10 (by decide) ⟨rfl, rfl⟩ rfl ?_
  refine aw_iload_n k107_4 rfl ?_
  refine aw_callV1 k107_5 hC_A_knownField ok_S_hasField sv_A_250 hH_S_hasField ⟨(by first | assumption | decide), rfl⟩ (by decide) hN_S_hasField (by rw [hL_S_hasField]; exact Nat.le_of_ble_eq_true rfl) (Nat.le_of_ble_eq_true rfl) hk ?_
  refine aw_if_ne 21 k107_8 (by decide) (fun c_8 => ?_) (fun c_8 => ?_)
  · exact absurd rfl c_8
  · exact aw_throw k107_11 k107_14 k107_15 k107_17 k107_20 hC_A_knownField th_IOB (si := 6) rfl hH_A_knownField (Nat.le_of_ble_eq_true rfl)
theorem s_A_legs {d L : Nat} {M : mM} {f t : Nat → Int32} {hs : List (Nat → Int32)} {sn : Option (Nat → Int32)} (h : CR M f hs sn t L) : CT iA_legs (d + 8) [vR 5 0 0] M (.inl (some (vI (f 0)))) M 0 := by
  have hR := h.1
  have hT := hR.n
  have h12 := hT.2.1
  have h5 := hT.2.2.1
  refine ct_go hL_A_legs rfl ?_
  refine aw_aload_n k80_0 rfl ?_
  refine aw_getR k80_1 hC_A_legs fs_A_10 (by decide) ⟨rfl, rfl⟩ rfl ?_
  refine aw_getR k80_4 hC_A_legs fs_A_56 (by decide) ⟨(by first | assumption | decide), rfl⟩ rfl ?_
  refine aw_getI k80_7 hC_A_legs fs_A_74 (by decide) ⟨(by first | assumption | decide), rfl⟩ rfl ?_
  refine aw_ireturn k80_10 hR_A_legs ?_ ?_
  exact hT.2.2.1.trans hT.1.symm; rfl
theorem s_A_traverseLength {d L : Nat} {M : mM} {f t : Nat → Int32} {hs : List (Nat → Int32)} {sn : Option (Nat → Int32)} (h : CR M f hs sn t L) : CT iA_traverseLength (d + 8) [vR 5 0 0] M (.inl (some (vI (bef f 2 (fN f))))) M 0 := by
  have hR := h.1
  have hT := hR.n
  have h12 := hT.2.1
  have h5 := hT.2.2.1
  have hk : CT iT_measuredLength (d + 7) [vR 4 0 0] M (.inl (some (vI (bef f 2 (fN f))))) M 0 := by
    rw [← hT.2.2.2.2.2 2 (by decide) (fN f) (Nat.le_refl _)]
    exact s_T_measuredLength (by decide) (by omega) h5
  refine ct_go hL_A_traverseLength rfl ?_
  refine aw_aload_n k81_0 rfl ?_
  refine aw_getR k81_1 hC_A_traverseLength fs_A_10 (by decide) ⟨rfl, rfl⟩ rfl ?_
  refine aw_getR k81_4 hC_A_traverseLength fs_A_56 (by decide) ⟨(by first | assumption | decide), rfl⟩ rfl ?_
  refine aw_callV0 k81_7 hC_A_traverseLength ok_T_measuredLength sv_A_149 hH_T_measuredLength ⟨(by first | assumption | decide), rfl⟩ (by decide) hN_T_measuredLength (by rw [hL_T_measuredLength]; exact Nat.le_of_ble_eq_true rfl) (Nat.le_of_ble_eq_true rfl) hk ?_
  refine aw_ireturn k81_10 hR_A_traverseLength ?_ ?_
  all_goals first | rfl | exact Or.inl rfl | exact Or.inr rfl | assumption | (simp_all; done) | ((repeat' split) <;> first | rfl | (simp only [Int32.lt_iff_toInt_lt, Int32.le_iff_toInt_le, Int64.lt_iff_toInt_lt, Int64.le_iff_toInt_le] at *; omega) | (simp_all; done))
theorem s_A_errorEast {d L : Nat} {M : mM} {f t : Nat → Int32} {hs : List (Nat → Int32)} {sn : Option (Nat → Int32)} (h : CR M f hs sn t L) : CT iA_errorEast (d + 8) [vR 5 0 0] M (.inl (some (vI (bef f 0 (fN f))))) M 0 := by
  have hR := h.1
  have hT := hR.n
  have h12 := hT.2.1
  have h5 := hT.2.2.1
  have hk : CT iT_closingEast (d + 7) [vR 4 0 0] M (.inl (some (vI (bef f 0 (fN f))))) M 0 := by
    rw [← hT.2.2.2.2.2 0 (by decide) (fN f) (Nat.le_refl _)]
    exact s_T_closingEast (by decide) (by omega) h5
  refine ct_go hL_A_errorEast rfl ?_
  refine aw_aload_n k82_0 rfl ?_
  refine aw_getR k82_1 hC_A_errorEast fs_A_10 (by decide) ⟨rfl, rfl⟩ rfl ?_
  refine aw_getR k82_4 hC_A_errorEast fs_A_56 (by decide) ⟨(by first | assumption | decide), rfl⟩ rfl ?_
  refine aw_callV0 k82_7 hC_A_errorEast ok_T_closingEast sv_A_152 hH_T_closingEast ⟨(by first | assumption | decide), rfl⟩ (by decide) hN_T_closingEast (by rw [hL_T_closingEast]; exact Nat.le_of_ble_eq_true rfl) (Nat.le_of_ble_eq_true rfl) hk ?_
  refine aw_ireturn k82_10 hR_A_errorEast ?_ ?_
  all_goals first | rfl | exact Or.inl rfl | exact Or.inr rfl | assumption | (simp_all; done) | ((repeat' split) <;> first | rfl | (simp only [Int32.lt_iff_toInt_lt, Int32.le_iff_toInt_le, Int64.lt_iff_toInt_lt, Int64.le_iff_toInt_le] at *; omega) | (simp_all; done))
theorem s_A_errorNorth {d L : Nat} {M : mM} {f t : Nat → Int32} {hs : List (Nat → Int32)} {sn : Option (Nat → Int32)} (h : CR M f hs sn t L) : CT iA_errorNorth (d + 8) [vR 5 0 0] M (.inl (some (vI (bef f 1 (fN f))))) M 0 := by
  have hR := h.1
  have hT := hR.n
  have h12 := hT.2.1
  have h5 := hT.2.2.1
  have hk : CT iT_closingNorth (d + 7) [vR 4 0 0] M (.inl (some (vI (bef f 1 (fN f))))) M 0 := by
    rw [← hT.2.2.2.2.2 1 (by decide) (fN f) (Nat.le_refl _)]
    exact s_T_closingNorth (by decide) (by omega) h5
  refine ct_go hL_A_errorNorth rfl ?_
  refine aw_aload_n k83_0 rfl ?_
  refine aw_getR k83_1 hC_A_errorNorth fs_A_10 (by decide) ⟨rfl, rfl⟩ rfl ?_
  refine aw_getR k83_4 hC_A_errorNorth fs_A_56 (by decide) ⟨(by first | assumption | decide), rfl⟩ rfl ?_
  refine aw_callV0 k83_7 hC_A_errorNorth ok_T_closingNorth sv_A_155 hH_T_closingNorth ⟨(by first | assumption | decide), rfl⟩ (by decide) hN_T_closingNorth (by rw [hL_T_closingNorth]; exact Nat.le_of_ble_eq_true rfl) (Nat.le_of_ble_eq_true rfl) hk ?_
  refine aw_ireturn k83_10 hR_A_errorNorth ?_ ?_
  all_goals first | rfl | exact Or.inl rfl | exact Or.inr rfl | assumption | (simp_all; done) | ((repeat' split) <;> first | rfl | (simp only [Int32.lt_iff_toInt_lt, Int32.le_iff_toInt_le, Int64.lt_iff_toInt_lt, Int64.le_iff_toInt_le] at *; omega) | (simp_all; done))
theorem s_A_isClose {d L : Nat} {M : mM} {f t : Nat → Int32} {hs : List (Nat → Int32)} {sn : Option (Nat → Int32)} (h : CR M f hs sn t L) : CT iA_isClose (d + 8) [vR 5 0 0] M (.inl (some (vI (bI (closeF f (fN f)))))) M 0 := by
  have hR := h.1
  have hT := hR.n
  have h12 := hT.2.1
  have h5 := hT.2.2.1
  have hk : CT iT_closesWell (d + 7) [vR 4 0 0] M (.inl (some (vI (bI (closeF f (fN f)))))) M 0 := by
    rw [← tCloses_eq hT]
    exact s_T_closesWell (by decide) (by omega) h5
  refine ct_go hL_A_isClose rfl ?_
  refine aw_aload_n k84_0 rfl ?_
  refine aw_getR k84_1 hC_A_isClose fs_A_10 (by decide) ⟨rfl, rfl⟩ rfl ?_
  refine aw_getR k84_4 hC_A_isClose fs_A_56 (by decide) ⟨(by first | assumption | decide), rfl⟩ rfl ?_
  refine aw_callV0 k84_7 hC_A_isClose ok_T_closesWell sv_A_158 hH_T_closesWell ⟨(by first | assumption | decide), rfl⟩ (by decide) hN_T_closesWell (by rw [hL_T_closesWell]; exact Nat.le_of_ble_eq_true rfl) (Nat.le_of_ble_eq_true rfl) hk ?_
  refine aw_zreturn k84_10 hR_A_isClose ?_ ?_ ?_
  · cases closeF f (fN f); exact Or.inl rfl; exact Or.inr rfl
  · rfl
  · rfl
theorem s_A_adjustedEast {d L : Nat} {M : mM} {f t : Nat → Int32} {hs : List (Nat → Int32)} {sn : Option (Nat → Int32)} (h : CR M f hs sn t L) {x : Int32} (hx : 0 ≤ x ∧ x ≤ f 0) : CT iA_adjustedEast (d + 8) [vR 5 0 0, vI x] M (.inl (some (vI (adjF f (fN f) x.toNatClampNeg 0)))) M 0 := by
  have hR := h.1
  have hT := hR.n
  have h12 := hT.2.1
  have h5 := hT.2.2.1
  have hk : CT iT_hasCorner (d + 7) [vR 4 0 0, vI x] M (.inl (some (vI 1))) M 0 := by
    have := s_T_hasCorner (d := d + 7) (k := 0) (M := M) (x := x) (by decide)
    rw [if_pos ⟨hx.1, by rw [h5, ← hT.1]; exact hx.2⟩] at this
    exact this
  have e := nI_back hx.1
  have hle : x.toNatClampNeg ≤ fN f := by
    have h2 := hx.2
    rw [hT.1, ← e] at h2
    exact nI_le_of h2 (ha := by
      have h3 := x.toInt_lt
      have h2 : x.toNatClampNeg = x.toInt.toNat := rfl
      omega)
  have hk2 : CT iT_adjustedEastAt (d + 7) [vR 4 0 0, vI x] M (.inl (some (vI (adjF f (fN f) x.toNatClampNeg 0)))) M 0 := by
    have h9 := s_T_adjustedEastAt (d := d + 4) (k := 0) (c := x.toNatClampNeg) (by decide) (by omega) h5 (by omega)
    rw [e, tAdj_eq hT hle (by decide)] at h9
    exact h9
  refine ct_go hL_A_adjustedEast rfl ?_
  refine aw_aload_n k85_0 rfl ?_
  refine aw_getR k85_1 hC_A_adjustedEast fs_A_10 (by decide) ⟨rfl, rfl⟩ rfl ?_
  refine aw_getR k85_4 hC_A_adjustedEast fs_A_56 (by decide) ⟨(by first | assumption | decide), rfl⟩ rfl ?_
  refine aw_iload_n k85_7 rfl ?_
  refine aw_callV1 k85_8 hC_A_adjustedEast ok_T_hasCorner sv_A_161 hH_T_hasCorner ⟨(by first | assumption | decide), rfl⟩ (by decide) hN_T_hasCorner (by rw [hL_T_hasCorner]; exact Nat.le_of_ble_eq_true rfl) (Nat.le_of_ble_eq_true rfl) hk ?_
  refine aw_if_ne 24 k85_11 (by decide) (fun c_11 => ?_) (fun c_11 => ?_)
  · refine aw_aload_n k85_24 rfl ?_
    refine aw_getR k85_25 hC_A_adjustedEast fs_A_10 (by decide) ⟨rfl, rfl⟩ rfl ?_
    refine aw_getR k85_28 hC_A_adjustedEast fs_A_56 (by decide) ⟨(by first | assumption | decide), rfl⟩ rfl ?_
    refine aw_iload_n k85_31 rfl ?_
    refine aw_callV1 k85_32 hC_A_adjustedEast ok_T_adjustedEastAt sv_A_166 hH_T_adjustedEastAt ⟨(by first | assumption | decide), rfl⟩ (by decide) hN_T_adjustedEastAt (by rw [hL_T_adjustedEastAt]; exact Nat.le_of_ble_eq_true rfl) (Nat.le_of_ble_eq_true rfl) hk2 ?_
    refine aw_ireturn k85_35 hR_A_adjustedEast ?_ ?_
    all_goals first | rfl | exact Or.inl rfl | exact Or.inr rfl | assumption | (simp_all; done) | ((repeat' split) <;> first | rfl | (simp only [Int32.lt_iff_toInt_lt, Int32.le_iff_toInt_le, Int64.lt_iff_toInt_lt, Int64.le_iff_toInt_le] at *; omega) | (simp_all; done))
  · exact absurd (show (1 : Int32) = 0 from c_11) (by decide)
theorem x_A_adjustedEast {d L : Nat} {M : mM} {f t : Nat → Int32} {hs : List (Nat → Int32)} {sn : Option (Nat → Int32)} (h : CR M f hs sn t L) {x : Int32} (hx : ¬ (0 ≤ x ∧ x ≤ f 0)) : CT iA_adjustedEast (d + 8) [vR 5 0 0, vI x] M (.inr tIOB) M 1 := by
  have hR := h.1
  have hT := hR.n
  have h12 := hT.2.1
  have h5 := hT.2.2.1
  have hk : CT iT_hasCorner (d + 7) [vR 4 0 0, vI x] M (.inl (some (vI 0))) M 0 := by
    have := s_T_hasCorner (d := d + 7) (k := 0) (M := M) (x := x) (by decide)
    rw [if_neg (fun q => hx ⟨q.1, by rw [hT.1, ← h5]; exact q.2⟩)] at this
    exact this
  refine ct_go hL_A_adjustedEast rfl ?_
  refine aw_aload_n k85_0 rfl ?_
  refine aw_getR k85_1 hC_A_adjustedEast fs_A_10 (by decide) ⟨rfl, rfl⟩ rfl ?_
  refine aw_getR k85_4 hC_A_adjustedEast fs_A_56 (by decide) ⟨(by first | assumption | decide), rfl⟩ rfl ?_
  refine aw_iload_n k85_7 rfl ?_
  refine aw_callV1 k85_8 hC_A_adjustedEast ok_T_hasCorner sv_A_161 hH_T_hasCorner ⟨(by first | assumption | decide), rfl⟩ (by decide) hN_T_hasCorner (by rw [hL_T_hasCorner]; exact Nat.le_of_ble_eq_true rfl) (Nat.le_of_ble_eq_true rfl) hk ?_
  refine aw_if_ne 24 k85_11 (by decide) (fun c_11 => ?_) (fun c_11 => ?_)
  · exact absurd rfl c_11
  · exact aw_throw k85_14 k85_17 k85_18 k85_20 k85_23 hC_A_adjustedEast th_IOB (si := 12) rfl hH_A_adjustedEast (Nat.le_of_ble_eq_true rfl)
theorem s_A_adjustedNorth {d L : Nat} {M : mM} {f t : Nat → Int32} {hs : List (Nat → Int32)} {sn : Option (Nat → Int32)} (h : CR M f hs sn t L) {x : Int32} (hx : 0 ≤ x ∧ x ≤ f 0) : CT iA_adjustedNorth (d + 8) [vR 5 0 0, vI x] M (.inl (some (vI (adjF f (fN f) x.toNatClampNeg 1)))) M 0 := by
  have hR := h.1
  have hT := hR.n
  have h12 := hT.2.1
  have h5 := hT.2.2.1
  have hk : CT iT_hasCorner (d + 7) [vR 4 0 0, vI x] M (.inl (some (vI 1))) M 0 := by
    have := s_T_hasCorner (d := d + 7) (k := 0) (M := M) (x := x) (by decide)
    rw [if_pos ⟨hx.1, by rw [h5, ← hT.1]; exact hx.2⟩] at this
    exact this
  have e := nI_back hx.1
  have hle : x.toNatClampNeg ≤ fN f := by
    have h2 := hx.2
    rw [hT.1, ← e] at h2
    exact nI_le_of h2 (ha := by
      have h3 := x.toInt_lt
      have h2 : x.toNatClampNeg = x.toInt.toNat := rfl
      omega)
  have hk2 : CT iT_adjustedNorthAt (d + 7) [vR 4 0 0, vI x] M (.inl (some (vI (adjF f (fN f) x.toNatClampNeg 1)))) M 0 := by
    have h9 := s_T_adjustedNorthAt (d := d + 4) (k := 0) (c := x.toNatClampNeg) (by decide) (by omega) h5 (by omega)
    rw [e, tAdj_eq hT hle (by decide)] at h9
    exact h9
  refine ct_go hL_A_adjustedNorth rfl ?_
  refine aw_aload_n k86_0 rfl ?_
  refine aw_getR k86_1 hC_A_adjustedNorth fs_A_10 (by decide) ⟨rfl, rfl⟩ rfl ?_
  refine aw_getR k86_4 hC_A_adjustedNorth fs_A_56 (by decide) ⟨(by first | assumption | decide), rfl⟩ rfl ?_
  refine aw_iload_n k86_7 rfl ?_
  refine aw_callV1 k86_8 hC_A_adjustedNorth ok_T_hasCorner sv_A_161 hH_T_hasCorner ⟨(by first | assumption | decide), rfl⟩ (by decide) hN_T_hasCorner (by rw [hL_T_hasCorner]; exact Nat.le_of_ble_eq_true rfl) (Nat.le_of_ble_eq_true rfl) hk ?_
  refine aw_if_ne 24 k86_11 (by decide) (fun c_11 => ?_) (fun c_11 => ?_)
  · refine aw_aload_n k86_24 rfl ?_
    refine aw_getR k86_25 hC_A_adjustedNorth fs_A_10 (by decide) ⟨rfl, rfl⟩ rfl ?_
    refine aw_getR k86_28 hC_A_adjustedNorth fs_A_56 (by decide) ⟨(by first | assumption | decide), rfl⟩ rfl ?_
    refine aw_iload_n k86_31 rfl ?_
    refine aw_callV1 k86_32 hC_A_adjustedNorth ok_T_adjustedNorthAt sv_A_170 hH_T_adjustedNorthAt ⟨(by first | assumption | decide), rfl⟩ (by decide) hN_T_adjustedNorthAt (by rw [hL_T_adjustedNorthAt]; exact Nat.le_of_ble_eq_true rfl) (Nat.le_of_ble_eq_true rfl) hk2 ?_
    refine aw_ireturn k86_35 hR_A_adjustedNorth ?_ ?_
    all_goals first | rfl | exact Or.inl rfl | exact Or.inr rfl | assumption | (simp_all; done) | ((repeat' split) <;> first | rfl | (simp only [Int32.lt_iff_toInt_lt, Int32.le_iff_toInt_le, Int64.lt_iff_toInt_lt, Int64.le_iff_toInt_le] at *; omega) | (simp_all; done))
  · exact absurd (show (1 : Int32) = 0 from c_11) (by decide)
theorem x_A_adjustedNorth {d L : Nat} {M : mM} {f t : Nat → Int32} {hs : List (Nat → Int32)} {sn : Option (Nat → Int32)} (h : CR M f hs sn t L) {x : Int32} (hx : ¬ (0 ≤ x ∧ x ≤ f 0)) : CT iA_adjustedNorth (d + 8) [vR 5 0 0, vI x] M (.inr tIOB) M 1 := by
  have hR := h.1
  have hT := hR.n
  have h12 := hT.2.1
  have h5 := hT.2.2.1
  have hk : CT iT_hasCorner (d + 7) [vR 4 0 0, vI x] M (.inl (some (vI 0))) M 0 := by
    have := s_T_hasCorner (d := d + 7) (k := 0) (M := M) (x := x) (by decide)
    rw [if_neg (fun q => hx ⟨q.1, by rw [hT.1, ← h5]; exact q.2⟩)] at this
    exact this
  refine ct_go hL_A_adjustedNorth rfl ?_
  refine aw_aload_n k86_0 rfl ?_
  refine aw_getR k86_1 hC_A_adjustedNorth fs_A_10 (by decide) ⟨rfl, rfl⟩ rfl ?_
  refine aw_getR k86_4 hC_A_adjustedNorth fs_A_56 (by decide) ⟨(by first | assumption | decide), rfl⟩ rfl ?_
  refine aw_iload_n k86_7 rfl ?_
  refine aw_callV1 k86_8 hC_A_adjustedNorth ok_T_hasCorner sv_A_161 hH_T_hasCorner ⟨(by first | assumption | decide), rfl⟩ (by decide) hN_T_hasCorner (by rw [hL_T_hasCorner]; exact Nat.le_of_ble_eq_true rfl) (Nat.le_of_ble_eq_true rfl) hk ?_
  refine aw_if_ne 24 k86_11 (by decide) (fun c_11 => ?_) (fun c_11 => ?_)
  · exact absurd rfl c_11
  · exact aw_throw k86_14 k86_17 k86_18 k86_20 k86_23 hC_A_adjustedNorth th_IOB (si := 12) rfl hH_A_adjustedNorth (Nat.le_of_ble_eq_true rfl)
theorem s_A_fields {d L : Nat} {M : mM} {f t : Nat → Int32} {hs : List (Nat → Int32)} {sn : Option (Nat → Int32)} (h : CR M f hs sn t L) : CT iA_fields (d + 8) [vR 5 0 0] M (.inl (some (vI (f 39)))) M 0 := by
  have hR := h.1
  refine ct_go hL_A_fields rfl ?_
  refine aw_aload_n k87_0 rfl ?_
  refine aw_getR k87_1 hC_A_fields fs_A_10 (by decide) ⟨rfl, rfl⟩ rfl ?_
  refine aw_getI k87_4 hC_A_fields fs_A_96 (by decide) ⟨(by first | assumption | decide), rfl⟩ rfl ?_
  refine aw_ireturn k87_7 hR_A_fields ?_ ?_
  exact hR.c.2.2.1.trans hR.c.1.symm; rfl
theorem s_A_cornersOf {d L : Nat} {M : mM} {f t : Nat → Int32} {hs : List (Nat → Int32)} {sn : Option (Nat → Int32)} (h : CR M f hs sn t L) {x : Int32} (hx : hasF f x = true) : CT iA_cornersOf (d + 8) [vR 5 0 0, vI x] M (.inl (some (vI (f (40 + 25 * x.toNatClampNeg))))) M 0 := by
  have hR := h.1
  have hlt := (hasF_at hx hR.c.1 hR.c.2.1).2
  have hfd := hR.fd hlt
  have hok6 : x.toNatClampNeg < 6 := by have := hR.c.2.1; omega
  refine ct_go hL_A_cornersOf rfl ?_
  refine aw_aload_n k88_0 rfl ?_
  refine aw_iload_n k88_1 rfl ?_
  refine aw_callV1 k88_2 hC_A_cornersOf ok_A_knownField sv_A_173 hH_A_knownField ⟨rfl, rfl⟩ (by decide) hN_A_knownField (by rw [hL_A_knownField]; exact Nat.le_of_ble_eq_true rfl) (Nat.le_of_ble_eq_true rfl) (s_A_knownField hR hx) ?_
  refine aw_getI k88_5 hC_A_cornersOf fs_A_177 (by decide) ⟨(by decide), hok6⟩ rfl ?_
  refine aw_ireturn k88_8 hR_A_cornersOf ?_ ?_
  exact hfd.2.2.2.1.trans hfd.1.symm; rfl
theorem x_A_cornersOf {d L : Nat} {M : mM} {f t : Nat → Int32} {hs : List (Nat → Int32)} {sn : Option (Nat → Int32)} (h : CR M f hs sn t L) {x : Int32} (hx : hasF f x = false) : CT iA_cornersOf (d + 8) [vR 5 0 0, vI x] M (.inr tIOB) M 1 := by
  have hR := h.1
  refine ct_go hL_A_cornersOf rfl ?_
  refine aw_aload_n k88_0 rfl ?_
  refine aw_iload_n k88_1 rfl ?_
  exact aw_callVX1 k88_2 hC_A_cornersOf ok_A_knownField sv_A_173 hH_A_knownField ⟨rfl, rfl⟩ (by decide) hN_A_knownField (by rw [hL_A_knownField]; exact Nat.le_of_ble_eq_true rfl) (Nat.le_of_ble_eq_true rfl) hH_A_cornersOf (x_A_knownField hR hx)
theorem s_A_leftTurns {d L : Nat} {M : mM} {f t : Nat → Int32} {hs : List (Nat → Int32)} {sn : Option (Nat → Int32)} (h : CR M f hs sn t L) {x : Int32} (hx : hasF f x = true) : CT iA_leftTurns (d + 8) [vR 5 0 0, vI x] M (.inl (some (vI (nI (leF f x.toNatClampNeg))))) M 0 := by
  have hR := h.1
  have hlt := (hasF_at hx hR.c.1 hR.c.2.1).2
  have hfd := hR.fd hlt
  have hok6 : x.toNatClampNeg < 6 := by have := hR.c.2.1; omega
  refine ct_go hL_A_leftTurns rfl ?_
  refine aw_aload_n k91_0 rfl ?_
  refine aw_iload_n k91_1 rfl ?_
  refine aw_callV1 k91_2 hC_A_leftTurns ok_A_knownField sv_A_173 hH_A_knownField ⟨rfl, rfl⟩ (by decide) hN_A_knownField (by rw [hL_A_knownField]; exact Nat.le_of_ble_eq_true rfl) (Nat.le_of_ble_eq_true rfl) (s_A_knownField hR hx) ?_
  refine aw_callV0 k91_5 hC_A_leftTurns ok_F_turnsToTheLeft sv_A_192 hH_F_turnsToTheLeft ⟨(by decide), hok6⟩ (by decide) hN_F_turnsToTheLeft (by rw [hL_F_turnsToTheLeft]; exact Nat.le_of_ble_eq_true rfl) (Nat.le_of_ble_eq_true rfl) (k_left hR hlt) ?_
  refine aw_ireturn k91_8 hR_A_leftTurns ?_ ?_
  all_goals first | rfl | exact Or.inl rfl | exact Or.inr rfl | assumption | (simp_all; done) | ((repeat' split) <;> first | rfl | (simp only [Int32.lt_iff_toInt_lt, Int32.le_iff_toInt_le, Int64.lt_iff_toInt_lt, Int64.le_iff_toInt_le] at *; omega) | (simp_all; done))
theorem x_A_leftTurns {d L : Nat} {M : mM} {f t : Nat → Int32} {hs : List (Nat → Int32)} {sn : Option (Nat → Int32)} (h : CR M f hs sn t L) {x : Int32} (hx : hasF f x = false) : CT iA_leftTurns (d + 8) [vR 5 0 0, vI x] M (.inr tIOB) M 1 := by
  have hR := h.1
  refine ct_go hL_A_leftTurns rfl ?_
  refine aw_aload_n k91_0 rfl ?_
  refine aw_iload_n k91_1 rfl ?_
  exact aw_callVX1 k91_2 hC_A_leftTurns ok_A_knownField sv_A_173 hH_A_knownField ⟨rfl, rfl⟩ (by decide) hN_A_knownField (by rw [hL_A_knownField]; exact Nat.le_of_ble_eq_true rfl) (Nat.le_of_ble_eq_true rfl) hH_A_leftTurns (x_A_knownField hR hx)
theorem s_A_turnsOneWay {d L : Nat} {M : mM} {f t : Nat → Int32} {hs : List (Nat → Int32)} {sn : Option (Nat → Int32)} (h : CR M f hs sn t L) {x : Int32} (hx : hasF f x = true) : CT iA_turnsOneWay (d + 8) [vR 5 0 0, vI x] M (.inl (some (vI (bI (decide (nI (leF f x.toNatClampNeg) = 0) || decide (nI (riF f x.toNatClampNeg) = 0)))))) M 0 := by
  have hR := h.1
  have hlt := (hasF_at hx hR.c.1 hR.c.2.1).2
  have hfd := hR.fd hlt
  have hok6 : x.toNatClampNeg < 6 := by have := hR.c.2.1; omega
  refine ct_go hL_A_turnsOneWay rfl ?_
  refine aw_aload_n k92_0 rfl ?_
  refine aw_iload_n k92_1 rfl ?_
  refine aw_callV1 k92_2 hC_A_turnsOneWay ok_A_knownField sv_A_173 hH_A_knownField ⟨rfl, rfl⟩ (by decide) hN_A_knownField (by rw [hL_A_knownField]; exact Nat.le_of_ble_eq_true rfl) (Nat.le_of_ble_eq_true rfl) (s_A_knownField hR hx) ?_
  refine aw_astore_n k92_5 (Nat.le_of_ble_eq_true rfl) rfl ?_
  refine aw_aload_n k92_6 rfl ?_
  refine aw_callV0 k92_7 hC_A_turnsOneWay ok_F_turnsToTheLeft sv_A_192 hH_F_turnsToTheLeft ⟨(by decide), hok6⟩ (by decide) hN_F_turnsToTheLeft (by rw [hL_F_turnsToTheLeft]; exact Nat.le_of_ble_eq_true rfl) (Nat.le_of_ble_eq_true rfl) (k_left hR hlt) ?_
  refine aw_if_eq 20 k92_10 (by decide) (fun c_10 => ?_) (fun c_10 => ?_)
  · refine aw_iconst (v := 1) k92_20 (by decide) ?_
    refine aw_goto (t := 25) k92_21 (by decide) ?_
    refine aw_zreturn k92_25 hR_A_turnsOneWay ?_ ?_ ?_
    · first | exact Or.inl rfl | exact Or.inr rfl
    · first | exact bI_t (or_t1 (decide_eq_true c_10)) | exact bI_t (or_t2 (decide_eq_true c_17)) | exact bI_f (or_f (decide_eq_false c_10) (decide_eq_false c_17))
    · rfl
  · refine aw_aload_n k92_13 rfl ?_
    refine aw_callV0 k92_14 hC_A_turnsOneWay ok_F_turnsToTheRight sv_A_195 hH_F_turnsToTheRight ⟨(by decide), hok6⟩ (by decide) hN_F_turnsToTheRight (by rw [hL_F_turnsToTheRight]; exact Nat.le_of_ble_eq_true rfl) (Nat.le_of_ble_eq_true rfl) (k_right hR hlt) ?_
    refine aw_if_ne 24 k92_17 (by decide) (fun c_17 => ?_) (fun c_17 => ?_)
    · refine aw_iconst (v := 0) k92_24 (by decide) ?_
      refine aw_zreturn k92_25 hR_A_turnsOneWay ?_ ?_ ?_
      · first | exact Or.inl rfl | exact Or.inr rfl
      · first | exact bI_t (or_t1 (decide_eq_true c_10)) | exact bI_t (or_t2 (decide_eq_true c_17)) | exact bI_f (or_f (decide_eq_false c_10) (decide_eq_false c_17))
      · rfl
    · refine aw_iconst (v := 1) k92_20 (by decide) ?_
      refine aw_goto (t := 25) k92_21 (by decide) ?_
      refine aw_zreturn k92_25 hR_A_turnsOneWay ?_ ?_ ?_
      · first | exact Or.inl rfl | exact Or.inr rfl
      · first | exact bI_t (or_t1 (decide_eq_true c_10)) | exact bI_t (or_t2 (decide_eq_true c_17)) | exact bI_f (or_f (decide_eq_false c_10) (decide_eq_false c_17))
      · rfl
theorem x_A_turnsOneWay {d L : Nat} {M : mM} {f t : Nat → Int32} {hs : List (Nat → Int32)} {sn : Option (Nat → Int32)} (h : CR M f hs sn t L) {x : Int32} (hx : hasF f x = false) : CT iA_turnsOneWay (d + 8) [vR 5 0 0, vI x] M (.inr tIOB) M 1 := by
  have hR := h.1
  refine ct_go hL_A_turnsOneWay rfl ?_
  refine aw_aload_n k92_0 rfl ?_
  refine aw_iload_n k92_1 rfl ?_
  exact aw_callVX1 k92_2 hC_A_turnsOneWay ok_A_knownField sv_A_173 hH_A_knownField ⟨rfl, rfl⟩ (by decide) hN_A_knownField (by rw [hL_A_knownField]; exact Nat.le_of_ble_eq_true rfl) (Nat.le_of_ble_eq_true rfl) hH_A_turnsOneWay (x_A_knownField hR hx)
theorem s_A_sidesEastOf {d L : Nat} {M : mM} {f t : Nat → Int32} {hs : List (Nat → Int32)} {sn : Option (Nat → Int32)} (h : CR M f hs sn t L) {x : Int32} (hx : hasF f x = true) {y z : Int32} (hy : inR y 200000) (hz : inR z 200000) : CT iA_sidesEastOf (d + 8) [vR 5 0 0, vI x, vI y, vI z] M (.inl (some (vI (nI (meF f x.toNatClampNeg y z))))) M 0 := by
  have hR := h.1
  have hlt := (hasF_at hx hR.c.1 hR.c.2.1).2
  have hfd := hR.fd hlt
  have hok6 : x.toNatClampNeg < 6 := by have := hR.c.2.1; omega
  refine ct_go hL_A_sidesEastOf rfl ?_
  refine aw_aload_n k93_0 rfl ?_
  refine aw_iload_n k93_1 rfl ?_
  refine aw_callV1 k93_2 hC_A_sidesEastOf ok_A_knownField sv_A_173 hH_A_knownField ⟨rfl, rfl⟩ (by decide) hN_A_knownField (by rw [hL_A_knownField]; exact Nat.le_of_ble_eq_true rfl) (Nat.le_of_ble_eq_true rfl) (s_A_knownField hR hx) ?_
  refine aw_astore k93_5 (Nat.le_of_ble_eq_true rfl) rfl ?_
  refine aw_iload_n k93_7 rfl ?_
  refine aw_ldc k93_8 hC_A_sidesEastOf ci_A_198 ?_
  refine aw_callS2 k93_10 hC_A_sidesEastOf ok_A_isWithin ss_A_40 hH_A_isWithin (by rw [hL_A_isWithin]; exact Nat.le_of_ble_eq_true rfl) (Nat.le_of_ble_eq_true rfl) (iw_t hy) ?_
  refine aw_if_eq 25 k93_13 (by decide) (fun c_13 => ?_) (fun c_13 => ?_)
  · exact absurd (show (1 : Int32) = 0 from c_13) (by decide)
  · refine aw_iload_n k93_16 rfl ?_
    refine aw_ldc k93_17 hC_A_sidesEastOf ci_A_198 ?_
    refine aw_callS2 k93_19 hC_A_sidesEastOf ok_A_isWithin ss_A_40 hH_A_isWithin (by rw [hL_A_isWithin]; exact Nat.le_of_ble_eq_true rfl) (Nat.le_of_ble_eq_true rfl) (iw_t hz) ?_
    refine aw_if_ne 35 k93_22 (by decide) (fun c_22 => ?_) (fun c_22 => ?_)
    · refine aw_aload k93_35 rfl ?_
      refine aw_iload_n k93_37 rfl ?_
      refine aw_iload_n k93_38 rfl ?_
      refine aw_callV2 k93_39 hC_A_sidesEastOf ok_F_sidesMetFrom sv_A_201 hH_F_sidesMetFrom ⟨(by decide), hok6⟩ (by decide) hN_F_sidesMetFrom (by rw [hL_F_sidesMetFrom]; exact Nat.le_of_ble_eq_true rfl) (Nat.le_of_ble_eq_true rfl) (k_met hR hlt) ?_
      refine aw_ireturn k93_42 hR_A_sidesEastOf ?_ ?_
      all_goals first | rfl | exact Or.inl rfl | exact Or.inr rfl | assumption | (simp_all; done) | ((repeat' split) <;> first | rfl | (simp only [Int32.lt_iff_toInt_lt, Int32.le_iff_toInt_le, Int64.lt_iff_toInt_lt, Int64.le_iff_toInt_le] at *; omega) | (simp_all; done))
    · exact absurd (show (1 : Int32) = 0 from c_22) (by decide)
theorem x_A_sidesEastOf {d L : Nat} {M : mM} {f t : Nat → Int32} {hs : List (Nat → Int32)} {sn : Option (Nat → Int32)} (h : CR M f hs sn t L) {x : Int32} (hx : hasF f x = false) {y z : Int32} : CT iA_sidesEastOf (d + 8) [vR 5 0 0, vI x, vI y, vI z] M (.inr tIOB) M 1 := by
  have hR := h.1
  refine ct_go hL_A_sidesEastOf rfl ?_
  refine aw_aload_n k93_0 rfl ?_
  refine aw_iload_n k93_1 rfl ?_
  exact aw_callVX1 k93_2 hC_A_sidesEastOf ok_A_knownField sv_A_173 hH_A_knownField ⟨rfl, rfl⟩ (by decide) hN_A_knownField (by rw [hL_A_knownField]; exact Nat.le_of_ble_eq_true rfl) (Nat.le_of_ble_eq_true rfl) hH_A_sidesEastOf (x_A_knownField hR hx)
theorem y_A_sidesEastOf {d L : Nat} {M : mM} {f t : Nat → Int32} {hs : List (Nat → Int32)} {sn : Option (Nat → Int32)} (h : CR M f hs sn t L) {x : Int32} (hx : hasF f x = true) {y z : Int32} (hz : ¬ (inR y 200000 ∧ inR z 200000)) : CT iA_sidesEastOf (d + 8) [vR 5 0 0, vI x, vI y, vI z] M (.inr tIAE) M 1 := by
  have hR := h.1
  by_cases hy : inR y 200000
  · have hz2 : ¬ inR z 200000 := fun q => hz ⟨hy, q⟩
    refine ct_go hL_A_sidesEastOf rfl ?_
    refine aw_aload_n k93_0 rfl ?_
    refine aw_iload_n k93_1 rfl ?_
    refine aw_callV1 k93_2 hC_A_sidesEastOf ok_A_knownField sv_A_173 hH_A_knownField ⟨rfl, rfl⟩ (by decide) hN_A_knownField (by rw [hL_A_knownField]; exact Nat.le_of_ble_eq_true rfl) (Nat.le_of_ble_eq_true rfl) (s_A_knownField hR hx) ?_
    refine aw_astore k93_5 (Nat.le_of_ble_eq_true rfl) rfl ?_
    refine aw_iload_n k93_7 rfl ?_
    refine aw_ldc k93_8 hC_A_sidesEastOf ci_A_198 ?_
    refine aw_callS2 k93_10 hC_A_sidesEastOf ok_A_isWithin ss_A_40 hH_A_isWithin (by rw [hL_A_isWithin]; exact Nat.le_of_ble_eq_true rfl) (Nat.le_of_ble_eq_true rfl) (iw_t hy) ?_
    refine aw_if_eq 25 k93_13 (by decide) (fun c_13 => ?_) (fun c_13 => ?_)
    · exact absurd (show (1 : Int32) = 0 from c_13) (by decide)
    · refine aw_iload_n k93_16 rfl ?_
      refine aw_ldc k93_17 hC_A_sidesEastOf ci_A_198 ?_
      refine aw_callS2 k93_19 hC_A_sidesEastOf ok_A_isWithin ss_A_40 hH_A_isWithin (by rw [hL_A_isWithin]; exact Nat.le_of_ble_eq_true rfl) (Nat.le_of_ble_eq_true rfl) (iw_f hz2) ?_
      refine aw_if_ne 35 k93_22 (by decide) (fun c_22 => ?_) (fun c_22 => ?_)
      · exact absurd rfl c_22
      · exact aw_throw k93_25 k93_28 k93_29 k93_31 k93_34 hC_A_sidesEastOf th_IAE (si := 14) rfl hH_A_sidesEastOf (Nat.le_of_ble_eq_true rfl)
  · refine ct_go hL_A_sidesEastOf rfl ?_
    refine aw_aload_n k93_0 rfl ?_
    refine aw_iload_n k93_1 rfl ?_
    refine aw_callV1 k93_2 hC_A_sidesEastOf ok_A_knownField sv_A_173 hH_A_knownField ⟨rfl, rfl⟩ (by decide) hN_A_knownField (by rw [hL_A_knownField]; exact Nat.le_of_ble_eq_true rfl) (Nat.le_of_ble_eq_true rfl) (s_A_knownField hR hx) ?_
    refine aw_astore k93_5 (Nat.le_of_ble_eq_true rfl) rfl ?_
    refine aw_iload_n k93_7 rfl ?_
    refine aw_ldc k93_8 hC_A_sidesEastOf ci_A_198 ?_
    refine aw_callS2 k93_10 hC_A_sidesEastOf ok_A_isWithin ss_A_40 hH_A_isWithin (by rw [hL_A_isWithin]; exact Nat.le_of_ble_eq_true rfl) (Nat.le_of_ble_eq_true rfl) (iw_f hy) ?_
    refine aw_if_eq 25 k93_13 (by decide) (fun c_13 => ?_) (fun c_13 => ?_)
    · exact aw_throw k93_25 k93_28 k93_29 k93_31 k93_34 hC_A_sidesEastOf th_IAE (si := 14) rfl hH_A_sidesEastOf (Nat.le_of_ble_eq_true rfl)
    · exact absurd rfl c_13
theorem s_A_sharedSides {d L : Nat} {M : mM} {f t : Nat → Int32} {hs : List (Nat → Int32)} {sn : Option (Nat → Int32)} (h : CR M f hs sn t L) {x : Int32} (hx : hasF f x = true) {y : Int32} (hy : hasF f y = true) : CT iA_sharedSides (d + 8) [vR 5 0 0, vI x, vI y] M (.inl (some (vI (nI (shaF f x.toNatClampNeg y.toNatClampNeg))))) M 0 := by
  have hR := h.1
  have hlt := (hasF_at hx hR.c.1 hR.c.2.1).2
  have hfd := hR.fd hlt
  have hok6 : x.toNatClampNeg < 6 := by have := hR.c.2.1; omega
  have hlty := (hasF_at hy hR.c.1 hR.c.2.1).2
  refine ct_go hL_A_sharedSides rfl ?_
  refine aw_aload_n k94_0 rfl ?_
  refine aw_iload_n k94_1 rfl ?_
  refine aw_callV1 k94_2 hC_A_sharedSides ok_A_knownField sv_A_173 hH_A_knownField ⟨rfl, rfl⟩ (by decide) hN_A_knownField (by rw [hL_A_knownField]; exact Nat.le_of_ble_eq_true rfl) (Nat.le_of_ble_eq_true rfl) (s_A_knownField hR hx) ?_
  refine aw_astore_n k94_5 (Nat.le_of_ble_eq_true rfl) rfl ?_
  refine aw_aload_n k94_6 rfl ?_
  refine aw_iload_n k94_7 rfl ?_
  refine aw_callV1 k94_8 hC_A_sharedSides ok_A_knownField sv_A_173 hH_A_knownField ⟨rfl, rfl⟩ (by decide) hN_A_knownField (by rw [hL_A_knownField]; exact Nat.le_of_ble_eq_true rfl) (Nat.le_of_ble_eq_true rfl) (s_A_knownField hR hy) ?_
  refine aw_astore k94_11 (Nat.le_of_ble_eq_true rfl) rfl ?_
  refine aw_aload_n k94_13 rfl ?_
  refine aw_aload k94_14 rfl ?_
  refine aw_callV1 k94_16 hC_A_sharedSides ok_F_sidesAlsoOf sv_A_205 hH_F_sidesAlsoOf ⟨(by decide), hok6⟩ (by decide) hN_F_sidesAlsoOf (by rw [hL_F_sidesAlsoOf]; exact Nat.le_of_ble_eq_true rfl) (Nat.le_of_ble_eq_true rfl) (k_share hR hlt hlty) ?_
  refine aw_ireturn k94_19 hR_A_sharedSides ?_ ?_
  all_goals first | rfl | exact Or.inl rfl | exact Or.inr rfl | assumption | (simp_all; done) | ((repeat' split) <;> first | rfl | (simp only [Int32.lt_iff_toInt_lt, Int32.le_iff_toInt_le, Int64.lt_iff_toInt_lt, Int64.le_iff_toInt_le] at *; omega) | (simp_all; done))
theorem x_A_sharedSides {d L : Nat} {M : mM} {f t : Nat → Int32} {hs : List (Nat → Int32)} {sn : Option (Nat → Int32)} (h : CR M f hs sn t L) {x : Int32} (hx : hasF f x = false) {y : Int32} : CT iA_sharedSides (d + 8) [vR 5 0 0, vI x, vI y] M (.inr tIOB) M 1 := by
  have hR := h.1
  refine ct_go hL_A_sharedSides rfl ?_
  refine aw_aload_n k94_0 rfl ?_
  refine aw_iload_n k94_1 rfl ?_
  exact aw_callVX1 k94_2 hC_A_sharedSides ok_A_knownField sv_A_173 hH_A_knownField ⟨rfl, rfl⟩ (by decide) hN_A_knownField (by rw [hL_A_knownField]; exact Nat.le_of_ble_eq_true rfl) (Nat.le_of_ble_eq_true rfl) hH_A_sharedSides (x_A_knownField hR hx)
theorem y_A_sharedSides {d L : Nat} {M : mM} {f t : Nat → Int32} {hs : List (Nat → Int32)} {sn : Option (Nat → Int32)} (h : CR M f hs sn t L) {x : Int32} (hx : hasF f x = true) {y : Int32} (hy : hasF f y = false) : CT iA_sharedSides (d + 8) [vR 5 0 0, vI x, vI y] M (.inr tIOB) M 1 := by
  have hR := h.1
  refine ct_go hL_A_sharedSides rfl ?_
  refine aw_aload_n k94_0 rfl ?_
  refine aw_iload_n k94_1 rfl ?_
  refine aw_callV1 k94_2 hC_A_sharedSides ok_A_knownField sv_A_173 hH_A_knownField ⟨rfl, rfl⟩ (by decide) hN_A_knownField (by rw [hL_A_knownField]; exact Nat.le_of_ble_eq_true rfl) (Nat.le_of_ble_eq_true rfl) (s_A_knownField hR hx) ?_
  refine aw_astore_n k94_5 (Nat.le_of_ble_eq_true rfl) rfl ?_
  refine aw_aload_n k94_6 rfl ?_
  refine aw_iload_n k94_7 rfl ?_
  exact aw_callVX1 k94_8 hC_A_sharedSides ok_A_knownField sv_A_173 hH_A_knownField ⟨rfl, rfl⟩ (by decide) hN_A_knownField (by rw [hL_A_knownField]; exact Nat.le_of_ble_eq_true rfl) (Nat.le_of_ble_eq_true rfl) hH_A_sharedSides (x_A_knownField hR hy)
theorem s_A_twiceAreaByCorners {d L : Nat} {M : mM} {f t : Nat → Int32} {hs : List (Nat → Int32)} {sn : Option (Nat → Int32)} (h : CR M f hs sn t L) {x : Int32} (hx : hasF f x = true) : CT iA_twiceAreaByCorners (d + 8) [vR 5 0 0, vI x] M (.inl (some (vL (twF f x.toNatClampNeg)))) M 0 := by
  have hR := h.1
  have hlt := (hasF_at hx hR.c.1 hR.c.2.1).2
  have hfd := hR.fd hlt
  have hok6 : x.toNatClampNeg < 6 := by have := hR.c.2.1; omega
  refine ct_go hL_A_twiceAreaByCorners rfl ?_
  refine aw_aload_n k95_0 rfl ?_
  refine aw_iload_n k95_1 rfl ?_
  refine aw_callV1 k95_2 hC_A_twiceAreaByCorners ok_A_knownField sv_A_173 hH_A_knownField ⟨rfl, rfl⟩ (by decide) hN_A_knownField (by rw [hL_A_knownField]; exact Nat.le_of_ble_eq_true rfl) (Nat.le_of_ble_eq_true rfl) (s_A_knownField hR hx) ?_
  refine aw_callV0 k95_5 hC_A_twiceAreaByCorners ok_F_twiceByCorners sv_A_209 hH_F_twiceByCorners ⟨(by decide), hok6⟩ (by decide) hN_F_twiceByCorners (by rw [hL_F_twiceByCorners]; exact Nat.le_of_ble_eq_true rfl) (Nat.le_of_ble_eq_true rfl) (k_corners hR hlt) ?_
  refine aw_lreturn k95_8 hR_A_twiceAreaByCorners ?_ ?_
  all_goals first | rfl | exact Or.inl rfl | exact Or.inr rfl | assumption | (simp_all; done) | ((repeat' split) <;> first | rfl | (simp only [Int32.lt_iff_toInt_lt, Int32.le_iff_toInt_le, Int64.lt_iff_toInt_lt, Int64.le_iff_toInt_le] at *; omega) | (simp_all; done))
theorem x_A_twiceAreaByCorners {d L : Nat} {M : mM} {f t : Nat → Int32} {hs : List (Nat → Int32)} {sn : Option (Nat → Int32)} (h : CR M f hs sn t L) {x : Int32} (hx : hasF f x = false) : CT iA_twiceAreaByCorners (d + 8) [vR 5 0 0, vI x] M (.inr tIOB) M 1 := by
  have hR := h.1
  refine ct_go hL_A_twiceAreaByCorners rfl ?_
  refine aw_aload_n k95_0 rfl ?_
  refine aw_iload_n k95_1 rfl ?_
  exact aw_callVX1 k95_2 hC_A_twiceAreaByCorners ok_A_knownField sv_A_173 hH_A_knownField ⟨rfl, rfl⟩ (by decide) hN_A_knownField (by rw [hL_A_knownField]; exact Nat.le_of_ble_eq_true rfl) (Nat.le_of_ble_eq_true rfl) hH_A_twiceAreaByCorners (x_A_knownField hR hx)
theorem s_A_twiceAreaByStrips {d L : Nat} {M : mM} {f t : Nat → Int32} {hs : List (Nat → Int32)} {sn : Option (Nat → Int32)} (h : CR M f hs sn t L) {x : Int32} (hx : hasF f x = true) : CT iA_twiceAreaByStrips (d + 8) [vR 5 0 0, vI x] M (.inl (some (vL (strF f x.toNatClampNeg)))) M 0 := by
  have hR := h.1
  have hlt := (hasF_at hx hR.c.1 hR.c.2.1).2
  have hfd := hR.fd hlt
  have hok6 : x.toNatClampNeg < 6 := by have := hR.c.2.1; omega
  refine ct_go hL_A_twiceAreaByStrips rfl ?_
  refine aw_aload_n k96_0 rfl ?_
  refine aw_iload_n k96_1 rfl ?_
  refine aw_callV1 k96_2 hC_A_twiceAreaByStrips ok_A_knownField sv_A_173 hH_A_knownField ⟨rfl, rfl⟩ (by decide) hN_A_knownField (by rw [hL_A_knownField]; exact Nat.le_of_ble_eq_true rfl) (Nat.le_of_ble_eq_true rfl) (s_A_knownField hR hx) ?_
  refine aw_callV0 k96_5 hC_A_twiceAreaByStrips ok_F_twiceByStrips sv_A_213 hH_F_twiceByStrips ⟨(by decide), hok6⟩ (by decide) hN_F_twiceByStrips (by rw [hL_F_twiceByStrips]; exact Nat.le_of_ble_eq_true rfl) (Nat.le_of_ble_eq_true rfl) (k_strips hR hlt) ?_
  refine aw_lreturn k96_8 hR_A_twiceAreaByStrips ?_ ?_
  all_goals first | rfl | exact Or.inl rfl | exact Or.inr rfl | assumption | (simp_all; done) | ((repeat' split) <;> first | rfl | (simp only [Int32.lt_iff_toInt_lt, Int32.le_iff_toInt_le, Int64.lt_iff_toInt_lt, Int64.le_iff_toInt_le] at *; omega) | (simp_all; done))
theorem x_A_twiceAreaByStrips {d L : Nat} {M : mM} {f t : Nat → Int32} {hs : List (Nat → Int32)} {sn : Option (Nat → Int32)} (h : CR M f hs sn t L) {x : Int32} (hx : hasF f x = false) : CT iA_twiceAreaByStrips (d + 8) [vR 5 0 0, vI x] M (.inr tIOB) M 1 := by
  have hR := h.1
  refine ct_go hL_A_twiceAreaByStrips rfl ?_
  refine aw_aload_n k96_0 rfl ?_
  refine aw_iload_n k96_1 rfl ?_
  exact aw_callVX1 k96_2 hC_A_twiceAreaByStrips ok_A_knownField sv_A_173 hH_A_knownField ⟨rfl, rfl⟩ (by decide) hN_A_knownField (by rw [hL_A_knownField]; exact Nat.le_of_ble_eq_true rfl) (Nat.le_of_ble_eq_true rfl) hH_A_twiceAreaByStrips (x_A_knownField hR hx)
theorem s_A_acresOf {d L : Nat} {M : mM} {f t : Nat → Int32} {hs : List (Nat → Int32)} {sn : Option (Nat → Int32)} (h : CR M f hs sn t L) {x : Int32} (hx : hasF f x = true) : CT iA_acresOf (d + 8) [vR 5 0 0, vI x] M (.inl (some (vI ((twF f x.toNatClampNeg / 2 / 100000).toInt32)))) M 0 := by
  have hR := h.1
  have hlt := (hasF_at hx hR.c.1 hR.c.2.1).2
  have hfd := hR.fd hlt
  have hok6 : x.toNatClampNeg < 6 := by have := hR.c.2.1; omega
  refine ct_go hL_A_acresOf rfl ?_
  refine aw_aload_n k97_0 rfl ?_
  refine aw_iload_n k97_1 rfl ?_
  refine aw_callV1 k97_2 hC_A_acresOf ok_A_knownField sv_A_173 hH_A_knownField ⟨rfl, rfl⟩ (by decide) hN_A_knownField (by rw [hL_A_knownField]; exact Nat.le_of_ble_eq_true rfl) (Nat.le_of_ble_eq_true rfl) (s_A_knownField hR hx) ?_
  refine aw_callV0 k97_5 hC_A_acresOf ok_F_area sv_A_216 hH_F_area ⟨(by decide), hok6⟩ (by decide) hN_F_area (by rw [hL_F_area]; exact Nat.le_of_ble_eq_true rfl) (Nat.le_of_ble_eq_true rfl) (k_area hR hlt) ?_
  refine aw_ldc2_w k97_8 hC_A_acresOf cl_A_219 ?_
  refine aw_ldiv k97_11 (by decide) ?_
  refine aw_l2i k97_12 ?_
  refine aw_ireturn k97_13 hR_A_acresOf ?_ ?_
  all_goals first | rfl | exact Or.inl rfl | exact Or.inr rfl | assumption | (simp_all; done) | ((repeat' split) <;> first | rfl | (simp only [Int32.lt_iff_toInt_lt, Int32.le_iff_toInt_le, Int64.lt_iff_toInt_lt, Int64.le_iff_toInt_le] at *; omega) | (simp_all; done))
theorem x_A_acresOf {d L : Nat} {M : mM} {f t : Nat → Int32} {hs : List (Nat → Int32)} {sn : Option (Nat → Int32)} (h : CR M f hs sn t L) {x : Int32} (hx : hasF f x = false) : CT iA_acresOf (d + 8) [vR 5 0 0, vI x] M (.inr tIOB) M 1 := by
  have hR := h.1
  refine ct_go hL_A_acresOf rfl ?_
  refine aw_aload_n k97_0 rfl ?_
  refine aw_iload_n k97_1 rfl ?_
  exact aw_callVX1 k97_2 hC_A_acresOf ok_A_knownField sv_A_173 hH_A_knownField ⟨rfl, rfl⟩ (by decide) hN_A_knownField (by rw [hL_A_knownField]; exact Nat.le_of_ble_eq_true rfl) (Nat.le_of_ble_eq_true rfl) hH_A_acresOf (x_A_knownField hR hx)
theorem s_A_roodsOf {d L : Nat} {M : mM} {f t : Nat → Int32} {hs : List (Nat → Int32)} {sn : Option (Nat → Int32)} (h : CR M f hs sn t L) {x : Int32} (hx : hasF f x = true) : CT iA_roodsOf (d + 8) [vR 5 0 0, vI x] M (.inl (some (vI (((twF f x.toNatClampNeg / 2 - twF f x.toNatClampNeg / 2 / 100000 * 100000) / 25000).toInt32)))) M 0 := by
  have hR := h.1
  have hlt := (hasF_at hx hR.c.1 hR.c.2.1).2
  have hfd := hR.fd hlt
  have hok6 : x.toNatClampNeg < 6 := by have := hR.c.2.1; omega
  refine ct_go hL_A_roodsOf rfl ?_
  refine aw_aload_n k98_0 rfl ?_
  refine aw_iload_n k98_1 rfl ?_
  refine aw_callV1 k98_2 hC_A_roodsOf ok_A_knownField sv_A_173 hH_A_knownField ⟨rfl, rfl⟩ (by decide) hN_A_knownField (by rw [hL_A_knownField]; exact Nat.le_of_ble_eq_true rfl) (Nat.le_of_ble_eq_true rfl) (s_A_knownField hR hx) ?_
  refine aw_callV0 k98_5 hC_A_roodsOf ok_F_area sv_A_216 hH_F_area ⟨(by decide), hok6⟩ (by decide) hN_F_area (by rw [hL_F_area]; exact Nat.le_of_ble_eq_true rfl) (Nat.le_of_ble_eq_true rfl) (k_area hR hlt) ?_
  refine aw_ldc2_w k98_8 hC_A_roodsOf cl_A_219 ?_
  refine aw_lrem k98_11 (by decide) ?_
  refine aw_ldc2_w k98_12 hC_A_roodsOf cl_A_221 ?_
  refine aw_ldiv k98_15 (by decide) ?_
  refine aw_l2i k98_16 ?_
  refine aw_ireturn k98_17 hR_A_roodsOf ?_ ?_
  all_goals first | rfl | exact Or.inl rfl | exact Or.inr rfl | assumption | (simp_all; done) | ((repeat' split) <;> first | rfl | (simp only [Int32.lt_iff_toInt_lt, Int32.le_iff_toInt_le, Int64.lt_iff_toInt_lt, Int64.le_iff_toInt_le] at *; omega) | (simp_all; done))
theorem x_A_roodsOf {d L : Nat} {M : mM} {f t : Nat → Int32} {hs : List (Nat → Int32)} {sn : Option (Nat → Int32)} (h : CR M f hs sn t L) {x : Int32} (hx : hasF f x = false) : CT iA_roodsOf (d + 8) [vR 5 0 0, vI x] M (.inr tIOB) M 1 := by
  have hR := h.1
  refine ct_go hL_A_roodsOf rfl ?_
  refine aw_aload_n k98_0 rfl ?_
  refine aw_iload_n k98_1 rfl ?_
  exact aw_callVX1 k98_2 hC_A_roodsOf ok_A_knownField sv_A_173 hH_A_knownField ⟨rfl, rfl⟩ (by decide) hN_A_knownField (by rw [hL_A_knownField]; exact Nat.le_of_ble_eq_true rfl) (Nat.le_of_ble_eq_true rfl) hH_A_roodsOf (x_A_knownField hR hx)
theorem s_A_perchesOf {d L : Nat} {M : mM} {f t : Nat → Int32} {hs : List (Nat → Int32)} {sn : Option (Nat → Int32)} (h : CR M f hs sn t L) {x : Int32} (hx : hasF f x = true) : CT iA_perchesOf (d + 8) [vR 5 0 0, vI x] M (.inl (some (vI (((twF f x.toNatClampNeg / 2 - twF f x.toNatClampNeg / 2 / 25000 * 25000) / 625).toInt32)))) M 0 := by
  have hR := h.1
  have hlt := (hasF_at hx hR.c.1 hR.c.2.1).2
  have hfd := hR.fd hlt
  have hok6 : x.toNatClampNeg < 6 := by have := hR.c.2.1; omega
  refine ct_go hL_A_perchesOf rfl ?_
  refine aw_aload_n k99_0 rfl ?_
  refine aw_iload_n k99_1 rfl ?_
  refine aw_callV1 k99_2 hC_A_perchesOf ok_A_knownField sv_A_173 hH_A_knownField ⟨rfl, rfl⟩ (by decide) hN_A_knownField (by rw [hL_A_knownField]; exact Nat.le_of_ble_eq_true rfl) (Nat.le_of_ble_eq_true rfl) (s_A_knownField hR hx) ?_
  refine aw_callV0 k99_5 hC_A_perchesOf ok_F_area sv_A_216 hH_F_area ⟨(by decide), hok6⟩ (by decide) hN_F_area (by rw [hL_F_area]; exact Nat.le_of_ble_eq_true rfl) (Nat.le_of_ble_eq_true rfl) (k_area hR hlt) ?_
  refine aw_ldc2_w k99_8 hC_A_perchesOf cl_A_221 ?_
  refine aw_lrem k99_11 (by decide) ?_
  refine aw_ldc2_w k99_12 hC_A_perchesOf cl_A_223 ?_
  refine aw_ldiv k99_15 (by decide) ?_
  refine aw_l2i k99_16 ?_
  refine aw_ireturn k99_17 hR_A_perchesOf ?_ ?_
  all_goals first | rfl | exact Or.inl rfl | exact Or.inr rfl | assumption | (simp_all; done) | ((repeat' split) <;> first | rfl | (simp only [Int32.lt_iff_toInt_lt, Int32.le_iff_toInt_le, Int64.lt_iff_toInt_lt, Int64.le_iff_toInt_le] at *; omega) | (simp_all; done))
theorem x_A_perchesOf {d L : Nat} {M : mM} {f t : Nat → Int32} {hs : List (Nat → Int32)} {sn : Option (Nat → Int32)} (h : CR M f hs sn t L) {x : Int32} (hx : hasF f x = false) : CT iA_perchesOf (d + 8) [vR 5 0 0, vI x] M (.inr tIOB) M 1 := by
  have hR := h.1
  refine ct_go hL_A_perchesOf rfl ?_
  refine aw_aload_n k99_0 rfl ?_
  refine aw_iload_n k99_1 rfl ?_
  exact aw_callVX1 k99_2 hC_A_perchesOf ok_A_knownField sv_A_173 hH_A_knownField ⟨rfl, rfl⟩ (by decide) hN_A_knownField (by rw [hL_A_knownField]; exact Nat.le_of_ble_eq_true rfl) (Nat.le_of_ble_eq_true rfl) hH_A_perchesOf (x_A_knownField hR hx)
theorem s_A_largestField {d L : Nat} {M : mM} {f t : Nat → Int32} {hs : List (Nat → Int32)} {sn : Option (Nat → Int32)} (h : CR M f hs sn t L) : CT iA_largestField (d + 8) [vR 5 0 0] M (.inl (some (vI (grF f (fC f)).1))) M 0 := by
  have hR := h.1
  refine ct_go hL_A_largestField rfl ?_
  refine aw_aload_n k100_0 rfl ?_
  refine aw_getR k100_1 hC_A_largestField fs_A_10 (by decide) ⟨rfl, rfl⟩ rfl ?_
  refine aw_callV0 k100_4 hC_A_largestField ok_S_fieldOfGreatestArea sv_A_225 hH_S_fieldOfGreatestArea ⟨(by first | assumption | decide), rfl⟩ (by decide) hN_S_fieldOfGreatestArea (by rw [hL_S_fieldOfGreatestArea]; exact Nat.le_of_ble_eq_true rfl) (Nat.le_of_ble_eq_true rfl) (s_S_fieldOfGreatestArea hR) ?_
  refine aw_ireturn k100_7 hR_A_largestField ?_ ?_
  all_goals first | rfl | exact Or.inl rfl | exact Or.inr rfl | assumption | (simp_all; done) | ((repeat' split) <;> first | rfl | (simp only [Int32.lt_iff_toInt_lt, Int32.le_iff_toInt_le, Int64.lt_iff_toInt_lt, Int64.le_iff_toInt_le] at *; omega) | (simp_all; done))
theorem s_A_twiceAreaOfAll {d L : Nat} {M : mM} {f t : Nat → Int32} {hs : List (Nat → Int32)} {sn : Option (Nat → Int32)} (h : CR M f hs sn t L) : CT iA_twiceAreaOfAll (d + 8) [vR 5 0 0] M (.inl (some (vL (sumL (twF f) (fC f))))) M 0 := by
  have hR := h.1
  refine ct_go hL_A_twiceAreaOfAll rfl ?_
  refine aw_aload_n k101_0 rfl ?_
  refine aw_getR k101_1 hC_A_twiceAreaOfAll fs_A_10 (by decide) ⟨rfl, rfl⟩ rfl ?_
  refine aw_callV0 k101_4 hC_A_twiceAreaOfAll ok_S_sumOfTwiceAreas sv_A_228 hH_S_sumOfTwiceAreas ⟨(by first | assumption | decide), rfl⟩ (by decide) hN_S_sumOfTwiceAreas (by rw [hL_S_sumOfTwiceAreas]; exact Nat.le_of_ble_eq_true rfl) (Nat.le_of_ble_eq_true rfl) (s_S_sumOfTwiceAreas hR) ?_
  refine aw_lreturn k101_7 hR_A_twiceAreaOfAll ?_ ?_
  all_goals first | rfl | exact Or.inl rfl | exact Or.inr rfl | assumption | (simp_all; done) | ((repeat' split) <;> first | rfl | (simp only [Int32.lt_iff_toInt_lt, Int32.le_iff_toInt_le, Int64.lt_iff_toInt_lt, Int64.le_iff_toInt_le] at *; omega) | (simp_all; done))
def pcs (x y : Int32) : Int32 := if x ≤ 0 ∨ y ≤ 0 then 1 else (x - 1) / y + 1
theorem s_A_piecesNeeded {d : Nat} {M : mM} {x y : Int32} : CT iA_piecesNeeded d [vI x, vI y] M (.inl (some (vI (pcs x y)))) M 0 := by
  refine ct_go hL_A_piecesNeeded rfl ?_
  unfold pcs
  by_cases h1 : x ≤ 0
  · rw [if_pos (Or.inl h1)]
    refine aw_iload_n k111_0 rfl ?_
    refine aw_if_le 8 k111_1 (by decide) (fun c_1 => ?_) (fun c_1 => ?_)
    · refine aw_iconst (v := 1) k111_8 (by decide) ?_
      refine aw_ireturn k111_9 hR_A_piecesNeeded ?_ ?_
      all_goals first | rfl | exact Or.inl rfl | exact Or.inr rfl | assumption | (simp_all; done) | ((repeat' split) <;> first | rfl | (simp only [Int32.lt_iff_toInt_lt, Int32.le_iff_toInt_le, Int64.lt_iff_toInt_lt, Int64.le_iff_toInt_le] at *; omega) | (simp_all; done))
    · exact absurd h1 c_1
  · by_cases h2 : y ≤ 0
    · rw [if_pos (Or.inr h2)]
      refine aw_iload_n k111_0 rfl ?_
      refine aw_if_le 8 k111_1 (by decide) (fun c_1 => ?_) (fun c_1 => ?_)
      · exact absurd c_1 h1
      · refine aw_iload_n k111_4 rfl ?_
        refine aw_if_gt 10 k111_5 (by decide) (fun c_5 => ?_) (fun c_5 => ?_)
        · exact absurd h2 (Int32.not_le.mpr c_5)
        · refine aw_iconst (v := 1) k111_8 (by decide) ?_
          refine aw_ireturn k111_9 hR_A_piecesNeeded ?_ ?_
          all_goals first | rfl | exact Or.inl rfl | exact Or.inr rfl | assumption | (simp_all; done) | ((repeat' split) <;> first | rfl | (simp only [Int32.lt_iff_toInt_lt, Int32.le_iff_toInt_le, Int64.lt_iff_toInt_lt, Int64.le_iff_toInt_le] at *; omega) | (simp_all; done))
    · rw [if_neg (fun q => q.elim h1 h2)]
      have h0 : ¬ y = 0 := fun e => h2 (by rw [e]; exact Int32.le_refl 0)
      refine aw_iload_n k111_0 rfl ?_
      refine aw_if_le 8 k111_1 (by decide) (fun c_1 => ?_) (fun c_1 => ?_)
      · exact absurd c_1 h1
      · refine aw_iload_n k111_4 rfl ?_
        refine aw_if_gt 10 k111_5 (by decide) (fun c_5 => ?_) (fun c_5 => ?_)
        · refine aw_iload_n k111_10 rfl ?_
          refine aw_iconst (v := 1) k111_11 (by decide) ?_
          refine aw_isub k111_12 ?_
          refine aw_iload_n k111_13 rfl ?_
          refine aw_idiv k111_14 h0 ?_
          refine aw_iconst (v := 1) k111_15 (by decide) ?_
          refine aw_iadd k111_16 ?_
          refine aw_ireturn k111_17 hR_A_piecesNeeded ?_ ?_
          all_goals first | rfl | exact Or.inl rfl | exact Or.inr rfl | assumption | (simp_all; done) | ((repeat' split) <;> first | rfl | (simp only [Int32.lt_iff_toInt_lt, Int32.le_iff_toInt_le, Int64.lt_iff_toInt_lt, Int64.le_iff_toInt_le] at *; omega) | (simp_all; done))
        · exact absurd (Int32.not_lt.mp c_5) h2
def scF (x y : Int32) : Int32 :=
  let e := if x < y then y else x
  let l := if 10 < pcs e 20 then pcs e 20 else 10
  if l ≤ 1000 then l else -1
theorem s_A_sheetsFor {d L : Nat} {M : mM} {f t : Nat → Int32} {hs : List (Nat → Int32)} {sn : Option (Nat → Int32)} (h : CR M f hs sn t L) {x : Int32} (hx : hasF f x = true) {y : Int32} (hy : 10 ≤ y ∧ y ≤ 1000) : CT iA_sheetsFor (d + 8) [vR 5 0 0, vI x, vI y] M (.inl (some (vI (pcs (exX f x.toNatClampNeg) (20 * y) * pcs (exY f x.toNatClampNeg) (20 * y))))) M 0 := by
  have hR := h.1
  have hlt := (hasF_at hx hR.c.1 hR.c.2.1).2
  have hfd := hR.fd hlt
  have hok6 : x.toNatClampNeg < 6 := by have := hR.c.2.1; omega
  refine ct_go hL_A_sheetsFor rfl ?_
  refine aw_aload_n k102_0 rfl ?_
  refine aw_iload_n k102_1 rfl ?_
  refine aw_callV1 k102_2 hC_A_sheetsFor ok_A_knownField sv_A_173 hH_A_knownField ⟨rfl, rfl⟩ (by decide) hN_A_knownField (by rw [hL_A_knownField]; exact Nat.le_of_ble_eq_true rfl) (Nat.le_of_ble_eq_true rfl) (s_A_knownField hR hx) ?_
  refine aw_astore_n k102_5 (Nat.le_of_ble_eq_true rfl) rfl ?_
  refine aw_iload_n k102_6 rfl ?_
  refine aw_bipush (v := 10) k102_7 (by decide) ?_
  refine aw_icmp_lt 19 k102_9 (by decide) (fun c_9 => ?_) (fun c_9 => ?_)
  · exact absurd hy.1 (Int32.not_le.mpr c_9)
  · refine aw_iload_n k102_12 rfl ?_
    refine aw_sipush (v := 1000) k102_13 (by decide) ?_
    refine aw_icmp_le 29 k102_16 (by decide) (fun c_16 => ?_) (fun c_16 => ?_)
    · refine aw_bipush (v := 20) k102_29 (by decide) ?_
      refine aw_iload_n k102_31 rfl ?_
      refine aw_imul k102_32 ?_
      refine aw_istore k102_33 (Nat.le_of_ble_eq_true rfl) rfl ?_
      refine aw_aload_n k102_35 rfl ?_
      refine aw_callV0 k102_36 hC_A_sheetsFor ok_F_extentEast sv_A_233 hH_F_extentEast ⟨(by decide), hok6⟩ (by decide) hN_F_extentEast (by rw [hL_F_extentEast]; exact Nat.le_of_ble_eq_true rfl) (Nat.le_of_ble_eq_true rfl) (k_exX hR hlt) ?_
      refine aw_iload k102_39 rfl ?_
      refine aw_callS2 k102_41 hC_A_sheetsFor ok_A_piecesNeeded ss_A_236 hH_A_piecesNeeded (by rw [hL_A_piecesNeeded]; exact Nat.le_of_ble_eq_true rfl) (Nat.le_of_ble_eq_true rfl) s_A_piecesNeeded ?_
      refine aw_aload_n k102_44 rfl ?_
      refine aw_callV0 k102_45 hC_A_sheetsFor ok_F_extentNorth sv_A_239 hH_F_extentNorth ⟨(by decide), hok6⟩ (by decide) hN_F_extentNorth (by rw [hL_F_extentNorth]; exact Nat.le_of_ble_eq_true rfl) (Nat.le_of_ble_eq_true rfl) (k_exY hR hlt) ?_
      refine aw_iload k102_48 rfl ?_
      refine aw_callS2 k102_50 hC_A_sheetsFor ok_A_piecesNeeded ss_A_236 hH_A_piecesNeeded (by rw [hL_A_piecesNeeded]; exact Nat.le_of_ble_eq_true rfl) (Nat.le_of_ble_eq_true rfl) s_A_piecesNeeded ?_
      refine aw_imul k102_53 ?_
      refine aw_ireturn k102_54 hR_A_sheetsFor ?_ ?_
      all_goals first | rfl | exact Or.inl rfl | exact Or.inr rfl | assumption | (simp_all; done) | ((repeat' split) <;> first | rfl | (simp only [Int32.lt_iff_toInt_lt, Int32.le_iff_toInt_le, Int64.lt_iff_toInt_lt, Int64.le_iff_toInt_le] at *; omega) | (simp_all; done))
    · exact absurd hy.2 c_16
theorem x_A_sheetsFor {d L : Nat} {M : mM} {f t : Nat → Int32} {hs : List (Nat → Int32)} {sn : Option (Nat → Int32)} (h : CR M f hs sn t L) {x : Int32} (hx : hasF f x = false) {y : Int32} : CT iA_sheetsFor (d + 8) [vR 5 0 0, vI x, vI y] M (.inr tIOB) M 1 := by
  have hR := h.1
  refine ct_go hL_A_sheetsFor rfl ?_
  refine aw_aload_n k102_0 rfl ?_
  refine aw_iload_n k102_1 rfl ?_
  exact aw_callVX1 k102_2 hC_A_sheetsFor ok_A_knownField sv_A_173 hH_A_knownField ⟨rfl, rfl⟩ (by decide) hN_A_knownField (by rw [hL_A_knownField]; exact Nat.le_of_ble_eq_true rfl) (Nat.le_of_ble_eq_true rfl) hH_A_sheetsFor (x_A_knownField hR hx)
theorem y_A_sheetsFor {d L : Nat} {M : mM} {f t : Nat → Int32} {hs : List (Nat → Int32)} {sn : Option (Nat → Int32)} (h : CR M f hs sn t L) {x : Int32} (hx : hasF f x = true) {y : Int32} (hy : ¬ (10 ≤ y ∧ y ≤ 1000)) : CT iA_sheetsFor (d + 8) [vR 5 0 0, vI x, vI y] M (.inr tIAE) M 1 := by
  have hR := h.1
  refine ct_go hL_A_sheetsFor rfl ?_
  refine aw_aload_n k102_0 rfl ?_
  refine aw_iload_n k102_1 rfl ?_
  refine aw_callV1 k102_2 hC_A_sheetsFor ok_A_knownField sv_A_173 hH_A_knownField ⟨rfl, rfl⟩ (by decide) hN_A_knownField (by rw [hL_A_knownField]; exact Nat.le_of_ble_eq_true rfl) (Nat.le_of_ble_eq_true rfl) (s_A_knownField hR hx) ?_
  refine aw_astore_n k102_5 (Nat.le_of_ble_eq_true rfl) rfl ?_
  refine aw_iload_n k102_6 rfl ?_
  refine aw_bipush (v := 10) k102_7 (by decide) ?_
  refine aw_icmp_lt 19 k102_9 (by decide) (fun c_9 => ?_) (fun c_9 => ?_)
  · exact aw_throw k102_19 k102_22 k102_23 k102_25 k102_28 hC_A_sheetsFor th_IAE (si := 15) rfl hH_A_sheetsFor (Nat.le_of_ble_eq_true rfl)
  · refine aw_iload_n k102_12 rfl ?_
    refine aw_sipush (v := 1000) k102_13 (by decide) ?_
    refine aw_icmp_le 29 k102_16 (by decide) (fun c_16 => ?_) (fun c_16 => ?_)
    · exact absurd ⟨Int32.not_lt.mp c_9, c_16⟩ hy
    · exact aw_throw k102_19 k102_22 k102_23 k102_25 k102_28 hC_A_sheetsFor th_IAE (si := 15) rfl hH_A_sheetsFor (Nat.le_of_ble_eq_true rfl)
theorem s_A_scaleFor {d L : Nat} {M : mM} {f t : Nat → Int32} {hs : List (Nat → Int32)} {sn : Option (Nat → Int32)} (h : CR M f hs sn t L) {x : Int32} (hx : hasF f x = true) : CT iA_scaleFor (d + 8) [vR 5 0 0, vI x] M (.inl (some (vI (scF (exX f x.toNatClampNeg) (exY f x.toNatClampNeg))))) M 0 := by
  have hR := h.1
  have hlt := (hasF_at hx hR.c.1 hR.c.2.1).2
  have hfd := hR.fd hlt
  have hok6 : x.toNatClampNeg < 6 := by have := hR.c.2.1; omega
  obtain ⟨e, he⟩ : ∃ e, e = if exX f x.toNatClampNeg < exY f x.toNatClampNeg then exY f x.toNatClampNeg else exX f x.toNatClampNeg := ⟨_, rfl⟩
  obtain ⟨l, hl⟩ : ∃ l, l = if 10 < pcs e 20 then pcs e 20 else 10 := ⟨_, rfl⟩
  have hs : scF (exX f x.toNatClampNeg) (exY f x.toNatClampNeg) = if l ≤ 1000 then l else -1 := by rw [hl, he]; rfl
  rw [hs]
  refine ct_go hL_A_scaleFor rfl ?_
  refine aw_aload_n k103_0 rfl ?_
  refine aw_iload_n k103_1 rfl ?_
  refine aw_callV1 k103_2 hC_A_scaleFor ok_A_knownField sv_A_173 hH_A_knownField ⟨rfl, rfl⟩ (by decide) hN_A_knownField (by rw [hL_A_knownField]; exact Nat.le_of_ble_eq_true rfl) (Nat.le_of_ble_eq_true rfl) (s_A_knownField hR hx) ?_
  refine aw_astore_n k103_5 (Nat.le_of_ble_eq_true rfl) rfl ?_
  refine aw_aload_n k103_6 rfl ?_
  refine aw_callV0 k103_7 hC_A_scaleFor ok_F_extentEast sv_A_233 hH_F_extentEast ⟨(by decide), hok6⟩ (by decide) hN_F_extentEast (by rw [hL_F_extentEast]; exact Nat.le_of_ble_eq_true rfl) (Nat.le_of_ble_eq_true rfl) (k_exX hR hlt) ?_
  refine aw_aload_n k103_10 rfl ?_
  refine aw_callV0 k103_11 hC_A_scaleFor ok_F_extentNorth sv_A_239 hH_F_extentNorth ⟨(by decide), hok6⟩ (by decide) hN_F_extentNorth (by rw [hL_F_extentNorth]; exact Nat.le_of_ble_eq_true rfl) (Nat.le_of_ble_eq_true rfl) (k_exY hR hlt) ?_
  refine aw_callS2 k103_14 hC_A_scaleFor ok_J_max ss_A_242 hH_J_max (by rw [hL_J_max]; exact Nat.le_of_ble_eq_true rfl) (Nat.le_of_ble_eq_true rfl) s_J_max ?_
  rw [← he]
  refine aw_istore_n k103_17 (Nat.le_of_ble_eq_true rfl) rfl ?_
  refine aw_bipush (v := 10) k103_18 (by decide) ?_
  refine aw_iload_n k103_20 rfl ?_
  refine aw_bipush (v := 20) k103_21 (by decide) ?_
  refine aw_callS2 k103_23 hC_A_scaleFor ok_A_piecesNeeded ss_A_236 hH_A_piecesNeeded (by rw [hL_A_piecesNeeded]; exact Nat.le_of_ble_eq_true rfl) (Nat.le_of_ble_eq_true rfl) s_A_piecesNeeded ?_
  refine aw_callS2 k103_26 hC_A_scaleFor ok_J_max ss_A_242 hH_J_max (by rw [hL_J_max]; exact Nat.le_of_ble_eq_true rfl) (Nat.le_of_ble_eq_true rfl) s_J_max ?_
  rw [← hl]
  refine aw_istore k103_29 (Nat.le_of_ble_eq_true rfl) rfl ?_
  refine aw_iload k103_31 rfl ?_
  refine aw_sipush (v := 1000) k103_33 (by decide) ?_
  refine aw_icmp_gt 44 k103_36 (by decide) (fun c_36 => ?_) (fun c_36 => ?_)
  · refine aw_iconst (v := (-1)) k103_44 (by decide) ?_
    refine aw_ireturn k103_45 hR_A_scaleFor ?_ ?_
    · first | exact (if_pos (Int32.not_lt.mp c_36)).symm | exact (if_neg (Int32.not_le.mpr c_36)).symm
    · rfl
  · refine aw_iload k103_39 rfl ?_
    refine aw_goto (t := 45) k103_41 (by decide) ?_
    refine aw_ireturn k103_45 hR_A_scaleFor ?_ ?_
    · first | exact (if_pos (Int32.not_lt.mp c_36)).symm | exact (if_neg (Int32.not_le.mpr c_36)).symm
    · rfl
theorem x_A_scaleFor {d L : Nat} {M : mM} {f t : Nat → Int32} {hs : List (Nat → Int32)} {sn : Option (Nat → Int32)} (h : CR M f hs sn t L) {x : Int32} (hx : hasF f x = false) : CT iA_scaleFor (d + 8) [vR 5 0 0, vI x] M (.inr tIOB) M 1 := by
  have hR := h.1
  refine ct_go hL_A_scaleFor rfl ?_
  refine aw_aload_n k103_0 rfl ?_
  refine aw_iload_n k103_1 rfl ?_
  exact aw_callVX1 k103_2 hC_A_scaleFor ok_A_knownField sv_A_173 hH_A_knownField ⟨rfl, rfl⟩ (by decide) hN_A_knownField (by rw [hL_A_knownField]; exact Nat.le_of_ble_eq_true rfl) (Nat.le_of_ble_eq_true rfl) hH_A_scaleFor (x_A_knownField hR hx)
theorem s_A_recordedStates {d L : Nat} {M : mM} {f t : Nat → Int32} {hs : List (Nat → Int32)} {sn : Option (Nat → Int32)} (h : CR M f hs sn t L) : CT iA_recordedStates (d + 8) [vR 5 0 0] M (.inl (some (vI (nI hs.length)))) M 0 := by
  have hR := h.1
  obtain ⟨a, -, -, ha3, -, -⟩ := h.2.1
  refine ct_go hL_A_recordedStates rfl ?_
  refine aw_aload_n k104_0 rfl ?_
  refine aw_getR k104_1 hC_A_recordedStates fs_A_25 (by decide) ⟨rfl, rfl⟩ rfl ?_
  refine aw_getI k104_4 hC_A_recordedStates fs_A_140 (by decide) ⟨rfl, rfl⟩ rfl ?_
  refine aw_ireturn k104_7 hR_A_recordedStates ?_ ?_
  exact ha3; rfl
