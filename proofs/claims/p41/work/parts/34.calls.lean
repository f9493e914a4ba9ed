/-! THE OFFICE'S CALLS -/
abbrev inR (x y : Int32) : Prop := -y ≤ x ∧ x ≤ y
theorem iw_t {d : Nat} {M : mM} {x y : Int32} (h : inR x y) : CT iA_isWithin d [vI x, vI y] M (.inl (some (vI 1))) M 0 := by
  have := s_A_isWithin (d := d) (M := M) (x := x) (y := y)
  rw [if_pos h] at this
  exact this
theorem iw_f {d : Nat} {M : mM} {x y : Int32} (h : ¬ inR x y) : CT iA_isWithin d [vI x, vI y] M (.inl (some (vI 0))) M 0 := by
  have := s_A_isWithin (d := d) (M := M) (x := x) (y := y)
  rw [if_neg h] at this
  exact this
theorem s_A_knownField {d : Nat} {M : mM} {f : Nat → Int32} {x : Int32} (hR : RelS M 0 f) (h : hasF f x = true) : CT iA_knownField (d + 6) [vR 5 0 0, vI x] M (.inl (some (vR 0 0 x.toNatClampNeg))) M 0 := by
  have hk := s_S_hasF (d := d + 5) (x := x) hR
  rw [h] at hk
  obtain ⟨e, hlt⟩ := hasF_at h hR.c.1 hR.c.2.1
  have hin : vp_in x 6 := by rw [e]; exact vp_in_nI (by have := hR.c.2.1; omega) (by decide)
  refine ct_go hL_A_knownField rfl ?_
  refine aw_aload_n k86_0 rfl ?_
  refine aw_getR k86_1 hC_A_knownField fs_A_10 (by decide) ⟨rfl, rfl⟩ rfl ?_
  refine aw_iload_n k86_4 rfl ?_
  refine aw_callV1 k86_5 hC_A_knownField ok_S_hasField sv_A_250 hH_S_hasField ⟨(by first | assumption | decide), rfl⟩ (by decide) hN_S_hasField (by rw [hL_S_hasField]; exact Nat.le_of_ble_eq_true rfl) (Nat.le_of_ble_eq_true rfl) hk ?_
  refine aw_if_ne 21 k86_8 (by decide) (fun c_8 => ?_) (fun c_8 => ?_)
  · refine aw_aload_n k86_21 rfl ?_
    refine aw_getR k86_22 hC_A_knownField fs_A_10 (by decide) ⟨rfl, rfl⟩ rfl ?_
    refine aw_getR k86_25 hC_A_knownField fs_A_253 (by decide) ⟨(by first | assumption | decide), rfl⟩ rfl ?_
    refine aw_iload_n k86_28 rfl ?_
    first | refine aw_aaloadF k86_29 (by first | assumption | decide) hin ?_ | refine aw_aaloadS k86_29 hin ?_
    refine aw_areturn k86_30 ⟨_, hR_A_knownField⟩ ?_
    all_goals first | rfl | exact Or.inl rfl | exact Or.inr rfl | assumption | (simp_all; done) | ((repeat' split) <;> first | rfl | (simp only [Int32.lt_iff_toInt_lt, Int32.le_iff_toInt_le, Int64.lt_iff_toInt_lt, Int64.le_iff_toInt_le] at *; omega) | (simp_all; done))
  · exact absurd (show (1 : Int32) = 0 from c_8) (by decide)
theorem s_A_legs {d L : Nat} {M : mM} {f t : Nat → Int32} {hs : List (Nat → Int32)} {sn : Option (Nat → Int32)} (h : CR M f hs sn t L) : CT iA_legs (d + 8) [vR 5 0 0] M (.inl (some (vI (f 0)))) M 0 := by
  have hR := h.1
  have hT := hR.n
  have h12 := hT.2.1
  have h5 := hT.2.2.1
  refine ct_go hL_A_legs rfl ?_
  refine aw_aload_n k59_0 rfl ?_
  refine aw_getR k59_1 hC_A_legs fs_A_10 (by decide) ⟨rfl, rfl⟩ rfl ?_
  refine aw_getR k59_4 hC_A_legs fs_A_56 (by decide) ⟨(by first | assumption | decide), rfl⟩ rfl ?_
  refine aw_getI k59_7 hC_A_legs fs_A_74 (by decide) ⟨(by first | assumption | decide), rfl⟩ rfl ?_
  refine aw_ireturn k59_10 hR_A_legs ?_ ?_
  exact hT.2.2.1.trans hT.1.symm; rfl
theorem s_A_traverseLength {d L : Nat} {M : mM} {f t : Nat → Int32} {hs : List (Nat → Int32)} {sn : Option (Nat → Int32)} (h : CR M f hs sn t L) : CT iA_traverseLength (d + 8) [vR 5 0 0] M (.inl (some (vI (bef f 2 (fN f))))) M 0 := by
  have hR := h.1
  have hT := hR.n
  have h12 := hT.2.1
  have h5 := hT.2.2.1
  have hk : CT iT_measuredLength (d + 7) [vR 4 0 0] M (.inl (some (vI (bef f 2 (fN f))))) M 0 := by
    rw [← hT.2.2.2.2.2 2 (by decide) (fN f) (Nat.le_refl _)]
    exact s_T_measuredLength (by decide) (by omega) h5
  refine ct_go hL_A_traverseLength rfl ?_
  refine aw_aload_n k60_0 rfl ?_
  refine aw_getR k60_1 hC_A_traverseLength fs_A_10 (by decide) ⟨rfl, rfl⟩ rfl ?_
  refine aw_getR k60_4 hC_A_traverseLength fs_A_56 (by decide) ⟨(by first | assumption | decide), rfl⟩ rfl ?_
  refine aw_callV0 k60_7 hC_A_traverseLength ok_T_measuredLength sv_A_149 hH_T_measuredLength ⟨(by first | assumption | decide), rfl⟩ (by decide) hN_T_measuredLength (by rw [hL_T_measuredLength]; exact Nat.le_of_ble_eq_true rfl) (Nat.le_of_ble_eq_true rfl) hk ?_
  refine aw_ireturn k60_10 hR_A_traverseLength ?_ ?_
  all_goals first | rfl | exact Or.inl rfl | exact Or.inr rfl | assumption | (simp_all; done) | ((repeat' split) <;> first | rfl | (simp only [Int32.lt_iff_toInt_lt, Int32.le_iff_toInt_le, Int64.lt_iff_toInt_lt, Int64.le_iff_toInt_le] at *; omega) | (simp_all; done))
theorem s_A_errorEast {d L : Nat} {M : mM} {f t : Nat → Int32} {hs : List (Nat → Int32)} {sn : Option (Nat → Int32)} (h : CR M f hs sn t L) : CT iA_errorEast (d + 8) [vR 5 0 0] M (.inl (some (vI (bef f 0 (fN f))))) M 0 := by
  have hR := h.1
  have hT := hR.n
  have h12 := hT.2.1
  have h5 := hT.2.2.1
  have hk : CT iT_closingEast (d + 7) [vR 4 0 0] M (.inl (some (vI (bef f 0 (fN f))))) M 0 := by
    rw [← hT.2.2.2.2.2 0 (by decide) (fN f) (Nat.le_refl _)]
    exact s_T_closingEast (by decide) (by omega) h5
  refine ct_go hL_A_errorEast rfl ?_
  refine aw_aload_n k61_0 rfl ?_
  refine aw_getR k61_1 hC_A_errorEast fs_A_10 (by decide) ⟨rfl, rfl⟩ rfl ?_
  refine aw_getR k61_4 hC_A_errorEast fs_A_56 (by decide) ⟨(by first | assumption | decide), rfl⟩ rfl ?_
  refine aw_callV0 k61_7 hC_A_errorEast ok_T_closingEast sv_A_152 hH_T_closingEast ⟨(by first | assumption | decide), rfl⟩ (by decide) hN_T_closingEast (by rw [hL_T_closingEast]; exact Nat.le_of_ble_eq_true rfl) (Nat.le_of_ble_eq_true rfl) hk ?_
  refine aw_ireturn k61_10 hR_A_errorEast ?_ ?_
  all_goals first | rfl | exact Or.inl rfl | exact Or.inr rfl | assumption | (simp_all; done) | ((repeat' split) <;> first | rfl | (simp only [Int32.lt_iff_toInt_lt, Int32.le_iff_toInt_le, Int64.lt_iff_toInt_lt, Int64.le_iff_toInt_le] at *; omega) | (simp_all; done))
theorem s_A_errorNorth {d L : Nat} {M : mM} {f t : Nat → Int32} {hs : List (Nat → Int32)} {sn : Option (Nat → Int32)} (h : CR M f hs sn t L) : CT iA_errorNorth (d + 8) [vR 5 0 0] M (.inl (some (vI (bef f 1 (fN f))))) M 0 := by
  have hR := h.1
  have hT := hR.n
  have h12 := hT.2.1
  have h5 := hT.2.2.1
  have hk : CT iT_closingNorth (d + 7) [vR 4 0 0] M (.inl (some (vI (bef f 1 (fN f))))) M 0 := by
    rw [← hT.2.2.2.2.2 1 (by decide) (fN f) (Nat.le_refl _)]
    exact s_T_closingNorth (by decide) (by omega) h5
  refine ct_go hL_A_errorNorth rfl ?_
  refine aw_aload_n k62_0 rfl ?_
  refine aw_getR k62_1 hC_A_errorNorth fs_A_10 (by decide) ⟨rfl, rfl⟩ rfl ?_
  refine aw_getR k62_4 hC_A_errorNorth fs_A_56 (by decide) ⟨(by first | assumption | decide), rfl⟩ rfl ?_
  refine aw_callV0 k62_7 hC_A_errorNorth ok_T_closingNorth sv_A_155 hH_T_closingNorth ⟨(by first | assumption | decide), rfl⟩ (by decide) hN_T_closingNorth (by rw [hL_T_closingNorth]; exact Nat.le_of_ble_eq_true rfl) (Nat.le_of_ble_eq_true rfl) hk ?_
  refine aw_ireturn k62_10 hR_A_errorNorth ?_ ?_
  all_goals first | rfl | exact Or.inl rfl | exact Or.inr rfl | assumption | (simp_all; done) | ((repeat' split) <;> first | rfl | (simp only [Int32.lt_iff_toInt_lt, Int32.le_iff_toInt_le, Int64.lt_iff_toInt_lt, Int64.le_iff_toInt_le] at *; omega) | (simp_all; done))
theorem s_A_isClose {d L : Nat} {M : mM} {f t : Nat → Int32} {hs : List (Nat → Int32)} {sn : Option (Nat → Int32)} (h : CR M f hs sn t L) : CT iA_isClose (d + 8) [vR 5 0 0] M (.inl (some (vI (bI (closeF f (fN f)))))) M 0 := by
  have hR := h.1
  have hT := hR.n
  have h12 := hT.2.1
  have h5 := hT.2.2.1
  have hk : CT iT_closesWell (d + 7) [vR 4 0 0] M (.inl (some (vI (bI (closeF f (fN f)))))) M 0 := by
    rw [← tCloses_eq hT]
    exact s_T_closesWell (by decide) (by omega) h5
  refine ct_go hL_A_isClose rfl ?_
  refine aw_aload_n k63_0 rfl ?_
  refine aw_getR k63_1 hC_A_isClose fs_A_10 (by decide) ⟨rfl, rfl⟩ rfl ?_
  refine aw_getR k63_4 hC_A_isClose fs_A_56 (by decide) ⟨(by first | assumption | decide), rfl⟩ rfl ?_
  refine aw_callV0 k63_7 hC_A_isClose ok_T_closesWell sv_A_158 hH_T_closesWell ⟨(by first | assumption | decide), rfl⟩ (by decide) hN_T_closesWell (by rw [hL_T_closesWell]; exact Nat.le_of_ble_eq_true rfl) (Nat.le_of_ble_eq_true rfl) hk ?_
  refine aw_zreturn k63_10 hR_A_isClose ?_ ?_ ?_
  · cases closeF f (fN f); exact Or.inl rfl; exact Or.inr rfl
  · rfl
  · rfl
theorem s_A_adjustedEast {d L : Nat} {M : mM} {f t : Nat → Int32} {hs : List (Nat → Int32)} {sn : Option (Nat → Int32)} (h : CR M f hs sn t L) {x : Int32} (hx : 0 ≤ x ∧ x ≤ f 0) : CT iA_adjustedEast (d + 8) [vR 5 0 0, vI x] M (.inl (some (vI (adjF f (fN f) x.toNatClampNeg 0)))) M 0 := by
  have hR := h.1
  have hT := hR.n
  have h12 := hT.2.1
  have h5 := hT.2.2.1
  have hk : CT iT_hasCorner (d + 7) [vR 4 0 0, vI x] M (.inl (some (vI 1))) M 0 := by
    have := s_T_hasCorner (d := d + 7) (k := 0) (M := M) (x := x) (by decide)
    rw [if_pos ⟨hx.1, by rw [h5, ← hT.1]; exact hx.2⟩] at this
    exact this
  have e := nI_back hx.1
  have hle : x.toNatClampNeg ≤ fN f := by
    have h2 := hx.2
    rw [hT.1, ← e] at h2
    exact nI_le_of h2 (ha := by
      have h3 := x.toInt_lt
      have h2 : x.toNatClampNeg = x.toInt.toNat := rfl
      omega)
  have hk2 : CT iT_adjustedEastAt (d + 7) [vR 4 0 0, vI x] M (.inl (some (vI (adjF f (fN f) x.toNatClampNeg 0)))) M 0 := by
    have h9 := s_T_adjustedEastAt (d := d + 4) (k := 0) (c := x.toNatClampNeg) (by decide) (by omega) h5 (by omega)
    rw [e, tAdj_eq hT hle (by decide)] at h9
    exact h9
  refine ct_go hL_A_adjustedEast rfl ?_
  refine aw_aload_n k64_0 rfl ?_
  refine aw_getR k64_1 hC_A_adjustedEast fs_A_10 (by decide) ⟨rfl, rfl⟩ rfl ?_
  refine aw_getR k64_4 hC_A_adjustedEast fs_A_56 (by decide) ⟨(by first | assumption | decide), rfl⟩ rfl ?_
  refine aw_iload_n k64_7 rfl ?_
  refine aw_callV1 k64_8 hC_A_adjustedEast ok_T_hasCorner sv_A_161 hH_T_hasCorner ⟨(by first | assumption | decide), rfl⟩ (by decide) hN_T_hasCorner (by rw [hL_T_hasCorner]; exact Nat.le_of_ble_eq_true rfl) (Nat.le_of_ble_eq_true rfl) hk ?_
  refine aw_if_ne 24 k64_11 (by decide) (fun c_11 => ?_) (fun c_11 => ?_)
  · refine aw_aload_n k64_24 rfl ?_
    refine aw_getR k64_25 hC_A_adjustedEast fs_A_10 (by decide) ⟨rfl, rfl⟩ rfl ?_
    refine aw_getR k64_28 hC_A_adjustedEast fs_A_56 (by decide) ⟨(by first | assumption | decide), rfl⟩ rfl ?_
    refine aw_iload_n k64_31 rfl ?_
    refine aw_callV1 k64_32 hC_A_adjustedEast ok_T_adjustedEastAt sv_A_166 hH_T_adjustedEastAt ⟨(by first | assumption | decide), rfl⟩ (by decide) hN_T_adjustedEastAt (by rw [hL_T_adjustedEastAt]; exact Nat.le_of_ble_eq_true rfl) (Nat.le_of_ble_eq_true rfl) hk2 ?_
    refine aw_ireturn k64_35 hR_A_adjustedEast ?_ ?_
    all_goals first | rfl | exact Or.inl rfl | exact Or.inr rfl | assumption | (simp_all; done) | ((repeat' split) <;> first | rfl | (simp only [Int32.lt_iff_toInt_lt, Int32.le_iff_toInt_le, Int64.lt_iff_toInt_lt, Int64.le_iff_toInt_le] at *; omega) | (simp_all; done))
  · exact absurd (show (1 : Int32) = 0 from c_11) (by decide)
theorem s_A_adjustedNorth {d L : Nat} {M : mM} {f t : Nat → Int32} {hs : List (Nat → Int32)} {sn : Option (Nat → Int32)} (h : CR M f hs sn t L) {x : Int32} (hx : 0 ≤ x ∧ x ≤ f 0) : CT iA_adjustedNorth (d + 8) [vR 5 0 0, vI x] M (.inl (some (vI (adjF f (fN f) x.toNatClampNeg 1)))) M 0 := by
  have hR := h.1
  have hT := hR.n
  have h12 := hT.2.1
  have h5 := hT.2.2.1
  have hk : CT iT_hasCorner (d + 7) [vR 4 0 0, vI x] M (.inl (some (vI 1))) M 0 := by
    have := s_T_hasCorner (d := d + 7) (k := 0) (M := M) (x := x) (by decide)
    rw [if_pos ⟨hx.1, by rw [h5, ← hT.1]; exact hx.2⟩] at this
    exact this
  have e := nI_back hx.1
  have hle : x.toNatClampNeg ≤ fN f := by
    have h2 := hx.2
    rw [hT.1, ← e] at h2
    exact nI_le_of h2 (ha := by
      have h3 := x.toInt_lt
      have h2 : x.toNatClampNeg = x.toInt.toNat := rfl
      omega)
  have hk2 : CT iT_adjustedNorthAt (d + 7) [vR 4 0 0, vI x] M (.inl (some (vI (adjF f (fN f) x.toNatClampNeg 1)))) M 0 := by
    have h9 := s_T_adjustedNorthAt (d := d + 4) (k := 0) (c := x.toNatClampNeg) (by decide) (by omega) h5 (by omega)
    rw [e, tAdj_eq hT hle (by decide)] at h9
    exact h9
  refine ct_go hL_A_adjustedNorth rfl ?_
  refine aw_aload_n k65_0 rfl ?_
  refine aw_getR k65_1 hC_A_adjustedNorth fs_A_10 (by decide) ⟨rfl, rfl⟩ rfl ?_
  refine aw_getR k65_4 hC_A_adjustedNorth fs_A_56 (by decide) ⟨(by first | assumption | decide), rfl⟩ rfl ?_
  refine aw_iload_n k65_7 rfl ?_
  refine aw_callV1 k65_8 hC_A_adjustedNorth ok_T_hasCorner sv_A_161 hH_T_hasCorner ⟨(by first | assumption | decide), rfl⟩ (by decide) hN_T_hasCorner (by rw [hL_T_hasCorner]; exact Nat.le_of_ble_eq_true rfl) (Nat.le_of_ble_eq_true rfl) hk ?_
  refine aw_if_ne 24 k65_11 (by decide) (fun c_11 => ?_) (fun c_11 => ?_)
  · refine aw_aload_n k65_24 rfl ?_
    refine aw_getR k65_25 hC_A_adjustedNorth fs_A_10 (by decide) ⟨rfl, rfl⟩ rfl ?_
    refine aw_getR k65_28 hC_A_adjustedNorth fs_A_56 (by decide) ⟨(by first | assumption | decide), rfl⟩ rfl ?_
    refine aw_iload_n k65_31 rfl ?_
    refine aw_callV1 k65_32 hC_A_adjustedNorth ok_T_adjustedNorthAt sv_A_170 hH_T_adjustedNorthAt ⟨(by first | assumption | decide), rfl⟩ (by decide) hN_T_adjustedNorthAt (by rw [hL_T_adjustedNorthAt]; exact Nat.le_of_ble_eq_true rfl) (Nat.le_of_ble_eq_true rfl) hk2 ?_
    refine aw_ireturn k65_35 hR_A_adjustedNorth ?_ ?_
    all_goals first | rfl | exact Or.inl rfl | exact Or.inr rfl | assumption | (simp_all; done) | ((repeat' split) <;> first | rfl | (simp only [Int32.lt_iff_toInt_lt, Int32.le_iff_toInt_le, Int64.lt_iff_toInt_lt, Int64.le_iff_toInt_le] at *; omega) | (simp_all; done))
  · exact absurd (show (1 : Int32) = 0 from c_11) (by decide)
theorem s_A_fields {d L : Nat} {M : mM} {f t : Nat → Int32} {hs : List (Nat → Int32)} {sn : Option (Nat → Int32)} (h : CR M f hs sn t L) : CT iA_fields (d + 8) [vR 5 0 0] M (.inl (some (vI (f 39)))) M 0 := by
  have hR := h.1
  refine ct_go hL_A_fields rfl ?_
  refine aw_aload_n k66_0 rfl ?_
  refine aw_getR k66_1 hC_A_fields fs_A_10 (by decide) ⟨rfl, rfl⟩ rfl ?_
  refine aw_getI k66_4 hC_A_fields fs_A_96 (by decide) ⟨(by first | assumption | decide), rfl⟩ rfl ?_
  refine aw_ireturn k66_7 hR_A_fields ?_ ?_
  exact hR.c.2.2.1.trans hR.c.1.symm; rfl
theorem s_A_cornersOf {d L : Nat} {M : mM} {f t : Nat → Int32} {hs : List (Nat → Int32)} {sn : Option (Nat → Int32)} (h : CR M f hs sn t L) {x : Int32} (hx : hasF f x = true) : CT iA_cornersOf (d + 8) [vR 5 0 0, vI x] M (.inl (some (vI (f (40 + 25 * x.toNatClampNeg))))) M 0 := by
  have hR := h.1
  have hlt := (hasF_at hx hR.c.1 hR.c.2.1).2
  have hfd := hR.fd hlt
  have hok6 : x.toNatClampNeg < 6 := by have := hR.c.2.1; omega
  refine ct_go hL_A_cornersOf rfl ?_
  refine aw_aload_n k67_0 rfl ?_
  refine aw_iload_n k67_1 rfl ?_
  refine aw_callV1 k67_2 hC_A_cornersOf ok_A_knownField sv_A_173 hH_A_knownField ⟨rfl, rfl⟩ (by decide) hN_A_knownField (by rw [hL_A_knownField]; exact Nat.le_of_ble_eq_true rfl) (Nat.le_of_ble_eq_true rfl) (s_A_knownField hR hx) ?_
  refine aw_getI k67_5 hC_A_cornersOf fs_A_177 (by decide) ⟨(by decide), hok6⟩ rfl ?_
  refine aw_ireturn k67_8 hR_A_cornersOf ?_ ?_
  exact hfd.2.2.2.1.trans hfd.1.symm; rfl
theorem s_A_leftTurns {d L : Nat} {M : mM} {f t : Nat → Int32} {hs : List (Nat → Int32)} {sn : Option (Nat → Int32)} (h : CR M f hs sn t L) {x : Int32} (hx : hasF f x = true) : CT iA_leftTurns (d + 8) [vR 5 0 0, vI x] M (.inl (some (vI (nI (leF f x.toNatClampNeg))))) M 0 := by
  have hR := h.1
  have hlt := (hasF_at hx hR.c.1 hR.c.2.1).2
  have hfd := hR.fd hlt
  have hok6 : x.toNatClampNeg < 6 := by have := hR.c.2.1; omega
  refine ct_go hL_A_leftTurns rfl ?_
  refine aw_aload_n k70_0 rfl ?_
  refine aw_iload_n k70_1 rfl ?_
  refine aw_callV1 k70_2 hC_A_leftTurns ok_A_knownField sv_A_173 hH_A_knownField ⟨rfl, rfl⟩ (by decide) hN_A_knownField (by rw [hL_A_knownField]; exact Nat.le_of_ble_eq_true rfl) (Nat.le_of_ble_eq_true rfl) (s_A_knownField hR hx) ?_
  refine aw_callV0 k70_5 hC_A_leftTurns ok_F_turnsToTheLeft sv_A_192 hH_F_turnsToTheLeft ⟨(by decide), hok6⟩ (by decide) hN_F_turnsToTheLeft (by rw [hL_F_turnsToTheLeft]; exact Nat.le_of_ble_eq_true rfl) (Nat.le_of_ble_eq_true rfl) (k_left hR hlt) ?_
  refine aw_ireturn k70_8 hR_A_leftTurns ?_ ?_
  all_goals first | rfl | exact Or.inl rfl | exact Or.inr rfl | assumption | (simp_all; done) | ((repeat' split) <;> first | rfl | (simp only [Int32.lt_iff_toInt_lt, Int32.le_iff_toInt_le, Int64.lt_iff_toInt_lt, Int64.le_iff_toInt_le] at *; omega) | (simp_all; done))
theorem s_A_turnsOneWay {d L : Nat} {M : mM} {f t : Nat → Int32} {hs : List (Nat → Int32)} {sn : Option (Nat → Int32)} (h : CR M f hs sn t L) {x : Int32} (hx : hasF f x = true) : CT iA_turnsOneWay (d + 8) [vR 5 0 0, vI x] M (.inl (some (vI (bI (decide (nI (leF f x.toNatClampNeg) = 0) || decide (nI (riF f x.toNatClampNeg) = 0)))))) M 0 := by
  have hR := h.1
  have hlt := (hasF_at hx hR.c.1 hR.c.2.1).2
  have hfd := hR.fd hlt
  have hok6 : x.toNatClampNeg < 6 := by have := hR.c.2.1; omega
  refine ct_go hL_A_turnsOneWay rfl ?_
  refine aw_aload_n k71_0 rfl ?_
  refine aw_iload_n k71_1 rfl ?_
  refine aw_callV1 k71_2 hC_A_turnsOneWay ok_A_knownField sv_A_173 hH_A_knownField ⟨rfl, rfl⟩ (by decide) hN_A_knownField (by rw [hL_A_knownField]; exact Nat.le_of_ble_eq_true rfl) (Nat.le_of_ble_eq_true rfl) (s_A_knownField hR hx) ?_
  refine aw_astore_n k71_5 (Nat.le_of_ble_eq_true rfl) rfl ?_
  refine aw_aload_n k71_6 rfl ?_
  refine aw_callV0 k71_7 hC_A_turnsOneWay ok_F_turnsToTheLeft sv_A_192 hH_F_turnsToTheLeft ⟨(by decide), hok6⟩ (by decide) hN_F_turnsToTheLeft (by rw [hL_F_turnsToTheLeft]; exact Nat.le_of_ble_eq_true rfl) (Nat.le_of_ble_eq_true rfl) (k_left hR hlt) ?_
  refine aw_if_eq 20 k71_10 (by decide) (fun c_10 => ?_) (fun c_10 => ?_)
  · refine aw_iconst (v := 1) k71_20 (by decide) ?_
    refine aw_goto (t := 25) k71_21 (by decide) ?_
    refine aw_zreturn k71_25 hR_A_turnsOneWay ?_ ?_ ?_
    · first | exact Or.inl rfl | exact Or.inr rfl
    · first | exact bI_t (or_t1 (decide_eq_true c_10)) | exact bI_t (or_t2 (decide_eq_true c_17)) | exact bI_f (or_f (decide_eq_false c_10) (decide_eq_false c_17))
    · rfl
  · refine aw_aload_n k71_13 rfl ?_
    refine aw_callV0 k71_14 hC_A_turnsOneWay ok_F_turnsToTheRight sv_A_195 hH_F_turnsToTheRight ⟨(by decide), hok6⟩ (by decide) hN_F_turnsToTheRight (by rw [hL_F_turnsToTheRight]; exact Nat.le_of_ble_eq_true rfl) (Nat.le_of_ble_eq_true rfl) (k_right hR hlt) ?_
    refine aw_if_ne 24 k71_17 (by decide) (fun c_17 => ?_) (fun c_17 => ?_)
    · refine aw_iconst (v := 0) k71_24 (by decide) ?_
      refine aw_zreturn k71_25 hR_A_turnsOneWay ?_ ?_ ?_
      · first | exact Or.inl rfl | exact Or.inr rfl
      · first | exact bI_t (or_t1 (decide_eq_true c_10)) | exact bI_t (or_t2 (decide_eq_true c_17)) | exact bI_f (or_f (decide_eq_false c_10) (decide_eq_false c_17))
      · rfl
    · refine aw_iconst (v := 1) k71_20 (by decide) ?_
      refine aw_goto (t := 25) k71_21 (by decide) ?_
      refine aw_zreturn k71_25 hR_A_turnsOneWay ?_ ?_ ?_
      · first | exact Or.inl rfl | exact Or.inr rfl
      · first | exact bI_t (or_t1 (decide_eq_true c_10)) | exact bI_t (or_t2 (decide_eq_true c_17)) | exact bI_f (or_f (decide_eq_false c_10) (decide_eq_false c_17))
      · rfl
theorem s_A_sidesEastOf {d L : Nat} {M : mM} {f t : Nat → Int32} {hs : List (Nat → Int32)} {sn : Option (Nat → Int32)} (h : CR M f hs sn t L) {x : Int32} (hx : hasF f x = true) {y z : Int32} (hy : inR y 200000) (hz : inR z 200000) : CT iA_sidesEastOf (d + 8) [vR 5 0 0, vI x, vI y, vI z] M (.inl (some (vI (nI (meF f x.toNatClampNeg y z))))) M 0 := by
  have hR := h.1
  have hlt := (hasF_at hx hR.c.1 hR.c.2.1).2
  have hfd := hR.fd hlt
  have hok6 : x.toNatClampNeg < 6 := by have := hR.c.2.1; omega
  refine ct_go hL_A_sidesEastOf rfl ?_
  refine aw_aload_n k72_0 rfl ?_
  refine aw_iload_n k72_1 rfl ?_
  refine aw_callV1 k72_2 hC_A_sidesEastOf ok_A_knownField sv_A_173 hH_A_knownField ⟨rfl, rfl⟩ (by decide) hN_A_knownField (by rw [hL_A_knownField]; exact Nat.le_of_ble_eq_true rfl) (Nat.le_of_ble_eq_true rfl) (s_A_knownField hR hx) ?_
  refine aw_astore k72_5 (Nat.le_of_ble_eq_true rfl) rfl ?_
  refine aw_iload_n k72_7 rfl ?_
  refine aw_ldc k72_8 hC_A_sidesEastOf ci_A_198 ?_
  refine aw_callS2 k72_10 hC_A_sidesEastOf ok_A_isWithin ss_A_40 hH_A_isWithin (by rw [hL_A_isWithin]; exact Nat.le_of_ble_eq_true rfl) (Nat.le_of_ble_eq_true rfl) (iw_t hy) ?_
  refine aw_if_eq 25 k72_13 (by decide) (fun c_13 => ?_) (fun c_13 => ?_)
  · exact absurd (show (1 : Int32) = 0 from c_13) (by decide)
  · refine aw_iload_n k72_16 rfl ?_
    refine aw_ldc k72_17 hC_A_sidesEastOf ci_A_198 ?_
    refine aw_callS2 k72_19 hC_A_sidesEastOf ok_A_isWithin ss_A_40 hH_A_isWithin (by rw [hL_A_isWithin]; exact Nat.le_of_ble_eq_true rfl) (Nat.le_of_ble_eq_true rfl) (iw_t hz) ?_
    refine aw_if_ne 35 k72_22 (by decide) (fun c_22 => ?_) (fun c_22 => ?_)
    · refine aw_aload k72_35 rfl ?_
      refine aw_iload_n k72_37 rfl ?_
      refine aw_iload_n k72_38 rfl ?_
      refine aw_callV2 k72_39 hC_A_sidesEastOf ok_F_sidesMetFrom sv_A_201 hH_F_sidesMetFrom ⟨(by decide), hok6⟩ (by decide) hN_F_sidesMetFrom (by rw [hL_F_sidesMetFrom]; exact Nat.le_of_ble_eq_true rfl) (Nat.le_of_ble_eq_true rfl) (k_met hR hlt) ?_
      refine aw_ireturn k72_42 hR_A_sidesEastOf ?_ ?_
      all_goals first | rfl | exact Or.inl rfl | exact Or.inr rfl | assumption | (simp_all; done) | ((repeat' split) <;> first | rfl | (simp only [Int32.lt_iff_toInt_lt, Int32.le_iff_toInt_le, Int64.lt_iff_toInt_lt, Int64.le_iff_toInt_le] at *; omega) | (simp_all; done))
    · exact absurd (show (1 : Int32) = 0 from c_22) (by decide)
theorem s_A_sharedSides {d L : Nat} {M : mM} {f t : Nat → Int32} {hs : List (Nat → Int32)} {sn : Option (Nat → Int32)} (h : CR M f hs sn t L) {x : Int32} (hx : hasF f x = true) {y : Int32} (hy : hasF f y = true) : CT iA_sharedSides (d + 8) [vR 5 0 0, vI x, vI y] M (.inl (some (vI (nI (shaF f x.toNatClampNeg y.toNatClampNeg))))) M 0 := by
  have hR := h.1
  have hlt := (hasF_at hx hR.c.1 hR.c.2.1).2
  have hfd := hR.fd hlt
  have hok6 : x.toNatClampNeg < 6 := by have := hR.c.2.1; omega
  have hlty := (hasF_at hy hR.c.1 hR.c.2.1).2
  refine ct_go hL_A_sharedSides rfl ?_
  refine aw_aload_n k73_0 rfl ?_
  refine aw_iload_n k73_1 rfl ?_
  refine aw_callV1 k73_2 hC_A_sharedSides ok_A_knownField sv_A_173 hH_A_knownField ⟨rfl, rfl⟩ (by decide) hN_A_knownField (by rw [hL_A_knownField]; exact Nat.le_of_ble_eq_true rfl) (Nat.le_of_ble_eq_true rfl) (s_A_knownField hR hx) ?_
  refine aw_astore_n k73_5 (Nat.le_of_ble_eq_true rfl) rfl ?_
  refine aw_aload_n k73_6 rfl ?_
  refine aw_iload_n k73_7 rfl ?_
  refine aw_callV1 k73_8 hC_A_sharedSides ok_A_knownField sv_A_173 hH_A_knownField ⟨rfl, rfl⟩ (by decide) hN_A_knownField (by rw [hL_A_knownField]; exact Nat.le_of_ble_eq_true rfl) (Nat.le_of_ble_eq_true rfl) (s_A_knownField hR hy) ?_
  refine aw_astore k73_11 (Nat.le_of_ble_eq_true rfl) rfl ?_
  refine aw_aload_n k73_13 rfl ?_
  refine aw_aload k73_14 rfl ?_
  refine aw_callV1 k73_16 hC_A_sharedSides ok_F_sidesAlsoOf sv_A_205 hH_F_sidesAlsoOf ⟨(by decide), hok6⟩ (by decide) hN_F_sidesAlsoOf (by rw [hL_F_sidesAlsoOf]; exact Nat.le_of_ble_eq_true rfl) (Nat.le_of_ble_eq_true rfl) (k_share hR hlt hlty) ?_
  refine aw_ireturn k73_19 hR_A_sharedSides ?_ ?_
  all_goals first | rfl | exact Or.inl rfl | exact Or.inr rfl | assumption | (simp_all; done) | ((repeat' split) <;> first | rfl | (simp only [Int32.lt_iff_toInt_lt, Int32.le_iff_toInt_le, Int64.lt_iff_toInt_lt, Int64.le_iff_toInt_le] at *; omega) | (simp_all; done))
theorem s_A_twiceAreaByCorners {d L : Nat} {M : mM} {f t : Nat → Int32} {hs : List (Nat → Int32)} {sn : Option (Nat → Int32)} (h : CR M f hs sn t L) {x : Int32} (hx : hasF f x = true) : CT iA_twiceAreaByCorners (d + 8) [vR 5 0 0, vI x] M (.inl (some (vL (twF f x.toNatClampNeg)))) M 0 := by
  have hR := h.1
  have hlt := (hasF_at hx hR.c.1 hR.c.2.1).2
  have hfd := hR.fd hlt
  have hok6 : x.toNatClampNeg < 6 := by have := hR.c.2.1; omega
  refine ct_go hL_A_twiceAreaByCorners rfl ?_
  refine aw_aload_n k74_0 rfl ?_
  refine aw_iload_n k74_1 rfl ?_
  refine aw_callV1 k74_2 hC_A_twiceAreaByCorners ok_A_knownField sv_A_173 hH_A_knownField ⟨rfl, rfl⟩ (by decide) hN_A_knownField (by rw [hL_A_knownField]; exact Nat.le_of_ble_eq_true rfl) (Nat.le_of_ble_eq_true rfl) (s_A_knownField hR hx) ?_
  refine aw_callV0 k74_5 hC_A_twiceAreaByCorners ok_F_twiceByCorners sv_A_209 hH_F_twiceByCorners ⟨(by decide), hok6⟩ (by decide) hN_F_twiceByCorners (by rw [hL_F_twiceByCorners]; exact Nat.le_of_ble_eq_true rfl) (Nat.le_of_ble_eq_true rfl) (k_corners hR hlt) ?_
  refine aw_lreturn k74_8 hR_A_twiceAreaByCorners ?_ ?_
  all_goals first | rfl | exact Or.inl rfl | exact Or.inr rfl | assumption | (simp_all; done) | ((repeat' split) <;> first | rfl | (simp only [Int32.lt_iff_toInt_lt, Int32.le_iff_toInt_le, Int64.lt_iff_toInt_lt, Int64.le_iff_toInt_le] at *; omega) | (simp_all; done))
theorem s_A_twiceAreaByStrips {d L : Nat} {M : mM} {f t : Nat → Int32} {hs : List (Nat → Int32)} {sn : Option (Nat → Int32)} (h : CR M f hs sn t L) {x : Int32} (hx : hasF f x = true) : CT iA_twiceAreaByStrips (d + 8) [vR 5 0 0, vI x] M (.inl (some (vL (strF f x.toNatClampNeg)))) M 0 := by
  have hR := h.1
  have hlt := (hasF_at hx hR.c.1 hR.c.2.1).2
  have hfd := hR.fd hlt
  have hok6 : x.toNatClampNeg < 6 := by have := hR.c.2.1; omega
  refine ct_go hL_A_twiceAreaByStrips rfl ?_
  refine aw_aload_n k75_0 rfl ?_
  refine aw_iload_n k75_1 rfl ?_
  refine aw_callV1 k75_2 hC_A_twiceAreaByStrips ok_A_knownField sv_A_173 hH_A_knownField ⟨rfl, rfl⟩ (by decide) hN_A_knownField (by rw [hL_A_knownField]; exact Nat.le_of_ble_eq_true rfl) (Nat.le_of_ble_eq_true rfl) (s_A_knownField hR hx) ?_
  refine aw_callV0 k75_5 hC_A_twiceAreaByStrips ok_F_twiceByStrips sv_A_213 hH_F_twiceByStrips ⟨(by decide), hok6⟩ (by decide) hN_F_twiceByStrips (by rw [hL_F_twiceByStrips]; exact Nat.le_of_ble_eq_true rfl) (Nat.le_of_ble_eq_true rfl) (k_strips hR hlt) ?_
  refine aw_lreturn k75_8 hR_A_twiceAreaByStrips ?_ ?_
  all_goals first | rfl | exact Or.inl rfl | exact Or.inr rfl | assumption | (simp_all; done) | ((repeat' split) <;> first | rfl | (simp only [Int32.lt_iff_toInt_lt, Int32.le_iff_toInt_le, Int64.lt_iff_toInt_lt, Int64.le_iff_toInt_le] at *; omega) | (simp_all; done))
theorem s_A_acresOf {d L : Nat} {M : mM} {f t : Nat → Int32} {hs : List (Nat → Int32)} {sn : Option (Nat → Int32)} (h : CR M f hs sn t L) {x : Int32} (hx : hasF f x = true) : CT iA_acresOf (d + 8) [vR 5 0 0, vI x] M (.inl (some (vI ((twF f x.toNatClampNeg / 2 / 100000).toInt32)))) M 0 := by
  have hR := h.1
  have hlt := (hasF_at hx hR.c.1 hR.c.2.1).2
  have hfd := hR.fd hlt
  have hok6 : x.toNatClampNeg < 6 := by have := hR.c.2.1; omega
  refine ct_go hL_A_acresOf rfl ?_
  refine aw_aload_n k76_0 rfl ?_
  refine aw_iload_n k76_1 rfl ?_
  refine aw_callV1 k76_2 hC_A_acresOf ok_A_knownField sv_A_173 hH_A_knownField ⟨rfl, rfl⟩ (by decide) hN_A_knownField (by rw [hL_A_knownField]; exact Nat.le_of_ble_eq_true rfl) (Nat.le_of_ble_eq_true rfl) (s_A_knownField hR hx) ?_
  refine aw_callV0 k76_5 hC_A_acresOf ok_F_area sv_A_216 hH_F_area ⟨(by decide), hok6⟩ (by decide) hN_F_area (by rw [hL_F_area]; exact Nat.le_of_ble_eq_true rfl) (Nat.le_of_ble_eq_true rfl) (k_area hR hlt) ?_
  refine aw_ldc2_w k76_8 hC_A_acresOf cl_A_219 ?_
  refine aw_ldiv k76_11 (by decide) ?_
  refine aw_l2i k76_12 ?_
  refine aw_ireturn k76_13 hR_A_acresOf ?_ ?_
  all_goals first | rfl | exact Or.inl rfl | exact Or.inr rfl | assumption | (simp_all; done) | ((repeat' split) <;> first | rfl | (simp only [Int32.lt_iff_toInt_lt, Int32.le_iff_toInt_le, Int64.lt_iff_toInt_lt, Int64.le_iff_toInt_le] at *; omega) | (simp_all; done))
theorem s_A_roodsOf {d L : Nat} {M : mM} {f t : Nat → Int32} {hs : List (Nat → Int32)} {sn : Option (Nat → Int32)} (h : CR M f hs sn t L) {x : Int32} (hx : hasF f x = true) : CT iA_roodsOf (d + 8) [vR 5 0 0, vI x] M (.inl (some (vI (((twF f x.toNatClampNeg / 2 - twF f x.toNatClampNeg / 2 / 100000 * 100000) / 25000).toInt32)))) M 0 := by
  have hR := h.1
  have hlt := (hasF_at hx hR.c.1 hR.c.2.1).2
  have hfd := hR.fd hlt
  have hok6 : x.toNatClampNeg < 6 := by have := hR.c.2.1; omega
  refine ct_go hL_A_roodsOf rfl ?_
  refine aw_aload_n k77_0 rfl ?_
  refine aw_iload_n k77_1 rfl ?_
  refine aw_callV1 k77_2 hC_A_roodsOf ok_A_knownField sv_A_173 hH_A_knownField ⟨rfl, rfl⟩ (by decide) hN_A_knownField (by rw [hL_A_knownField]; exact Nat.le_of_ble_eq_true rfl) (Nat.le_of_ble_eq_true rfl) (s_A_knownField hR hx) ?_
  refine aw_callV0 k77_5 hC_A_roodsOf ok_F_area sv_A_216 hH_F_area ⟨(by decide), hok6⟩ (by decide) hN_F_area (by rw [hL_F_area]; exact Nat.le_of_ble_eq_true rfl) (Nat.le_of_ble_eq_true rfl) (k_area hR hlt) ?_
  refine aw_ldc2_w k77_8 hC_A_roodsOf cl_A_219 ?_
  refine aw_lrem k77_11 (by decide) ?_
  refine aw_ldc2_w k77_12 hC_A_roodsOf cl_A_221 ?_
  refine aw_ldiv k77_15 (by decide) ?_
  refine aw_l2i k77_16 ?_
  refine aw_ireturn k77_17 hR_A_roodsOf ?_ ?_
  all_goals first | rfl | exact Or.inl rfl | exact Or.inr rfl | assumption | (simp_all; done) | ((repeat' split) <;> first | rfl | (simp only [Int32.lt_iff_toInt_lt, Int32.le_iff_toInt_le, Int64.lt_iff_toInt_lt, Int64.le_iff_toInt_le] at *; omega) | (simp_all; done))
theorem s_A_perchesOf {d L : Nat} {M : mM} {f t : Nat → Int32} {hs : List (Nat → Int32)} {sn : Option (Nat → Int32)} (h : CR M f hs sn t L) {x : Int32} (hx : hasF f x = true) : CT iA_perchesOf (d + 8) [vR 5 0 0, vI x] M (.inl (some (vI (((twF f x.toNatClampNeg / 2 - twF f x.toNatClampNeg / 2 / 25000 * 25000) / 625).toInt32)))) M 0 := by
  have hR := h.1
  have hlt := (hasF_at hx hR.c.1 hR.c.2.1).2
  have hfd := hR.fd hlt
  have hok6 : x.toNatClampNeg < 6 := by have := hR.c.2.1; omega
  refine ct_go hL_A_perchesOf rfl ?_
  refine aw_aload_n k78_0 rfl ?_
  refine aw_iload_n k78_1 rfl ?_
  refine aw_callV1 k78_2 hC_A_perchesOf ok_A_knownField sv_A_173 hH_A_knownField ⟨rfl, rfl⟩ (by decide) hN_A_knownField (by rw [hL_A_knownField]; exact Nat.le_of_ble_eq_true rfl) (Nat.le_of_ble_eq_true rfl) (s_A_knownField hR hx) ?_
  refine aw_callV0 k78_5 hC_A_perchesOf ok_F_area sv_A_216 hH_F_area ⟨(by decide), hok6⟩ (by decide) hN_F_area (by rw [hL_F_area]; exact Nat.le_of_ble_eq_true rfl) (Nat.le_of_ble_eq_true rfl) (k_area hR hlt) ?_
  refine aw_ldc2_w k78_8 hC_A_perchesOf cl_A_221 ?_
  refine aw_lrem k78_11 (by decide) ?_
  refine aw_ldc2_w k78_12 hC_A_perchesOf cl_A_223 ?_
  refine aw_ldiv k78_15 (by decide) ?_
  refine aw_l2i k78_16 ?_
  refine aw_ireturn k78_17 hR_A_perchesOf ?_ ?_
  all_goals first | rfl | exact Or.inl rfl | exact Or.inr rfl | assumption | (simp_all; done) | ((repeat' split) <;> first | rfl | (simp only [Int32.lt_iff_toInt_lt, Int32.le_iff_toInt_le, Int64.lt_iff_toInt_lt, Int64.le_iff_toInt_le] at *; omega) | (simp_all; done))
theorem s_A_largestField {d L : Nat} {M : mM} {f t : Nat → Int32} {hs : List (Nat → Int32)} {sn : Option (Nat → Int32)} (h : CR M f hs sn t L) : CT iA_largestField (d + 8) [vR 5 0 0] M (.inl (some (vI (grF f (fC f)).1))) M 0 := by
  have hR := h.1
  refine ct_go hL_A_largestField rfl ?_
  refine aw_aload_n k79_0 rfl ?_
  refine aw_getR k79_1 hC_A_largestField fs_A_10 (by decide) ⟨rfl, rfl⟩ rfl ?_
  refine aw_callV0 k79_4 hC_A_largestField ok_S_fieldOfGreatestArea sv_A_225 hH_S_fieldOfGreatestArea ⟨(by first | assumption | decide), rfl⟩ (by decide) hN_S_fieldOfGreatestArea (by rw [hL_S_fieldOfGreatestArea]; exact Nat.le_of_ble_eq_true rfl) (Nat.le_of_ble_eq_true rfl) (s_S_fieldOfGreatestArea hR) ?_
  refine aw_ireturn k79_7 hR_A_largestField ?_ ?_
  all_goals first | rfl | exact Or.inl rfl | exact Or.inr rfl | assumption | (simp_all; done) | ((repeat' split) <;> first | rfl | (simp only [Int32.lt_iff_toInt_lt, Int32.le_iff_toInt_le, Int64.lt_iff_toInt_lt, Int64.le_iff_toInt_le] at *; omega) | (simp_all; done))
theorem s_A_twiceAreaOfAll {d L : Nat} {M : mM} {f t : Nat → Int32} {hs : List (Nat → Int32)} {sn : Option (Nat → Int32)} (h : CR M f hs sn t L) : CT iA_twiceAreaOfAll (d + 8) [vR 5 0 0] M (.inl (some (vL (sumL (twF f) (fC f))))) M 0 := by
  have hR := h.1
  refine ct_go hL_A_twiceAreaOfAll rfl ?_
  refine aw_aload_n k80_0 rfl ?_
  refine aw_getR k80_1 hC_A_twiceAreaOfAll fs_A_10 (by decide) ⟨rfl, rfl⟩ rfl ?_
  refine aw_callV0 k80_4 hC_A_twiceAreaOfAll ok_S_sumOfTwiceAreas sv_A_228 hH_S_sumOfTwiceAreas ⟨(by first | assumption | decide), rfl⟩ (by decide) hN_S_sumOfTwiceAreas (by rw [hL_S_sumOfTwiceAreas]; exact Nat.le_of_ble_eq_true rfl) (Nat.le_of_ble_eq_true rfl) (s_S_sumOfTwiceAreas hR) ?_
  refine aw_lreturn k80_7 hR_A_twiceAreaOfAll ?_ ?_
  all_goals first | rfl | exact Or.inl rfl | exact Or.inr rfl | assumption | (simp_all; done) | ((repeat' split) <;> first | rfl | (simp only [Int32.lt_iff_toInt_lt, Int32.le_iff_toInt_le, Int64.lt_iff_toInt_lt, Int64.le_iff_toInt_le] at *; omega) | (simp_all; done))
def pcs (x y : Int32) : Int32 := if x ≤ 0 ∨ y ≤ 0 then 1 else (x - 1) / y + 1
theorem s_A_piecesNeeded {d : Nat} {M : mM} {x y : Int32} : CT iA_piecesNeeded d [vI x, vI y] M (.inl (some (vI (pcs x y)))) M 0 := by
  refine ct_go hL_A_piecesNeeded rfl ?_
  unfold pcs
  by_cases h1 : x ≤ 0
  · rw [if_pos (Or.inl h1)]
    refine aw_iload_n k90_0 rfl ?_
    refine aw_if_le 8 k90_1 (by decide) (fun c_1 => ?_) (fun c_1 => ?_)
    · refine aw_iconst (v := 1) k90_8 (by decide) ?_
      refine aw_ireturn k90_9 hR_A_piecesNeeded ?_ ?_
      all_goals first | rfl | exact Or.inl rfl | exact Or.inr rfl | assumption | (simp_all; done) | ((repeat' split) <;> first | rfl | (simp only [Int32.lt_iff_toInt_lt, Int32.le_iff_toInt_le, Int64.lt_iff_toInt_lt, Int64.le_iff_toInt_le] at *; omega) | (simp_all; done))
    · exact absurd h1 c_1
  · by_cases h2 : y ≤ 0
    · rw [if_pos (Or.inr h2)]
      refine aw_iload_n k90_0 rfl ?_
      refine aw_if_le 8 k90_1 (by decide) (fun c_1 => ?_) (fun c_1 => ?_)
      · exact absurd c_1 h1
      · refine aw_iload_n k90_4 rfl ?_
        refine aw_if_gt 10 k90_5 (by decide) (fun c_5 => ?_) (fun c_5 => ?_)
        · exact absurd h2 (Int32.not_le.mpr c_5)
        · refine aw_iconst (v := 1) k90_8 (by decide) ?_
          refine aw_ireturn k90_9 hR_A_piecesNeeded ?_ ?_
          all_goals first | rfl | exact Or.inl rfl | exact Or.inr rfl | assumption | (simp_all; done) | ((repeat' split) <;> first | rfl | (simp only [Int32.lt_iff_toInt_lt, Int32.le_iff_toInt_le, Int64.lt_iff_toInt_lt, Int64.le_iff_toInt_le] at *; omega) | (simp_all; done))
    · rw [if_neg (fun q => q.elim h1 h2)]
      have h0 : ¬ y = 0 := fun e => h2 (by rw [e]; exact Int32.le_refl 0)
      refine aw_iload_n k90_0 rfl ?_
      refine aw_if_le 8 k90_1 (by decide) (fun c_1 => ?_) (fun c_1 => ?_)
      · exact absurd c_1 h1
      · refine aw_iload_n k90_4 rfl ?_
        refine aw_if_gt 10 k90_5 (by decide) (fun c_5 => ?_) (fun c_5 => ?_)
        · refine aw_iload_n k90_10 rfl ?_
          refine aw_iconst (v := 1) k90_11 (by decide) ?_
          refine aw_isub k90_12 ?_
          refine aw_iload_n k90_13 rfl ?_
          refine aw_idiv k90_14 h0 ?_
          refine aw_iconst (v := 1) k90_15 (by decide) ?_
          refine aw_iadd k90_16 ?_
          refine aw_ireturn k90_17 hR_A_piecesNeeded ?_ ?_
          all_goals first | rfl | exact Or.inl rfl | exact Or.inr rfl | assumption | (simp_all; done) | ((repeat' split) <;> first | rfl | (simp only [Int32.lt_iff_toInt_lt, Int32.le_iff_toInt_le, Int64.lt_iff_toInt_lt, Int64.le_iff_toInt_le] at *; omega) | (simp_all; done))
        · exact absurd (Int32.not_lt.mp c_5) h2
def scF (x y : Int32) : Int32 :=
  let e := if x < y then y else x
  let l := if 10 < pcs e 20 then pcs e 20 else 10
  if l ≤ 1000 then l else -1
theorem s_A_sheetsFor {d L : Nat} {M : mM} {f t : Nat → Int32} {hs : List (Nat → Int32)} {sn : Option (Nat → Int32)} (h : CR M f hs sn t L) {x : Int32} (hx : hasF f x = true) {y : Int32} (hy : 10 ≤ y ∧ y ≤ 1000) : CT iA_sheetsFor (d + 8) [vR 5 0 0, vI x, vI y] M (.inl (some (vI (pcs (exX f x.toNatClampNeg) (20 * y) * pcs (exY f x.toNatClampNeg) (20 * y))))) M 0 := by
  have hR := h.1
  have hlt := (hasF_at hx hR.c.1 hR.c.2.1).2
  have hfd := hR.fd hlt
  have hok6 : x.toNatClampNeg < 6 := by have := hR.c.2.1; omega
  refine ct_go hL_A_sheetsFor rfl ?_
  refine aw_aload_n k81_0 rfl ?_
  refine aw_iload_n k81_1 rfl ?_
  refine aw_callV1 k81_2 hC_A_sheetsFor ok_A_knownField sv_A_173 hH_A_knownField ⟨rfl, rfl⟩ (by decide) hN_A_knownField (by rw [hL_A_knownField]; exact Nat.le_of_ble_eq_true rfl) (Nat.le_of_ble_eq_true rfl) (s_A_knownField hR hx) ?_
  refine aw_astore_n k81_5 (Nat.le_of_ble_eq_true rfl) rfl ?_
  refine aw_iload_n k81_6 rfl ?_
  refine aw_bipush (v := 10) k81_7 (by decide) ?_
  refine aw_icmp_lt 19 k81_9 (by decide) (fun c_9 => ?_) (fun c_9 => ?_)
  · exact absurd hy.1 (Int32.not_le.mpr c_9)
  · refine aw_iload_n k81_12 rfl ?_
    refine aw_sipush (v := 1000) k81_13 (by decide) ?_
    refine aw_icmp_le 29 k81_16 (by decide) (fun c_16 => ?_) (fun c_16 => ?_)
    · refine aw_bipush (v := 20) k81_29 (by decide) ?_
      refine aw_iload_n k81_31 rfl ?_
      refine aw_imul k81_32 ?_
      refine aw_istore k81_33 (Nat.le_of_ble_eq_true rfl) rfl ?_
      refine aw_aload_n k81_35 rfl ?_
      refine aw_callV0 k81_36 hC_A_sheetsFor ok_F_extentEast sv_A_233 hH_F_extentEast ⟨(by decide), hok6⟩ (by decide) hN_F_extentEast (by rw [hL_F_extentEast]; exact Nat.le_of_ble_eq_true rfl) (Nat.le_of_ble_eq_true rfl) (k_exX hR hlt) ?_
      refine aw_iload k81_39 rfl ?_
      refine aw_callS2 k81_41 hC_A_sheetsFor ok_A_piecesNeeded ss_A_236 hH_A_piecesNeeded (by rw [hL_A_piecesNeeded]; exact Nat.le_of_ble_eq_true rfl) (Nat.le_of_ble_eq_true rfl) s_A_piecesNeeded ?_
      refine aw_aload_n k81_44 rfl ?_
      refine aw_callV0 k81_45 hC_A_sheetsFor ok_F_extentNorth sv_A_239 hH_F_extentNorth ⟨(by decide), hok6⟩ (by decide) hN_F_extentNorth (by rw [hL_F_extentNorth]; exact Nat.le_of_ble_eq_true rfl) (Nat.le_of_ble_eq_true rfl) (k_exY hR hlt) ?_
      refine aw_iload k81_48 rfl ?_
      refine aw_callS2 k81_50 hC_A_sheetsFor ok_A_piecesNeeded ss_A_236 hH_A_piecesNeeded (by rw [hL_A_piecesNeeded]; exact Nat.le_of_ble_eq_true rfl) (Nat.le_of_ble_eq_true rfl) s_A_piecesNeeded ?_
      refine aw_imul k81_53 ?_
      refine aw_ireturn k81_54 hR_A_sheetsFor ?_ ?_
      all_goals first | rfl | exact Or.inl rfl | exact Or.inr rfl | assumption | (simp_all; done) | ((repeat' split) <;> first | rfl | (simp only [Int32.lt_iff_toInt_lt, Int32.le_iff_toInt_le, Int64.lt_iff_toInt_lt, Int64.le_iff_toInt_le] at *; omega) | (simp_all; done))
    · exact absurd hy.2 c_16
theorem s_A_scaleFor {d L : Nat} {M : mM} {f t : Nat → Int32} {hs : List (Nat → Int32)} {sn : Option (Nat → Int32)} (h : CR M f hs sn t L) {x : Int32} (hx : hasF f x = true) : CT iA_scaleFor (d + 8) [vR 5 0 0, vI x] M (.inl (some (vI (scF (exX f x.toNatClampNeg) (exY f x.toNatClampNeg))))) M 0 := by
  have hR := h.1
  have hlt := (hasF_at hx hR.c.1 hR.c.2.1).2
  have hfd := hR.fd hlt
  have hok6 : x.toNatClampNeg < 6 := by have := hR.c.2.1; omega
  obtain ⟨e, he⟩ : ∃ e, e = if exX f x.toNatClampNeg < exY f x.toNatClampNeg then exY f x.toNatClampNeg else exX f x.toNatClampNeg := ⟨_, rfl⟩
  obtain ⟨l, hl⟩ : ∃ l, l = if 10 < pcs e 20 then pcs e 20 else 10 := ⟨_, rfl⟩
  have hs : scF (exX f x.toNatClampNeg) (exY f x.toNatClampNeg) = if l ≤ 1000 then l else -1 := by rw [hl, he]; rfl
  rw [hs]
  refine ct_go hL_A_scaleFor rfl ?_
  refine aw_aload_n k82_0 rfl ?_
  refine aw_iload_n k82_1 rfl ?_
  refine aw_callV1 k82_2 hC_A_scaleFor ok_A_knownField sv_A_173 hH_A_knownField ⟨rfl, rfl⟩ (by decide) hN_A_knownField (by rw [hL_A_knownField]; exact Nat.le_of_ble_eq_true rfl) (Nat.le_of_ble_eq_true rfl) (s_A_knownField hR hx) ?_
  refine aw_astore_n k82_5 (Nat.le_of_ble_eq_true rfl) rfl ?_
  refine aw_aload_n k82_6 rfl ?_
  refine aw_callV0 k82_7 hC_A_scaleFor ok_F_extentEast sv_A_233 hH_F_extentEast ⟨(by decide), hok6⟩ (by decide) hN_F_extentEast (by rw [hL_F_extentEast]; exact Nat.le_of_ble_eq_true rfl) (Nat.le_of_ble_eq_true rfl) (k_exX hR hlt) ?_
  refine aw_aload_n k82_10 rfl ?_
  refine aw_callV0 k82_11 hC_A_scaleFor ok_F_extentNorth sv_A_239 hH_F_extentNorth ⟨(by decide), hok6⟩ (by decide) hN_F_extentNorth (by rw [hL_F_extentNorth]; exact Nat.le_of_ble_eq_true rfl) (Nat.le_of_ble_eq_true rfl) (k_exY hR hlt) ?_
  refine aw_callS2 k82_14 hC_A_scaleFor ok_J_max ss_A_242 hH_J_max (by rw [hL_J_max]; exact Nat.le_of_ble_eq_true rfl) (Nat.le_of_ble_eq_true rfl) s_J_max ?_
  rw [← he]
  refine aw_istore_n k82_17 (Nat.le_of_ble_eq_true rfl) rfl ?_
  refine aw_bipush (v := 10) k82_18 (by decide) ?_
  refine aw_iload_n k82_20 rfl ?_
  refine aw_bipush (v := 20) k82_21 (by decide) ?_
  refine aw_callS2 k82_23 hC_A_scaleFor ok_A_piecesNeeded ss_A_236 hH_A_piecesNeeded (by rw [hL_A_piecesNeeded]; exact Nat.le_of_ble_eq_true rfl) (Nat.le_of_ble_eq_true rfl) s_A_piecesNeeded ?_
  refine aw_callS2 k82_26 hC_A_scaleFor ok_J_max ss_A_242 hH_J_max (by rw [hL_J_max]; exact Nat.le_of_ble_eq_true rfl) (Nat.le_of_ble_eq_true rfl) s_J_max ?_
  rw [← hl]
  refine aw_istore k82_29 (Nat.le_of_ble_eq_true rfl) rfl ?_
  refine aw_iload k82_31 rfl ?_
  refine aw_sipush (v := 1000) k82_33 (by decide) ?_
  refine aw_icmp_gt 44 k82_36 (by decide) (fun c_36 => ?_) (fun c_36 => ?_)
  · refine aw_iconst (v := (-1)) k82_44 (by decide) ?_
    refine aw_ireturn k82_45 hR_A_scaleFor ?_ ?_
    · first | exact (if_pos (Int32.not_lt.mp c_36)).symm | exact (if_neg (Int32.not_le.mpr c_36)).symm
    · rfl
  · refine aw_iload k82_39 rfl ?_
    refine aw_goto (t := 45) k82_41 (by decide) ?_
    refine aw_ireturn k82_45 hR_A_scaleFor ?_ ?_
    · first | exact (if_pos (Int32.not_lt.mp c_36)).symm | exact (if_neg (Int32.not_le.mpr c_36)).symm
    · rfl
theorem s_A_recordedStates {d L : Nat} {M : mM} {f t : Nat → Int32} {hs : List (Nat → Int32)} {sn : Option (Nat → Int32)} (h : CR M f hs sn t L) : CT iA_recordedStates (d + 8) [vR 5 0 0] M (.inl (some (vI (nI hs.length)))) M 0 := by
  have hR := h.1
  obtain ⟨a, -, -, ha3, -, -⟩ := h.2.1
  refine ct_go hL_A_recordedStates rfl ?_
  refine aw_aload_n k83_0 rfl ?_
  refine aw_getR k83_1 hC_A_recordedStates fs_A_25 (by decide) ⟨rfl, rfl⟩ rfl ?_
  refine aw_getI k83_4 hC_A_recordedStates fs_A_140 (by decide) ⟨rfl, rfl⟩ rfl ?_
  refine aw_ireturn k83_7 hR_A_recordedStates ?_ ?_
  exact ha3; rfl
