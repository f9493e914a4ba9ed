/-! A CORNER of a field, on both sides -/
def hcF (f : Nat → Int32) (x y : Int32) : Prop := 0 ≤ y ∧ y < f (40 + 25 * x.toNatClampNeg)
theorem hc_at {f : Nat → Int32} {x y : Int32} (hS : ShF f) (hx : hasF f x = true) (hy : hcF f x y) : y = nI y.toNatClampNeg ∧ y.toNatClampNeg < bN f x.toNatClampNeg ∧ bN f x.toNatClampNeg ≤ 12 := by
  obtain ⟨ex, hlt⟩ := hasF_at hx hS.2.2.1 hS.2.2.2.1
  obtain ⟨h1, h2, h3⟩ := hS.2.2.2.2 _ hlt
  have e := nI_back hy.1
  refine ⟨e.symm, ?_, h3⟩
  have h4 := hy.2
  rw [h1, ← e] at h4
  exact nI_lt_of h4 (ha := by
    have h3 := y.toInt_lt
    have h2 : y.toNatClampNeg = y.toInt.toNat := rfl
    omega)
theorem s_A_fieldWithCorner {d : Nat} {M : mM} {f : Nat → Int32} {x y : Int32} (hR : RelS M 0 f) (hx : hasF f x = true) (hy : hcF f x y) : CT iA_fieldWithCorner (d + 7) [vR 5 0 0, vI x, vI y] M (.inl (some (vR 0 0 x.toNatClampNeg))) M 0 := by
  obtain ⟨ex, hlt⟩ := hasF_at hx hR.c.1 hR.c.2.1
  have hok6 : x.toNatClampNeg < 6 := by have := hR.c.2.1; omega
  have hfd := hR.fd hlt
  have hk := s_F_hasCorner (d := d + 6) (s := 0) (j := x.toNatClampNeg) (M := M) (x := y) (by decide) hok6
  rw [if_pos ⟨hy.1, by rw [hfd.2.2.2.1, ← hfd.1]; exact hy.2⟩] at hk
  refine ct_go hL_A_fieldWithCorner rfl ?_
  refine aw_aload_n k108_0 rfl ?_
  refine aw_iload_n k108_1 rfl ?_
  refine aw_callV1 k108_2 hC_A_fieldWithCorner ok_A_knownField sv_A_173 hH_A_knownField ⟨rfl, rfl⟩ (by decide) hN_A_knownField (by rw [hL_A_knownField]; exact Nat.le_of_ble_eq_true rfl) (Nat.le_of_ble_eq_true rfl) (s_A_knownField hR hx) ?_
  refine aw_astore_n k108_5 (Nat.le_of_ble_eq_true rfl) rfl ?_
  refine aw_aload_n k108_6 rfl ?_
  refine aw_iload_n k108_7 rfl ?_
  refine aw_callV1 k108_8 hC_A_fieldWithCorner ok_F_hasCorner sv_A_257 hH_F_hasCorner ⟨(by decide), hok6⟩ (by decide) hN_F_hasCorner (by rw [hL_F_hasCorner]; exact Nat.le_of_ble_eq_true rfl) (Nat.le_of_ble_eq_true rfl) hk ?_
  refine aw_if_ne 25 k108_11 (by decide) (fun c_11 => ?_) (fun c_11 => ?_)
  · refine aw_aload_n k108_25 rfl ?_
    refine aw_areturn k108_26 ⟨_, hR_A_fieldWithCorner⟩ ?_
    all_goals first | rfl | exact Or.inl rfl | exact Or.inr rfl | assumption | (simp_all; done) | ((repeat' split) <;> first | rfl | (simp only [Int32.lt_iff_toInt_lt, Int32.le_iff_toInt_le, Int64.lt_iff_toInt_lt, Int64.le_iff_toInt_le] at *; omega) | (simp_all; done))
  · exact absurd (show (1 : Int32) = 0 from c_11) (by decide)
theorem x_A_fieldWithCorner {d : Nat} {M : mM} {f : Nat → Int32} {x y : Int32} (hR : RelS M 0 f) (hx : ¬ (hasF f x = true ∧ hcF f x y)) : CT iA_fieldWithCorner (d + 7) [vR 5 0 0, vI x, vI y] M (.inr tIOB) M 1 := by
  by_cases h1 : hasF f x = true
  · have h2 : ¬ hcF f x y := fun q => hx ⟨h1, q⟩
    obtain ⟨ex, hlt⟩ := hasF_at h1 hR.c.1 hR.c.2.1
    have hok6 : x.toNatClampNeg < 6 := by have := hR.c.2.1; omega
    have hfd := hR.fd hlt
    have hk := s_F_hasCorner (d := d + 6) (s := 0) (j := x.toNatClampNeg) (M := M) (x := y) (by decide) hok6
    rw [if_neg (fun q => h2 ⟨q.1, by have := q.2; rw [hfd.2.2.2.1, ← hfd.1] at this; exact this⟩)] at hk
    refine ct_go hL_A_fieldWithCorner rfl ?_
    refine aw_aload_n k108_0 rfl ?_
    refine aw_iload_n k108_1 rfl ?_
    refine aw_callV1 k108_2 hC_A_fieldWithCorner ok_A_knownField sv_A_173 hH_A_knownField ⟨rfl, rfl⟩ (by decide) hN_A_knownField (by rw [hL_A_knownField]; exact Nat.le_of_ble_eq_true rfl) (Nat.le_of_ble_eq_true rfl) (s_A_knownField hR h1) ?_
    refine aw_astore_n k108_5 (Nat.le_of_ble_eq_true rfl) rfl ?_
    refine aw_aload_n k108_6 rfl ?_
    refine aw_iload_n k108_7 rfl ?_
    refine aw_callV1 k108_8 hC_A_fieldWithCorner ok_F_hasCorner sv_A_257 hH_F_hasCorner ⟨(by decide), hok6⟩ (by decide) hN_F_hasCorner (by rw [hL_F_hasCorner]; exact Nat.le_of_ble_eq_true rfl) (Nat.le_of_ble_eq_true rfl) hk ?_
    refine aw_if_ne 25 k108_11 (by decide) (fun c_11 => ?_) (fun c_11 => ?_)
    · exact absurd rfl c_11
    · exact aw_throwW k108_14 k108_17 k108_18 k108_21 k108_24 hC_A_fieldWithCorner th_IOB (si := 13) rfl hH_A_fieldWithCorner (Nat.le_of_ble_eq_true rfl)
  · have hf := Bool.eq_false_iff.mpr h1
    refine ct_go hL_A_fieldWithCorner rfl ?_
    refine aw_aload_n k108_0 rfl ?_
    refine aw_iload_n k108_1 rfl ?_
    exact aw_callVX1 k108_2 hC_A_fieldWithCorner ok_A_knownField sv_A_173 hH_A_knownField ⟨rfl, rfl⟩ (by decide) hN_A_knownField (by rw [hL_A_knownField]; exact Nat.le_of_ble_eq_true rfl) (Nat.le_of_ble_eq_true rfl) hH_A_fieldWithCorner (x_A_knownField hR hf)
theorem s_A_cornerEast {d : Nat} {M : mM} {f : Nat → Int32} {x y : Int32} (hR : RelS M 0 f) (hx : hasF f x = true) (hy : hcF f x y) : CT iA_cornerEast (d + 8) [vR 5 0 0, vI x, vI y] M (.inl (some (vI (fX f x.toNatClampNeg y.toNatClampNeg)))) M 0 := by
  obtain ⟨ex, hlt⟩ := hasF_at hx hR.c.1 hR.c.2.1
  have hok6 : x.toNatClampNeg < 6 := by have := hR.c.2.1; omega
  obtain ⟨ey, hy1, hy2⟩ := hc_at hR.sh hx hy
  have hk := s_F_eastAt (d := d + 6) (s := 0) (j := x.toNatClampNeg) (i := y.toNatClampNeg) (M := M) (by decide) hok6 (by omega)
  rw [← ey, rX hR hlt _ hy1] at hk
  refine ct_go hL_A_cornerEast rfl ?_
  refine aw_aload_n k89_0 rfl ?_
  refine aw_iload_n k89_1 rfl ?_
  refine aw_iload_n k89_2 rfl ?_
  refine aw_callV2 k89_3 hC_A_cornerEast ok_A_fieldWithCorner sv_A_182 hH_A_fieldWithCorner ⟨rfl, rfl⟩ (by decide) hN_A_fieldWithCorner (by rw [hL_A_fieldWithCorner]; exact Nat.le_of_ble_eq_true rfl) (Nat.le_of_ble_eq_true rfl) (s_A_fieldWithCorner hR hx hy) ?_
  refine aw_iload_n k89_6 rfl ?_
  refine aw_callV1 k89_7 hC_A_cornerEast ok_F_eastAt sv_A_186 hH_F_eastAt ⟨(by decide), hok6⟩ (by decide) hN_F_eastAt (by rw [hL_F_eastAt]; exact Nat.le_of_ble_eq_true rfl) (Nat.le_of_ble_eq_true rfl) hk ?_
  refine aw_ireturn k89_10 hR_A_cornerEast ?_ ?_
  all_goals first | rfl | exact Or.inl rfl | exact Or.inr rfl | assumption | (simp_all; done) | ((repeat' split) <;> first | rfl | (simp only [Int32.lt_iff_toInt_lt, Int32.le_iff_toInt_le, Int64.lt_iff_toInt_lt, Int64.le_iff_toInt_le] at *; omega) | (simp_all; done))
theorem x_A_cornerEast {d : Nat} {M : mM} {f : Nat → Int32} {x y : Int32} (hR : RelS M 0 f) (hx : ¬ (hasF f x = true ∧ hcF f x y)) : CT iA_cornerEast (d + 8) [vR 5 0 0, vI x, vI y] M (.inr tIOB) M 1 := by
  refine ct_go hL_A_cornerEast rfl ?_
  refine aw_aload_n k89_0 rfl ?_
  refine aw_iload_n k89_1 rfl ?_
  refine aw_iload_n k89_2 rfl ?_
  exact aw_callVX2 k89_3 hC_A_cornerEast ok_A_fieldWithCorner sv_A_182 hH_A_fieldWithCorner ⟨rfl, rfl⟩ (by decide) hN_A_fieldWithCorner (by rw [hL_A_fieldWithCorner]; exact Nat.le_of_ble_eq_true rfl) (Nat.le_of_ble_eq_true rfl) hH_A_cornerEast (x_A_fieldWithCorner hR hx)
theorem s_A_cornerNorth {d : Nat} {M : mM} {f : Nat → Int32} {x y : Int32} (hR : RelS M 0 f) (hx : hasF f x = true) (hy : hcF f x y) : CT iA_cornerNorth (d + 8) [vR 5 0 0, vI x, vI y] M (.inl (some (vI (fY f x.toNatClampNeg y.toNatClampNeg)))) M 0 := by
  obtain ⟨ex, hlt⟩ := hasF_at hx hR.c.1 hR.c.2.1
  have hok6 : x.toNatClampNeg < 6 := by have := hR.c.2.1; omega
  obtain ⟨ey, hy1, hy2⟩ := hc_at hR.sh hx hy
  have hk := s_F_northAt (d := d + 6) (s := 0) (j := x.toNatClampNeg) (i := y.toNatClampNeg) (M := M) (by decide) hok6 (by omega)
  rw [← ey, rY hR hlt _ hy1] at hk
  refine ct_go hL_A_cornerNorth rfl ?_
  refine aw_aload_n k90_0 rfl ?_
  refine aw_iload_n k90_1 rfl ?_
  refine aw_iload_n k90_2 rfl ?_
  refine aw_callV2 k90_3 hC_A_cornerNorth ok_A_fieldWithCorner sv_A_182 hH_A_fieldWithCorner ⟨rfl, rfl⟩ (by decide) hN_A_fieldWithCorner (by rw [hL_A_fieldWithCorner]; exact Nat.le_of_ble_eq_true rfl) (Nat.le_of_ble_eq_true rfl) (s_A_fieldWithCorner hR hx hy) ?_
  refine aw_iload_n k90_6 rfl ?_
  refine aw_callV1 k90_7 hC_A_cornerNorth ok_F_northAt sv_A_189 hH_F_northAt ⟨(by decide), hok6⟩ (by decide) hN_F_northAt (by rw [hL_F_northAt]; exact Nat.le_of_ble_eq_true rfl) (Nat.le_of_ble_eq_true rfl) hk ?_
  refine aw_ireturn k90_10 hR_A_cornerNorth ?_ ?_
  all_goals first | rfl | exact Or.inl rfl | exact Or.inr rfl | assumption | (simp_all; done) | ((repeat' split) <;> first | rfl | (simp only [Int32.lt_iff_toInt_lt, Int32.le_iff_toInt_le, Int64.lt_iff_toInt_lt, Int64.le_iff_toInt_le] at *; omega) | (simp_all; done))
theorem x_A_cornerNorth {d : Nat} {M : mM} {f : Nat → Int32} {x y : Int32} (hR : RelS M 0 f) (hx : ¬ (hasF f x = true ∧ hcF f x y)) : CT iA_cornerNorth (d + 8) [vR 5 0 0, vI x, vI y] M (.inr tIOB) M 1 := by
  refine ct_go hL_A_cornerNorth rfl ?_
  refine aw_aload_n k90_0 rfl ?_
  refine aw_iload_n k90_1 rfl ?_
  refine aw_iload_n k90_2 rfl ?_
  exact aw_callVX2 k90_3 hC_A_cornerNorth ok_A_fieldWithCorner sv_A_182 hH_A_fieldWithCorner ⟨rfl, rfl⟩ (by decide) hN_A_fieldWithCorner (by rw [hL_A_fieldWithCorner]; exact Nat.le_of_ble_eq_true rfl) (Nat.le_of_ble_eq_true rfl) hH_A_cornerNorth (x_A_fieldWithCorner hR hx)
theorem mc_t {d : Nat} {M : mM} {f : Nat → Int32} {x y : Int32} (e : M (13, 0, 0) = f) (hS : ShF f) (hx : hasF f x = true) (hy : hcF f x y) : CT iM_isCorner (d + 2) [vR 6 0 0, vI x, vI y] M (.inl (some (vI 1))) M 0 := by
  have hc := s_M_isField (d := d) (M := M) (x := x) (by rw [e]; exact hS)
  rw [e, hx] at hc
  obtain ⟨ex, hlt⟩ := hasF_at hx hS.2.2.1 hS.2.2.2.1
  obtain ⟨ey, hy1, hy2⟩ := hc_at hS hx hy
  have hk := s_M_corners (d := d + 1) (M := M) (i := x.toNatClampNeg) (by have := hS.2.2.2.1; omega)
  rw [e, ← ex, (hS.2.2.2.2 _ hlt).1] at hk
  have hp : nI (bN f x.toNatClampNeg) - 1 = nI (bN f x.toNatClampNeg - 1) := nI_sub1 (by omega)
  have hin : 0 ≤ y ∧ y ≤ nI (bN f x.toNatClampNeg - 1) := ⟨hy.1, by rw [ey]; exact (nI_leI (by omega) (by omega)).mpr (by omega)⟩
  refine ct_go hL_M_isCorner rfl ?_
  refine aw_aload_n k118_0 rfl ?_
  refine aw_iload_n k118_1 rfl ?_
  refine aw_callV1 k118_2 hC_M_isCorner ok_M_isField sv_M_33 hH_M_isField ⟨rfl, rfl⟩ (by decide) hN_M_isField (by rw [hL_M_isField]; exact Nat.le_of_ble_eq_true rfl) (Nat.le_of_ble_eq_true rfl) hc ?_
  refine aw_if_eq 27 k118_5 (by decide) (fun c_5 => ?_) (fun c_5 => ?_)
  · exact absurd (show (1 : Int32) = 0 from c_5) (by decide)
  · refine aw_iload_n k118_8 rfl ?_
    refine aw_iconst (v := 0) k118_9 (by decide) ?_
    refine aw_aload_n k118_10 rfl ?_
    refine aw_iload_n k118_11 rfl ?_
    refine aw_callV1 k118_12 hC_M_isCorner ok_M_corners sv_M_37 hH_M_corners ⟨rfl, rfl⟩ (by decide) hN_M_corners (by rw [hL_M_corners]; exact Nat.le_of_ble_eq_true rfl) (Nat.le_of_ble_eq_true rfl) hk ?_
    refine aw_iconst (v := 1) k118_15 (by decide) ?_
    refine aw_isub k118_16 ?_
    rw [hp]
    refine aw_callS3 k118_17 hC_M_isCorner ok_M_in ss_M_29 hH_M_in (by rw [hL_M_in]; exact Nat.le_of_ble_eq_true rfl) (Nat.le_of_ble_eq_true rfl) (in_t hin) ?_
    refine aw_if_eq 27 k118_20 (by decide) (fun c_20 => ?_) (fun c_20 => ?_)
    · exact absurd (show (1 : Int32) = 0 from c_20) (by decide)
    · refine aw_iconst (v := 1) k118_23 (by decide) ?_
      refine aw_goto (t := 28) k118_24 (by decide) ?_
      refine aw_zreturn k118_28 hR_M_isCorner ?_ ?_ ?_
      all_goals first | rfl | exact Or.inl rfl | exact Or.inr rfl | assumption | (simp_all; done) | ((repeat' split) <;> first | rfl | (simp only [Int32.lt_iff_toInt_lt, Int32.le_iff_toInt_le, Int64.lt_iff_toInt_lt, Int64.le_iff_toInt_le] at *; omega) | (simp_all; done))
theorem mc_f {d : Nat} {M : mM} {f : Nat → Int32} {x y : Int32} (e : M (13, 0, 0) = f) (hS : ShF f) (hx : ¬ (hasF f x = true ∧ hcF f x y)) : CT iM_isCorner (d + 2) [vR 6 0 0, vI x, vI y] M (.inl (some (vI 0))) M 0 := by
  have hc := s_M_isField (d := d) (M := M) (x := x) (by rw [e]; exact hS)
  rw [e] at hc
  by_cases h1 : hasF f x = true
  · rw [h1] at hc
    have h2 : ¬ hcF f x y := fun q => hx ⟨h1, q⟩
    obtain ⟨ex, hlt⟩ := hasF_at h1 hS.2.2.1 hS.2.2.2.1
    obtain ⟨hb, h3, h12⟩ := hS.2.2.2.2 _ hlt
    have hk := s_M_corners (d := d + 1) (M := M) (i := x.toNatClampNeg) (by have := hS.2.2.2.1; omega)
    rw [e, ← ex, hb] at hk
    have hp : nI (bN f x.toNatClampNeg) - 1 = nI (bN f x.toNatClampNeg - 1) := nI_sub1 (by omega)
    have hin : ¬ (0 ≤ y ∧ y ≤ nI (bN f x.toNatClampNeg - 1)) := fun q => h2 ⟨q.1, by
      have q2 := q.2
      rw [hb]
      rw [Int32.le_iff_toInt_le, nI_toInt (by omega)] at q2
      rw [Int32.lt_iff_toInt_lt, nI_toInt (by omega)]
      omega⟩
    refine ct_go hL_M_isCorner rfl ?_
    refine aw_aload_n k118_0 rfl ?_
    refine aw_iload_n k118_1 rfl ?_
    refine aw_callV1 k118_2 hC_M_isCorner ok_M_isField sv_M_33 hH_M_isField ⟨rfl, rfl⟩ (by decide) hN_M_isField (by rw [hL_M_isField]; exact Nat.le_of_ble_eq_true rfl) (Nat.le_of_ble_eq_true rfl) hc ?_
    refine aw_if_eq 27 k118_5 (by decide) (fun c_5 => ?_) (fun c_5 => ?_)
    · exact absurd (show (1 : Int32) = 0 from c_5) (by decide)
    · refine aw_iload_n k118_8 rfl ?_
      refine aw_iconst (v := 0) k118_9 (by decide) ?_
      refine aw_aload_n k118_10 rfl ?_
      refine aw_iload_n k118_11 rfl ?_
      refine aw_callV1 k118_12 hC_M_isCorner ok_M_corners sv_M_37 hH_M_corners ⟨rfl, rfl⟩ (by decide) hN_M_corners (by rw [hL_M_corners]; exact Nat.le_of_ble_eq_true rfl) (Nat.le_of_ble_eq_true rfl) hk ?_
      refine aw_iconst (v := 1) k118_15 (by decide) ?_
      refine aw_isub k118_16 ?_
      rw [hp]
      refine aw_callS3 k118_17 hC_M_isCorner ok_M_in ss_M_29 hH_M_in (by rw [hL_M_in]; exact Nat.le_of_ble_eq_true rfl) (Nat.le_of_ble_eq_true rfl) (in_f hin) ?_
      refine aw_if_eq 27 k118_20 (by decide) (fun c_20 => ?_) (fun c_20 => ?_)
      · refine aw_iconst (v := 0) k118_27 (by decide) ?_
        refine aw_zreturn k118_28 hR_M_isCorner ?_ ?_ ?_
        all_goals first | rfl | exact Or.inl rfl | exact Or.inr rfl | assumption | (simp_all; done) | ((repeat' split) <;> first | rfl | (simp only [Int32.lt_iff_toInt_lt, Int32.le_iff_toInt_le, Int64.lt_iff_toInt_lt, Int64.le_iff_toInt_le] at *; omega) | (simp_all; done))
      · exact absurd rfl c_20
  · rw [Bool.eq_false_iff.mpr h1] at hc
    refine ct_go hL_M_isCorner rfl ?_
    refine aw_aload_n k118_0 rfl ?_
    refine aw_iload_n k118_1 rfl ?_
    refine aw_callV1 k118_2 hC_M_isCorner ok_M_isField sv_M_33 hH_M_isField ⟨rfl, rfl⟩ (by decide) hN_M_isField (by rw [hL_M_isField]; exact Nat.le_of_ble_eq_true rfl) (Nat.le_of_ble_eq_true rfl) hc ?_
    refine aw_if_eq 27 k118_5 (by decide) (fun c_5 => ?_) (fun c_5 => ?_)
    · refine aw_iconst (v := 0) k118_27 (by decide) ?_
      refine aw_zreturn k118_28 hR_M_isCorner ?_ ?_ ?_
      all_goals first | rfl | exact Or.inl rfl | exact Or.inr rfl | assumption | (simp_all; done) | ((repeat' split) <;> first | rfl | (simp only [Int32.lt_iff_toInt_lt, Int32.le_iff_toInt_le, Int64.lt_iff_toInt_lt, Int64.le_iff_toInt_le] at *; omega) | (simp_all; done))
    · exact absurd rfl c_5
theorem m_cornerEast {d L : Nat} {M : mM} {f t : Nat → Int32} {hs : List (Nat → Int32)} {sn : Option (Nat → Int32)} {x y : Int32} (h : MR M f hs sn t L) (hS : ShF f) (hx : hasF f x = true) (hy : hcF f x y) : CT iM_cornerEast (d + 8) [vR 6 0 0, vI x, vI y] M (.inl (some (vI (fX f x.toNatClampNeg y.toNatClampNeg)))) (mUp M (6, 0, 0) 0 0) 0 := by
  have e : mUp M (6, 0, 0) 0 0 (13, 0, 0) = f := by rw [mUp_ne (by simp)]; exact h.1
  have hc := mc_t (d := d + 5) h.1 hS hx hy
  obtain ⟨ex, hlt⟩ := hasF_at hx hS.2.2.1 hS.2.2.2.1
  obtain ⟨ey, hy1, hy2⟩ := hc_at hS hx hy
  have hfm : FM (mUp M (6, 0, 0) 0 0 (13, 0, 0)) x.toNatClampNeg (bN f x.toNatClampNeg) := by rw [e]; exact hS.fm hlt
  have hk := p_at (d := d + 6) (w := 0) hfm hy1 (by decide)
  rw [e, cW0, ← ex, ← ey] at hk
  refine ct_go hL_M_cornerEast rfl ?_
  refine aw_aload_n k177_0 rfl ?_
  refine aw_aload_n k177_1 rfl ?_
  refine aw_iload_n k177_2 rfl ?_
  refine aw_iload_n k177_3 rfl ?_
  refine aw_callV2 k177_4 hC_M_cornerEast ok_M_isCorner sv_M_165 hH_M_isCorner ⟨rfl, rfl⟩ (by decide) hN_M_isCorner (by rw [hL_M_isCorner]; exact Nat.le_of_ble_eq_true rfl) (Nat.le_of_ble_eq_true rfl) hc ?_
  refine aw_if_eq 14 k177_7 (by decide) (fun c_7 => ?_) (fun c_7 => ?_)
  · exact absurd (show (1 : Int32) = 0 from c_7) (by decide)
  · refine aw_iconst (v := 0) k177_10 (by decide) ?_
    refine aw_goto (t := 15) k177_11 (by decide) ?_
    refine aw_callV1 k177_15 hC_M_cornerEast ok_M_holds sv_M_102 hH_M_holds ⟨rfl, rfl⟩ (by decide) hN_M_holds (by rw [hL_M_holds]; exact Nat.le_of_ble_eq_true rfl) (Nat.le_of_ble_eq_true rfl) holds_t ?_
    refine aw_if_eq 31 k177_18 (by decide) (fun c_18 => ?_) (fun c_18 => ?_)
    · exact absurd (show (1 : Int32) = 0 from c_18) (by decide)
    · refine aw_aload_n k177_21 rfl ?_
      refine aw_iload_n k177_22 rfl ?_
      refine aw_iload_n k177_23 rfl ?_
      refine aw_iconst (v := 0) k177_24 (by decide) ?_
      refine aw_callV3 k177_25 hC_M_cornerEast ok_M_part sv_M_61 hH_M_part ⟨rfl, rfl⟩ (by decide) hN_M_part (by rw [hL_M_part]; exact Nat.le_of_ble_eq_true rfl) (Nat.le_of_ble_eq_true rfl) hk ?_
      refine aw_goto (t := 32) k177_28 (by decide) ?_
      refine aw_ireturn k177_32 hR_M_cornerEast ?_ ?_
      all_goals first | rfl | exact Or.inl rfl | exact Or.inr rfl | assumption | (simp_all; done) | ((repeat' split) <;> first | rfl | (simp only [Int32.lt_iff_toInt_lt, Int32.le_iff_toInt_le, Int64.lt_iff_toInt_lt, Int64.le_iff_toInt_le] at *; omega) | (simp_all; done))
theorem mx_cornerEast {d L : Nat} {M : mM} {f t : Nat → Int32} {hs : List (Nat → Int32)} {sn : Option (Nat → Int32)} {x y : Int32} (h : MR M f hs sn t L) (hS : ShF f) (hx : ¬ (hasF f x = true ∧ hcF f x y)) : CT iM_cornerEast (d + 8) [vR 6 0 0, vI x, vI y] M (.inl (some (vI 0))) (mUp M (6, 0, 0) 0 1) 0 := by
  have hc := mc_f (d := d + 5) h.1 hS hx
  refine ct_go hL_M_cornerEast rfl ?_
  refine aw_aload_n k177_0 rfl ?_
  refine aw_aload_n k177_1 rfl ?_
  refine aw_iload_n k177_2 rfl ?_
  refine aw_iload_n k177_3 rfl ?_
  refine aw_callV2 k177_4 hC_M_cornerEast ok_M_isCorner sv_M_165 hH_M_isCorner ⟨rfl, rfl⟩ (by decide) hN_M_isCorner (by rw [hL_M_isCorner]; exact Nat.le_of_ble_eq_true rfl) (Nat.le_of_ble_eq_true rfl) hc ?_
  refine aw_if_eq 14 k177_7 (by decide) (fun c_7 => ?_) (fun c_7 => ?_)
  · refine aw_iconst (v := 1) k177_14 (by decide) ?_
    refine aw_callV1 k177_15 hC_M_cornerEast ok_M_holds sv_M_102 hH_M_holds ⟨rfl, rfl⟩ (by decide) hN_M_holds (by rw [hL_M_holds]; exact Nat.le_of_ble_eq_true rfl) (Nat.le_of_ble_eq_true rfl) (holds_f (by decide)) ?_
    refine aw_if_eq 31 k177_18 (by decide) (fun c_18 => ?_) (fun c_18 => ?_)
    · refine aw_iconst (v := 0) k177_31 (by decide) ?_
      refine aw_ireturn k177_32 hR_M_cornerEast ?_ ?_
      all_goals first | rfl | exact Or.inl rfl | exact Or.inr rfl | assumption | (simp_all; done) | ((repeat' split) <;> first | rfl | (simp only [Int32.lt_iff_toInt_lt, Int32.le_iff_toInt_le, Int64.lt_iff_toInt_lt, Int64.le_iff_toInt_le] at *; omega) | (simp_all; done))
    · exact absurd rfl c_18
  · exact absurd rfl c_7
theorem m_cornerNorth {d L : Nat} {M : mM} {f t : Nat → Int32} {hs : List (Nat → Int32)} {sn : Option (Nat → Int32)} {x y : Int32} (h : MR M f hs sn t L) (hS : ShF f) (hx : hasF f x = true) (hy : hcF f x y) : CT iM_cornerNorth (d + 8) [vR 6 0 0, vI x, vI y] M (.inl (some (vI (fY f x.toNatClampNeg y.toNatClampNeg)))) (mUp M (6, 0, 0) 0 0) 0 := by
  have e : mUp M (6, 0, 0) 0 0 (13, 0, 0) = f := by rw [mUp_ne (by simp)]; exact h.1
  have hc := mc_t (d := d + 5) h.1 hS hx hy
  obtain ⟨ex, hlt⟩ := hasF_at hx hS.2.2.1 hS.2.2.2.1
  obtain ⟨ey, hy1, hy2⟩ := hc_at hS hx hy
  have hfm : FM (mUp M (6, 0, 0) 0 0 (13, 0, 0)) x.toNatClampNeg (bN f x.toNatClampNeg) := by rw [e]; exact hS.fm hlt
  have hk := p_at (d := d + 6) (w := 1) hfm hy1 (by decide)
  rw [e, cW1, ← ex, ← ey] at hk
  refine ct_go hL_M_cornerNorth rfl ?_
  refine aw_aload_n k178_0 rfl ?_
  refine aw_aload_n k178_1 rfl ?_
  refine aw_iload_n k178_2 rfl ?_
  refine aw_iload_n k178_3 rfl ?_
  refine aw_callV2 k178_4 hC_M_cornerNorth ok_M_isCorner sv_M_165 hH_M_isCorner ⟨rfl, rfl⟩ (by decide) hN_M_isCorner (by rw [hL_M_isCorner]; exact Nat.le_of_ble_eq_true rfl) (Nat.le_of_ble_eq_true rfl) hc ?_
  refine aw_if_eq 14 k178_7 (by decide) (fun c_7 => ?_) (fun c_7 => ?_)
  · exact absurd (show (1 : Int32) = 0 from c_7) (by decide)
  · refine aw_iconst (v := 0) k178_10 (by decide) ?_
    refine aw_goto (t := 15) k178_11 (by decide) ?_
    refine aw_callV1 k178_15 hC_M_cornerNorth ok_M_holds sv_M_102 hH_M_holds ⟨rfl, rfl⟩ (by decide) hN_M_holds (by rw [hL_M_holds]; exact Nat.le_of_ble_eq_true rfl) (Nat.le_of_ble_eq_true rfl) holds_t ?_
    refine aw_if_eq 31 k178_18 (by decide) (fun c_18 => ?_) (fun c_18 => ?_)
    · exact absurd (show (1 : Int32) = 0 from c_18) (by decide)
    · refine aw_aload_n k178_21 rfl ?_
      refine aw_iload_n k178_22 rfl ?_
      refine aw_iload_n k178_23 rfl ?_
      refine aw_iconst (v := 1) k178_24 (by decide) ?_
      refine aw_callV3 k178_25 hC_M_cornerNorth ok_M_part sv_M_61 hH_M_part ⟨rfl, rfl⟩ (by decide) hN_M_part (by rw [hL_M_part]; exact Nat.le_of_ble_eq_true rfl) (Nat.le_of_ble_eq_true rfl) hk ?_
      refine aw_goto (t := 32) k178_28 (by decide) ?_
      refine aw_ireturn k178_32 hR_M_cornerNorth ?_ ?_
      all_goals first | rfl | exact Or.inl rfl | exact Or.inr rfl | assumption | (simp_all; done) | ((repeat' split) <;> first | rfl | (simp only [Int32.lt_iff_toInt_lt, Int32.le_iff_toInt_le, Int64.lt_iff_toInt_lt, Int64.le_iff_toInt_le] at *; omega) | (simp_all; done))
theorem mx_cornerNorth {d L : Nat} {M : mM} {f t : Nat → Int32} {hs : List (Nat → Int32)} {sn : Option (Nat → Int32)} {x y : Int32} (h : MR M f hs sn t L) (hS : ShF f) (hx : ¬ (hasF f x = true ∧ hcF f x y)) : CT iM_cornerNorth (d + 8) [vR 6 0 0, vI x, vI y] M (.inl (some (vI 0))) (mUp M (6, 0, 0) 0 1) 0 := by
  have hc := mc_f (d := d + 5) h.1 hS hx
  refine ct_go hL_M_cornerNorth rfl ?_
  refine aw_aload_n k178_0 rfl ?_
  refine aw_aload_n k178_1 rfl ?_
  refine aw_iload_n k178_2 rfl ?_
  refine aw_iload_n k178_3 rfl ?_
  refine aw_callV2 k178_4 hC_M_cornerNorth ok_M_isCorner sv_M_165 hH_M_isCorner ⟨rfl, rfl⟩ (by decide) hN_M_isCorner (by rw [hL_M_isCorner]; exact Nat.le_of_ble_eq_true rfl) (Nat.le_of_ble_eq_true rfl) hc ?_
  refine aw_if_eq 14 k178_7 (by decide) (fun c_7 => ?_) (fun c_7 => ?_)
  · refine aw_iconst (v := 1) k178_14 (by decide) ?_
    refine aw_callV1 k178_15 hC_M_cornerNorth ok_M_holds sv_M_102 hH_M_holds ⟨rfl, rfl⟩ (by decide) hN_M_holds (by rw [hL_M_holds]; exact Nat.le_of_ble_eq_true rfl) (Nat.le_of_ble_eq_true rfl) (holds_f (by decide)) ?_
    refine aw_if_eq 31 k178_18 (by decide) (fun c_18 => ?_) (fun c_18 => ?_)
    · refine aw_iconst (v := 0) k178_31 (by decide) ?_
      refine aw_ireturn k178_32 hR_M_cornerNorth ?_ ?_
      all_goals first | rfl | exact Or.inl rfl | exact Or.inr rfl | assumption | (simp_all; done) | ((repeat' split) <;> first | rfl | (simp only [Int32.lt_iff_toInt_lt, Int32.le_iff_toInt_le, Int64.lt_iff_toInt_lt, Int64.le_iff_toInt_le] at *; omega) | (simp_all; done))
    · exact absurd rfl c_18
  · exact absurd rfl c_7
