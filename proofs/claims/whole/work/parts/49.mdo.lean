/-! THE MODEL'S ACTIONS -/
theorem wl_1 {d : Nat} {M : mM} {x y l : Int32} (h : ¬ (inR x 9999 ∧ inR y 9999 ∧ 1 ≤ l ∧ l ≤ 20000)) : CT iM_wrongLeg (d + 1) [vR 6 0 0, vI x, vI y, vI l] M (.inl (some (vI 1))) M 0 := by
  refine ct_go hL_M_wrongLeg rfl ?_
  by_cases h1 : inR x 9999
  · by_cases h2 : inR y 9999
    · have h3 : ¬ (1 ≤ l ∧ l ≤ 20000) := fun q => h ⟨h1, h2, q⟩
      refine aw_iload_n k137_0 rfl ?_
      refine aw_sipush (v := (-9999)) k137_1 (by decide) ?_
      refine aw_sipush (v := 9999) k137_4 (by decide) ?_
      refine aw_callS3 k137_7 hC_M_wrongLeg ok_M_in ss_M_29 hH_M_in (by rw [hL_M_in]; exact Nat.le_of_ble_eq_true rfl) (Nat.le_of_ble_eq_true rfl) (in_t h1) ?_
      refine aw_if_eq 41 k137_10 (by decide) (fun c_10 => ?_) (fun c_10 => ?_)
      · exact absurd (show (1 : Int32) = 0 from c_10) (by decide)
      · refine aw_iload_n k137_13 rfl ?_
        refine aw_sipush (v := (-9999)) k137_14 (by decide) ?_
        refine aw_sipush (v := 9999) k137_17 (by decide) ?_
        refine aw_callS3 k137_20 hC_M_wrongLeg ok_M_in ss_M_29 hH_M_in (by rw [hL_M_in]; exact Nat.le_of_ble_eq_true rfl) (Nat.le_of_ble_eq_true rfl) (in_t h2) ?_
        refine aw_if_eq 41 k137_23 (by decide) (fun c_23 => ?_) (fun c_23 => ?_)
        · exact absurd (show (1 : Int32) = 0 from c_23) (by decide)
        · refine aw_iload_n k137_26 rfl ?_
          refine aw_iconst (v := 1) k137_27 (by decide) ?_
          refine aw_sipush (v := 20000) k137_28 (by decide) ?_
          refine aw_callS3 k137_31 hC_M_wrongLeg ok_M_in ss_M_29 hH_M_in (by rw [hL_M_in]; exact Nat.le_of_ble_eq_true rfl) (Nat.le_of_ble_eq_true rfl) (in_f h3) ?_
          refine aw_if_eq 41 k137_34 (by decide) (fun c_34 => ?_) (fun c_34 => ?_)
          · refine aw_iconst (v := 0) k137_41 (by decide) ?_
            refine aw_istore k137_42 (Nat.le_of_ble_eq_true rfl) rfl ?_
            refine aw_iload k137_44 rfl ?_
            refine aw_if_ne 53 k137_46 (by decide) (fun c_46 => ?_) (fun c_46 => ?_)
            · exact absurd rfl c_46
            · refine aw_iconst (v := 1) k137_49 (by decide) ?_
              refine aw_goto (t := 69) k137_50 (by decide) ?_
              refine aw_ireturn k137_69 hR_M_wrongLeg ?_ ?_
              all_goals first | rfl | exact Or.inl rfl | exact Or.inr rfl | assumption | (simp_all; done) | ((repeat' split) <;> first | rfl | (simp only [Int32.lt_iff_toInt_lt, Int32.le_iff_toInt_le, Int64.lt_iff_toInt_lt, Int64.le_iff_toInt_le] at *; omega) | (simp_all; done))
          · exact absurd rfl c_34
    · refine aw_iload_n k137_0 rfl ?_
      refine aw_sipush (v := (-9999)) k137_1 (by decide) ?_
      refine aw_sipush (v := 9999) k137_4 (by decide) ?_
      refine aw_callS3 k137_7 hC_M_wrongLeg ok_M_in ss_M_29 hH_M_in (by rw [hL_M_in]; exact Nat.le_of_ble_eq_true rfl) (Nat.le_of_ble_eq_true rfl) (in_t h1) ?_
      refine aw_if_eq 41 k137_10 (by decide) (fun c_10 => ?_) (fun c_10 => ?_)
      · exact absurd (show (1 : Int32) = 0 from c_10) (by decide)
      · refine aw_iload_n k137_13 rfl ?_
        refine aw_sipush (v := (-9999)) k137_14 (by decide) ?_
        refine aw_sipush (v := 9999) k137_17 (by decide) ?_
        refine aw_callS3 k137_20 hC_M_wrongLeg ok_M_in ss_M_29 hH_M_in (by rw [hL_M_in]; exact Nat.le_of_ble_eq_true rfl) (Nat.le_of_ble_eq_true rfl) (in_f h2) ?_
        refine aw_if_eq 41 k137_23 (by decide) (fun c_23 => ?_) (fun c_23 => ?_)
        · refine aw_iconst (v := 0) k137_41 (by decide) ?_
          refine aw_istore k137_42 (Nat.le_of_ble_eq_true rfl) rfl ?_
          refine aw_iload k137_44 rfl ?_
          refine aw_if_ne 53 k137_46 (by decide) (fun c_46 => ?_) (fun c_46 => ?_)
          · exact absurd rfl c_46
          · refine aw_iconst (v := 1) k137_49 (by decide) ?_
            refine aw_goto (t := 69) k137_50 (by decide) ?_
            refine aw_ireturn k137_69 hR_M_wrongLeg ?_ ?_
            all_goals first | rfl | exact Or.inl rfl | exact Or.inr rfl | assumption | (simp_all; done) | ((repeat' split) <;> first | rfl | (simp only [Int32.lt_iff_toInt_lt, Int32.le_iff_toInt_le, Int64.lt_iff_toInt_lt, Int64.le_iff_toInt_le] at *; omega) | (simp_all; done))
        · exact absurd rfl c_23
  · refine aw_iload_n k137_0 rfl ?_
    refine aw_sipush (v := (-9999)) k137_1 (by decide) ?_
    refine aw_sipush (v := 9999) k137_4 (by decide) ?_
    refine aw_callS3 k137_7 hC_M_wrongLeg ok_M_in ss_M_29 hH_M_in (by rw [hL_M_in]; exact Nat.le_of_ble_eq_true rfl) (Nat.le_of_ble_eq_true rfl) (in_f h1) ?_
    refine aw_if_eq 41 k137_10 (by decide) (fun c_10 => ?_) (fun c_10 => ?_)
    · refine aw_iconst (v := 0) k137_41 (by decide) ?_
      refine aw_istore k137_42 (Nat.le_of_ble_eq_true rfl) rfl ?_
      refine aw_iload k137_44 rfl ?_
      refine aw_if_ne 53 k137_46 (by decide) (fun c_46 => ?_) (fun c_46 => ?_)
      · exact absurd rfl c_46
      · refine aw_iconst (v := 1) k137_49 (by decide) ?_
        refine aw_goto (t := 69) k137_50 (by decide) ?_
        refine aw_ireturn k137_69 hR_M_wrongLeg ?_ ?_
        all_goals first | rfl | exact Or.inl rfl | exact Or.inr rfl | assumption | (simp_all; done) | ((repeat' split) <;> first | rfl | (simp only [Int32.lt_iff_toInt_lt, Int32.le_iff_toInt_le, Int64.lt_iff_toInt_lt, Int64.le_iff_toInt_le] at *; omega) | (simp_all; done))
    · exact absurd rfl c_10
theorem wl_0 {d : Nat} {M : mM} {x y l : Int32} (h : inR x 9999 ∧ inR y 9999 ∧ 1 ≤ l ∧ l ≤ 20000) (hn : ¬ M (13, 0, 0) 0 = 12) : CT iM_wrongLeg (d + 1) [vR 6 0 0, vI x, vI y, vI l] M (.inl (some (vI 0))) M 0 := by
  refine ct_go hL_M_wrongLeg rfl ?_
  refine aw_iload_n k137_0 rfl ?_
  refine aw_sipush (v := (-9999)) k137_1 (by decide) ?_
  refine aw_sipush (v := 9999) k137_4 (by decide) ?_
  refine aw_callS3 k137_7 hC_M_wrongLeg ok_M_in ss_M_29 hH_M_in (by rw [hL_M_in]; exact Nat.le_of_ble_eq_true rfl) (Nat.le_of_ble_eq_true rfl) (in_t h.1) ?_
  refine aw_if_eq 41 k137_10 (by decide) (fun c_10 => ?_) (fun c_10 => ?_)
  · exact absurd (show (1 : Int32) = 0 from c_10) (by decide)
  · refine aw_iload_n k137_13 rfl ?_
    refine aw_sipush (v := (-9999)) k137_14 (by decide) ?_
    refine aw_sipush (v := 9999) k137_17 (by decide) ?_
    refine aw_callS3 k137_20 hC_M_wrongLeg ok_M_in ss_M_29 hH_M_in (by rw [hL_M_in]; exact Nat.le_of_ble_eq_true rfl) (Nat.le_of_ble_eq_true rfl) (in_t h.2.1) ?_
    refine aw_if_eq 41 k137_23 (by decide) (fun c_23 => ?_) (fun c_23 => ?_)
    · exact absurd (show (1 : Int32) = 0 from c_23) (by decide)
    · refine aw_iload_n k137_26 rfl ?_
      refine aw_iconst (v := 1) k137_27 (by decide) ?_
      refine aw_sipush (v := 20000) k137_28 (by decide) ?_
      refine aw_callS3 k137_31 hC_M_wrongLeg ok_M_in ss_M_29 hH_M_in (by rw [hL_M_in]; exact Nat.le_of_ble_eq_true rfl) (Nat.le_of_ble_eq_true rfl) (in_t h.2.2) ?_
      refine aw_if_eq 41 k137_34 (by decide) (fun c_34 => ?_) (fun c_34 => ?_)
      · exact absurd (show (1 : Int32) = 0 from c_34) (by decide)
      · refine aw_iconst (v := 1) k137_37 (by decide) ?_
        refine aw_goto (t := 42) k137_38 (by decide) ?_
        refine aw_istore k137_42 (Nat.le_of_ble_eq_true rfl) rfl ?_
        refine aw_iload k137_44 rfl ?_
        refine aw_if_ne 53 k137_46 (by decide) (fun c_46 => ?_) (fun c_46 => ?_)
        · refine aw_aload_n k137_53 rfl ?_
          refine aw_getR k137_54 hC_M_wrongLeg fs_M_7 (by decide) ⟨rfl, rfl⟩ rfl ?_
          try simp only [tn0]
          refine aw_iconst (v := 0) k137_57 (by decide) ?_
          refine aw_iaload k137_58 (by first | exact ⟨rfl, rfl⟩ | exact ⟨by assumption, rfl⟩ | exact ⟨by assumption, by assumption⟩ | exact ⟨rfl, by decide⟩ | exact ⟨by assumption, by decide⟩ | exact ⟨by decide, rfl⟩ | exact ⟨by decide, by decide⟩ | exact ⟨by decide, by assumption⟩ | assumption) (by first | rfl | assumption) (by first | rfl | assumption) (vp_in_nI (n := 0) (by decide) (by decide)) ?_
          try simp only [tn0]
          refine aw_bipush (v := 12) k137_59 (by decide) ?_
          refine aw_icmp_ne 68 k137_61 (by decide) (fun c_61 => ?_) (fun c_61 => ?_)
          · refine aw_iconst (v := 0) k137_68 (by decide) ?_
            refine aw_ireturn k137_69 hR_M_wrongLeg ?_ ?_
            all_goals first | rfl | exact Or.inl rfl | exact Or.inr rfl | assumption | (simp_all; done) | ((repeat' split) <;> first | rfl | (simp only [Int32.lt_iff_toInt_lt, Int32.le_iff_toInt_le, Int64.lt_iff_toInt_lt, Int64.le_iff_toInt_le] at *; omega) | (simp_all; done))
          · exact absurd c_61 hn
        · exact absurd (show (1 : Int32) = 0 from c_46) (by decide)
theorem wl_2 {d : Nat} {M : mM} {x y l : Int32} (h : inR x 9999 ∧ inR y 9999 ∧ 1 ≤ l ∧ l ≤ 20000) (hn : M (13, 0, 0) 0 = 12) : CT iM_wrongLeg (d + 1) [vR 6 0 0, vI x, vI y, vI l] M (.inl (some (vI 2))) M 0 := by
  refine ct_go hL_M_wrongLeg rfl ?_
  refine aw_iload_n k137_0 rfl ?_
  refine aw_sipush (v := (-9999)) k137_1 (by decide) ?_
  refine aw_sipush (v := 9999) k137_4 (by decide) ?_
  refine aw_callS3 k137_7 hC_M_wrongLeg ok_M_in ss_M_29 hH_M_in (by rw [hL_M_in]; exact Nat.le_of_ble_eq_true rfl) (Nat.le_of_ble_eq_true rfl) (in_t h.1) ?_
  refine aw_if_eq 41 k137_10 (by decide) (fun c_10 => ?_) (fun c_10 => ?_)
  · exact absurd (show (1 : Int32) = 0 from c_10) (by decide)
  · refine aw_iload_n k137_13 rfl ?_
    refine aw_sipush (v := (-9999)) k137_14 (by decide) ?_
    refine aw_sipush (v := 9999) k137_17 (by decide) ?_
    refine aw_callS3 k137_20 hC_M_wrongLeg ok_M_in ss_M_29 hH_M_in (by rw [hL_M_in]; exact Nat.le_of_ble_eq_true rfl) (Nat.le_of_ble_eq_true rfl) (in_t h.2.1) ?_
    refine aw_if_eq 41 k137_23 (by decide) (fun c_23 => ?_) (fun c_23 => ?_)
    · exact absurd (show (1 : Int32) = 0 from c_23) (by decide)
    · refine aw_iload_n k137_26 rfl ?_
      refine aw_iconst (v := 1) k137_27 (by decide) ?_
      refine aw_sipush (v := 20000) k137_28 (by decide) ?_
      refine aw_callS3 k137_31 hC_M_wrongLeg ok_M_in ss_M_29 hH_M_in (by rw [hL_M_in]; exact Nat.le_of_ble_eq_true rfl) (Nat.le_of_ble_eq_true rfl) (in_t h.2.2) ?_
      refine aw_if_eq 41 k137_34 (by decide) (fun c_34 => ?_) (fun c_34 => ?_)
      · exact absurd (show (1 : Int32) = 0 from c_34) (by decide)
      · refine aw_iconst (v := 1) k137_37 (by decide) ?_
        refine aw_goto (t := 42) k137_38 (by decide) ?_
        refine aw_istore k137_42 (Nat.le_of_ble_eq_true rfl) rfl ?_
        refine aw_iload k137_44 rfl ?_
        refine aw_if_ne 53 k137_46 (by decide) (fun c_46 => ?_) (fun c_46 => ?_)
        · refine aw_aload_n k137_53 rfl ?_
          refine aw_getR k137_54 hC_M_wrongLeg fs_M_7 (by decide) ⟨rfl, rfl⟩ rfl ?_
          try simp only [tn0]
          refine aw_iconst (v := 0) k137_57 (by decide) ?_
          refine aw_iaload k137_58 (by first | exact ⟨rfl, rfl⟩ | exact ⟨by assumption, rfl⟩ | exact ⟨by assumption, by assumption⟩ | exact ⟨rfl, by decide⟩ | exact ⟨by assumption, by decide⟩ | exact ⟨by decide, rfl⟩ | exact ⟨by decide, by decide⟩ | exact ⟨by decide, by assumption⟩ | assumption) (by first | rfl | assumption) (by first | rfl | assumption) (vp_in_nI (n := 0) (by decide) (by decide)) ?_
          try simp only [tn0]
          refine aw_bipush (v := 12) k137_59 (by decide) ?_
          refine aw_icmp_ne 68 k137_61 (by decide) (fun c_61 => ?_) (fun c_61 => ?_)
          · exact absurd hn c_61
          · refine aw_iconst (v := 2) k137_64 (by decide) ?_
            refine aw_goto (t := 69) k137_65 (by decide) ?_
            refine aw_ireturn k137_69 hR_M_wrongLeg ?_ ?_
            all_goals first | rfl | exact Or.inl rfl | exact Or.inr rfl | assumption | (simp_all; done) | ((repeat' split) <;> first | rfl | (simp only [Int32.lt_iff_toInt_lt, Int32.le_iff_toInt_le, Int64.lt_iff_toInt_lt, Int64.le_iff_toInt_le] at *; omega) | (simp_all; done))
        · exact absurd (show (1 : Int32) = 0 from c_46) (by decide)
theorem m_addLegX {d : Nat} {M : mM} {x y l k : Int32} (hk : ¬ k = 0) (hw : CT iM_wrongLeg (d + 7) [vR 6 0 0, vI x, vI y, vI l] M (.inl (some (vI k))) M 0) : CT iM_addLeg (d + 8) [vR 6 0 0, vI x, vI y, vI l] M (.inl (some (vI 0))) (mUp M (6, 0, 0) 0 k) 0 := by
  refine ct_go hL_M_addLeg rfl ?_
  refine aw_aload_n k145_0 rfl ?_
  refine aw_aload_n k145_1 rfl ?_
  refine aw_iload_n k145_2 rfl ?_
  refine aw_iload_n k145_3 rfl ?_
  refine aw_iload_n k145_4 rfl ?_
  refine aw_callV3 k145_5 hC_M_addLeg ok_M_wrongLeg sv_M_99 hH_M_wrongLeg ⟨rfl, rfl⟩ (by decide) hN_M_wrongLeg (by rw [hL_M_wrongLeg]; exact Nat.le_of_ble_eq_true rfl) (Nat.le_of_ble_eq_true rfl) hw ?_
  refine aw_callV1 k145_8 hC_M_addLeg ok_M_holds sv_M_102 hH_M_holds ⟨rfl, rfl⟩ (by decide) hN_M_holds (by rw [hL_M_holds]; exact Nat.le_of_ble_eq_true rfl) (Nat.le_of_ble_eq_true rfl) (holds_f hk) ?_
  refine aw_if_ne 16 k145_11 (by decide) (fun c_11 => ?_) (fun c_11 => ?_)
  · exact absurd rfl c_11
  · refine aw_iconst (v := 0) k145_14 (by decide) ?_
    refine aw_ireturn k145_15 hR_M_addLeg ?_ ?_
    all_goals first | rfl | exact Or.inl rfl | exact Or.inr rfl | assumption | (simp_all; done) | ((repeat' split) <;> first | rfl | (simp only [Int32.lt_iff_toInt_lt, Int32.le_iff_toInt_le, Int64.lt_iff_toInt_lt, Int64.le_iff_toInt_le] at *; omega) | (simp_all; done))
abbrev mGood (M M' : mM) (g : Nat → Int32) (hs : List (Nat → Int32)) (sn : Option (Nat → Int32)) (t : Nat → Int32) (L : Nat) : Prop := MR M' g hs sn t L ∧ MFr M M' ∧ M' (6, 0, 0) 0 = 0
theorem m_addLeg {d L : Nat} {M : mM} {f t : Nat → Int32} {hs : List (Nat → Int32)} {sn : Option (Nat → Int32)} {x y l : Int32} (h : MR M f hs sn t L) (hS : ShF f) (hx : inR x 9999 ∧ inR y 9999 ∧ 1 ≤ l ∧ l ≤ 20000) (hn : fN f < 12) : ∃ M', CT iM_addLeg (d + 8) [vR 6 0 0, vI x, vI y, vI l] M (.inl (some (vI (fAdd f x y l 0)))) M' 0 ∧ mGood M M' (fAdd f x y l) ((f :: hs).take 4) sn t L := by
  obtain ⟨M1, hA, hR, hF, h0⟩ := m_rec (d := d + 7) (h.thr (x := 0))
  have e := mS_of hR.1
  have hadd := s_M_adds (d := d + 7) (M := M1) (x := x) (y := y) (l := l) hS.1 hn
  rw [e] at hadd
  refine ⟨_, ct_go hL_M_addLeg rfl ?_, hR.set, MFr.u6.tr (hF.tr MFr.s), by rw [mS_ne (by simp), h0]; simp [mUp_at]⟩
  have hw := wl_0 (d := d + 6) (M := M) hx (by
    rw [h.1, hS.1]
    intro q
    have := nI_eq_of (b := 12) q (by omega)
    omega)
  refine aw_aload_n k145_0 rfl ?_
  refine aw_aload_n k145_1 rfl ?_
  refine aw_iload_n k145_2 rfl ?_
  refine aw_iload_n k145_3 rfl ?_
  refine aw_iload_n k145_4 rfl ?_
  refine aw_callV3 k145_5 hC_M_addLeg ok_M_wrongLeg sv_M_99 hH_M_wrongLeg ⟨rfl, rfl⟩ (by decide) hN_M_wrongLeg (by rw [hL_M_wrongLeg]; exact Nat.le_of_ble_eq_true rfl) (Nat.le_of_ble_eq_true rfl) hw ?_
  refine aw_callV1 k145_8 hC_M_addLeg ok_M_holds sv_M_102 hH_M_holds ⟨rfl, rfl⟩ (by decide) hN_M_holds (by rw [hL_M_holds]; exact Nat.le_of_ble_eq_true rfl) (Nat.le_of_ble_eq_true rfl) holds_t ?_
  refine aw_if_ne 16 k145_11 (by decide) (fun c_11 => ?_) (fun c_11 => ?_)
  · refine aw_aload_n k145_16 rfl ?_
    refine aw_callV0v k145_17 hC_M_addLeg ok_M_records sv_M_105 hH_M_records ⟨rfl, rfl⟩ (by decide) hN_M_records (by rw [hL_M_records]; exact Nat.le_of_ble_eq_true rfl) (Nat.le_of_ble_eq_true rfl) hA ?_
    refine aw_aload_n k145_20 rfl ?_
    refine aw_iload_n k145_21 rfl ?_
    refine aw_iload_n k145_22 rfl ?_
    refine aw_iload_n k145_23 rfl ?_
    refine aw_callV3 k145_24 hC_M_addLeg ok_M_adds sv_M_108 hH_M_adds ⟨rfl, rfl⟩ (by decide) hN_M_adds (by rw [hL_M_adds]; exact Nat.le_of_ble_eq_true rfl) (Nat.le_of_ble_eq_true rfl) hadd ?_
    refine aw_ireturn k145_27 hR_M_addLeg ?_ ?_
    all_goals first | rfl | exact Or.inl rfl | exact Or.inr rfl | assumption | (simp_all; done) | ((repeat' split) <;> first | rfl | (simp only [Int32.lt_iff_toInt_lt, Int32.le_iff_toInt_le, Int64.lt_iff_toInt_lt, Int64.le_iff_toInt_le] at *; omega) | (simp_all; done))
  · exact absurd (show (1 : Int32) = 0 from c_11) (by decide)
theorem m_takeBackX {d : Nat} {M : mM} (hn : M (13, 0, 0) 0 = 0) : CT iM_takeBack (d + 8) [vR 6 0 0] M (.inl (some (vI 0))) (mUp M (6, 0, 0) 0 1) 0 := by
  refine ct_go hL_M_takeBack rfl ?_
  refine aw_aload_n k146_0 rfl ?_
  refine aw_aload_n k146_1 rfl ?_
  refine aw_getR k146_2 hC_M_takeBack fs_M_7 (by decide) ⟨rfl, rfl⟩ rfl ?_
  try simp only [tn0, hn]
  refine aw_iconst (v := 0) k146_5 (by decide) ?_
  refine aw_iaload k146_6 (by first | exact ⟨rfl, rfl⟩ | exact ⟨by assumption, rfl⟩ | exact ⟨by assumption, by assumption⟩ | exact ⟨rfl, by decide⟩ | exact ⟨by assumption, by decide⟩ | exact ⟨by decide, rfl⟩ | exact ⟨by decide, by decide⟩ | exact ⟨by decide, by assumption⟩ | assumption) (by first | rfl | assumption) (by first | rfl | assumption) (vp_in_nI (n := 0) (by decide) (by decide)) ?_
  try simp only [tn0, hn]
  refine aw_if_le 14 k146_7 (by decide) (fun c_7 => ?_) (fun c_7 => ?_)
  · refine aw_iconst (v := 1) k146_14 (by decide) ?_
    refine aw_callV1 k146_15 hC_M_takeBack ok_M_holds sv_M_102 hH_M_holds ⟨rfl, rfl⟩ (by decide) hN_M_holds (by rw [hL_M_holds]; exact Nat.le_of_ble_eq_true rfl) (Nat.le_of_ble_eq_true rfl) (holds_f (by decide)) ?_
    refine aw_if_ne 23 k146_18 (by decide) (fun c_18 => ?_) (fun c_18 => ?_)
    · exact absurd rfl c_18
    · refine aw_iconst (v := 0) k146_21 (by decide) ?_
      refine aw_ireturn k146_22 hR_M_takeBack ?_ ?_
      all_goals first | rfl | exact Or.inl rfl | exact Or.inr rfl | assumption | (simp_all; done) | ((repeat' split) <;> first | rfl | (simp only [Int32.lt_iff_toInt_lt, Int32.le_iff_toInt_le, Int64.lt_iff_toInt_lt, Int64.le_iff_toInt_le] at *; omega) | (simp_all; done))
  · exact absurd (Int32.le_refl 0) c_7
theorem m_takeBack {d L : Nat} {M : mM} {f t : Nat → Int32} {hs : List (Nat → Int32)} {sn : Option (Nat → Int32)} (h : MR M f hs sn t L) (hS : ShF f) (hn : 0 < fN f) : ∃ M', CT iM_takeBack (d + 8) [vR 6 0 0] M (.inl (some (vI (fTake f 0)))) M' 0 ∧ mGood M M' (fTake f) ((f :: hs).take 4) sn t L := by
  obtain ⟨M1, hA, hR, hF, h0⟩ := m_rec (d := d + 7) (h.thr (x := 0))
  have e := mS_of hR.1
  obtain ⟨z, hz⟩ : ∃ z, fN f = z + 1 := ⟨fN f - 1, by omega⟩
  have hf0 := hS.1
  have h12 := hS.2.1
  rw [hz] at hf0
  have ht := s_M_takes (d := d + 7) (M := M1) hf0 (by omega)
  rw [e] at ht
  have hm0 : M (13, 0, 0) 0 = nI (z + 1) := by rw [h.1]; exact hf0
  refine ⟨_, ct_go hL_M_takeBack rfl ?_, hR.set, MFr.u6.tr (hF.tr MFr.s), by rw [mS_ne (by simp), h0]; simp [mUp_at]⟩
  refine aw_aload_n k146_0 rfl ?_
  refine aw_aload_n k146_1 rfl ?_
  refine aw_getR k146_2 hC_M_takeBack fs_M_7 (by decide) ⟨rfl, rfl⟩ rfl ?_
  try simp only [tn0, hm0]
  refine aw_iconst (v := 0) k146_5 (by decide) ?_
  refine aw_iaload k146_6 (by first | exact ⟨rfl, rfl⟩ | exact ⟨by assumption, rfl⟩ | exact ⟨by assumption, by assumption⟩ | exact ⟨rfl, by decide⟩ | exact ⟨by assumption, by decide⟩ | exact ⟨by decide, rfl⟩ | exact ⟨by decide, by decide⟩ | exact ⟨by decide, by assumption⟩ | assumption) (by first | rfl | assumption) (by first | rfl | assumption) (vp_in_nI (n := 0) (by decide) (by decide)) ?_
  try simp only [tn0, hm0]
  refine aw_if_le 14 k146_7 (by decide) (fun c_7 => ?_) (fun c_7 => ?_)
  · exact absurd (nI_le_of (b := 0) c_7) (by omega)
  · refine aw_iconst (v := 0) k146_10 (by decide) ?_
    refine aw_goto (t := 15) k146_11 (by decide) ?_
    refine aw_callV1 k146_15 hC_M_takeBack ok_M_holds sv_M_102 hH_M_holds ⟨rfl, rfl⟩ (by decide) hN_M_holds (by rw [hL_M_holds]; exact Nat.le_of_ble_eq_true rfl) (Nat.le_of_ble_eq_true rfl) holds_t ?_
    refine aw_if_ne 23 k146_18 (by decide) (fun c_18 => ?_) (fun c_18 => ?_)
    · refine aw_aload_n k146_23 rfl ?_
      refine aw_callV0v k146_24 hC_M_takeBack ok_M_records sv_M_105 hH_M_records ⟨rfl, rfl⟩ (by decide) hN_M_records (by rw [hL_M_records]; exact Nat.le_of_ble_eq_true rfl) (Nat.le_of_ble_eq_true rfl) hA ?_
      refine aw_aload_n k146_27 rfl ?_
      refine aw_callV0 k146_28 hC_M_takeBack ok_M_takes sv_M_95 hH_M_takes ⟨rfl, rfl⟩ (by decide) hN_M_takes (by rw [hL_M_takes]; exact Nat.le_of_ble_eq_true rfl) (Nat.le_of_ble_eq_true rfl) ht ?_
      refine aw_ireturn k146_31 hR_M_takeBack ?_ ?_
      all_goals first | rfl | exact Or.inl rfl | exact Or.inr rfl | assumption | (simp_all; done) | ((repeat' split) <;> first | rfl | (simp only [Int32.lt_iff_toInt_lt, Int32.le_iff_toInt_le, Int64.lt_iff_toInt_lt, Int64.le_iff_toInt_le] at *; omega) | (simp_all; done))
    · exact absurd (show (1 : Int32) = 0 from c_18) (by decide)
theorem m_setOriginX {d : Nat} {M : mM} {x y : Int32} (h : ¬ (inR x 50000 ∧ inR y 50000)) : CT iM_setOrigin (d + 8) [vR 6 0 0, vI x, vI y] M (.inl (some (vI 0))) (mUp M (6, 0, 0) 0 1) 0 := by
  refine ct_go hL_M_setOrigin rfl ?_
  by_cases h1 : inR x 50000
  · have h2 : ¬ inR y 50000 := fun q => h ⟨h1, q⟩
    refine aw_aload_n k147_0 rfl ?_
    refine aw_iload_n k147_1 rfl ?_
    refine aw_ldc k147_2 hC_M_setOrigin ci_M_111 ?_
    refine aw_ldc k147_4 hC_M_setOrigin ci_M_112 ?_
    refine aw_callS3 k147_6 hC_M_setOrigin ok_M_in ss_M_29 hH_M_in (by rw [hL_M_in]; exact Nat.le_of_ble_eq_true rfl) (Nat.le_of_ble_eq_true rfl) (in_t h1) ?_
    refine aw_if_eq 27 k147_9 (by decide) (fun c_9 => ?_) (fun c_9 => ?_)
    · exact absurd (show (1 : Int32) = 0 from c_9) (by decide)
    · refine aw_iload_n k147_12 rfl ?_
      refine aw_ldc k147_13 hC_M_setOrigin ci_M_111 ?_
      refine aw_ldc k147_15 hC_M_setOrigin ci_M_112 ?_
      refine aw_callS3 k147_17 hC_M_setOrigin ok_M_in ss_M_29 hH_M_in (by rw [hL_M_in]; exact Nat.le_of_ble_eq_true rfl) (Nat.le_of_ble_eq_true rfl) (in_f h2) ?_
      refine aw_if_eq 27 k147_20 (by decide) (fun c_20 => ?_) (fun c_20 => ?_)
      · refine aw_iconst (v := 1) k147_27 (by decide) ?_
        refine aw_callV1 k147_28 hC_M_setOrigin ok_M_holds sv_M_102 hH_M_holds ⟨rfl, rfl⟩ (by decide) hN_M_holds (by rw [hL_M_holds]; exact Nat.le_of_ble_eq_true rfl) (Nat.le_of_ble_eq_true rfl) (holds_f (by decide)) ?_
        refine aw_if_ne 36 k147_31 (by decide) (fun c_31 => ?_) (fun c_31 => ?_)
        · exact absurd rfl c_31
        · refine aw_iconst (v := 0) k147_34 (by decide) ?_
          refine aw_ireturn k147_35 hR_M_setOrigin ?_ ?_
          all_goals first | rfl | exact Or.inl rfl | exact Or.inr rfl | assumption | (simp_all; done) | ((repeat' split) <;> first | rfl | (simp only [Int32.lt_iff_toInt_lt, Int32.le_iff_toInt_le, Int64.lt_iff_toInt_lt, Int64.le_iff_toInt_le] at *; omega) | (simp_all; done))
      · exact absurd rfl c_20
  · refine aw_aload_n k147_0 rfl ?_
    refine aw_iload_n k147_1 rfl ?_
    refine aw_ldc k147_2 hC_M_setOrigin ci_M_111 ?_
    refine aw_ldc k147_4 hC_M_setOrigin ci_M_112 ?_
    refine aw_callS3 k147_6 hC_M_setOrigin ok_M_in ss_M_29 hH_M_in (by rw [hL_M_in]; exact Nat.le_of_ble_eq_true rfl) (Nat.le_of_ble_eq_true rfl) (in_f h1) ?_
    refine aw_if_eq 27 k147_9 (by decide) (fun c_9 => ?_) (fun c_9 => ?_)
    · refine aw_iconst (v := 1) k147_27 (by decide) ?_
      refine aw_callV1 k147_28 hC_M_setOrigin ok_M_holds sv_M_102 hH_M_holds ⟨rfl, rfl⟩ (by decide) hN_M_holds (by rw [hL_M_holds]; exact Nat.le_of_ble_eq_true rfl) (Nat.le_of_ble_eq_true rfl) (holds_f (by decide)) ?_
      refine aw_if_ne 36 k147_31 (by decide) (fun c_31 => ?_) (fun c_31 => ?_)
      · exact absurd rfl c_31
      · refine aw_iconst (v := 0) k147_34 (by decide) ?_
        refine aw_ireturn k147_35 hR_M_setOrigin ?_ ?_
        all_goals first | rfl | exact Or.inl rfl | exact Or.inr rfl | assumption | (simp_all; done) | ((repeat' split) <;> first | rfl | (simp only [Int32.lt_iff_toInt_lt, Int32.le_iff_toInt_le, Int64.lt_iff_toInt_lt, Int64.le_iff_toInt_le] at *; omega) | (simp_all; done))
    · exact absurd rfl c_9
theorem m_setOrigin {d L : Nat} {M : mM} {f t : Nat → Int32} {hs : List (Nat → Int32)} {sn : Option (Nat → Int32)} {x y : Int32} (h : MR M f hs sn t L) (hx : inR x 50000 ∧ inR y 50000) : ∃ M', CT iM_setOrigin (d + 8) [vR 6 0 0, vI x, vI y] M (.inl (some (vI (fOrg f x y 0)))) M' 0 ∧ mGood M M' (fOrg f x y) ((f :: hs).take 4) sn t L := by
  obtain ⟨M1, hA, hR, hF, h0⟩ := m_rec (d := d + 7) (h.thr (x := 0))
  have hu : mUp (mUp M1 (13, 0, 0) 37 x) (13, 0, 0) 38 y = mS M1 (fOrg f x y) := by
    rw [← mS_of hR.1, mS_up, mS_up, mS_mS]
    congr 1
    funext j
    unfold up fOrg
    by_cases e1 : j = 38
    · rw [if_pos e1, if_neg (by omega), if_pos e1]
    · rw [if_neg e1]
      by_cases e2 : j = 37
      · rw [if_pos e2, if_pos e2]
      · rw [if_neg e2, if_neg e2, if_neg e1]
  refine ⟨_, ct_go hL_M_setOrigin rfl ?_, hR.set (g := fOrg f x y), MFr.u6.tr (hF.tr MFr.s), by rw [mS_ne (by simp), h0]; simp [mUp_at]⟩
  refine aw_aload_n k147_0 rfl ?_
  refine aw_iload_n k147_1 rfl ?_
  refine aw_ldc k147_2 hC_M_setOrigin ci_M_111 ?_
  refine aw_ldc k147_4 hC_M_setOrigin ci_M_112 ?_
  refine aw_callS3 k147_6 hC_M_setOrigin ok_M_in ss_M_29 hH_M_in (by rw [hL_M_in]; exact Nat.le_of_ble_eq_true rfl) (Nat.le_of_ble_eq_true rfl) (in_t hx.1) ?_
  refine aw_if_eq 27 k147_9 (by decide) (fun c_9 => ?_) (fun c_9 => ?_)
  · exact absurd (show (1 : Int32) = 0 from c_9) (by decide)
  · refine aw_iload_n k147_12 rfl ?_
    refine aw_ldc k147_13 hC_M_setOrigin ci_M_111 ?_
    refine aw_ldc k147_15 hC_M_setOrigin ci_M_112 ?_
    refine aw_callS3 k147_17 hC_M_setOrigin ok_M_in ss_M_29 hH_M_in (by rw [hL_M_in]; exact Nat.le_of_ble_eq_true rfl) (Nat.le_of_ble_eq_true rfl) (in_t hx.2) ?_
    refine aw_if_eq 27 k147_20 (by decide) (fun c_20 => ?_) (fun c_20 => ?_)
    · exact absurd (show (1 : Int32) = 0 from c_20) (by decide)
    · refine aw_iconst (v := 0) k147_23 (by decide) ?_
      refine aw_goto (t := 28) k147_24 (by decide) ?_
      refine aw_callV1 k147_28 hC_M_setOrigin ok_M_holds sv_M_102 hH_M_holds ⟨rfl, rfl⟩ (by decide) hN_M_holds (by rw [hL_M_holds]; exact Nat.le_of_ble_eq_true rfl) (Nat.le_of_ble_eq_true rfl) holds_t ?_
      refine aw_if_ne 36 k147_31 (by decide) (fun c_31 => ?_) (fun c_31 => ?_)
      · refine aw_aload_n k147_36 rfl ?_
        refine aw_callV0v k147_37 hC_M_setOrigin ok_M_records sv_M_105 hH_M_records ⟨rfl, rfl⟩ (by decide) hN_M_records (by rw [hL_M_records]; exact Nat.le_of_ble_eq_true rfl) (Nat.le_of_ble_eq_true rfl) hA ?_
        refine aw_aload_n k147_40 rfl ?_
        refine aw_getR k147_41 hC_M_setOrigin fs_M_7 (by decide) ⟨rfl, rfl⟩ rfl ?_
        try simp only [tn0, tn37, tn38, hu, mS_at]
        refine aw_bipush (v := 37) k147_44 (by decide) ?_
        refine aw_iload_n k147_46 rfl ?_
        refine aw_iastore k147_47 (by first | exact ⟨rfl, rfl⟩ | exact ⟨by assumption, rfl⟩ | exact ⟨by assumption, by assumption⟩ | exact ⟨rfl, by decide⟩ | exact ⟨by assumption, by decide⟩ | exact ⟨by decide, rfl⟩ | exact ⟨by decide, by decide⟩ | exact ⟨by decide, by assumption⟩ | assumption) (by first | rfl | assumption) (by first | rfl | assumption) (vp_in_nI (n := 37) (by decide) (by decide)) ?_
        try simp only [tn0, tn37, tn38, hu, mS_at]
        refine aw_aload_n k147_48 rfl ?_
        refine aw_getR k147_49 hC_M_setOrigin fs_M_7 (by decide) ⟨rfl, rfl⟩ rfl ?_
        try simp only [tn0, tn37, tn38, hu, mS_at]
        refine aw_bipush (v := 38) k147_52 (by decide) ?_
        refine aw_iload_n k147_54 rfl ?_
        refine aw_iastore k147_55 (by first | exact ⟨rfl, rfl⟩ | exact ⟨by assumption, rfl⟩ | exact ⟨by assumption, by assumption⟩ | exact ⟨rfl, by decide⟩ | exact ⟨by assumption, by decide⟩ | exact ⟨by decide, rfl⟩ | exact ⟨by decide, by decide⟩ | exact ⟨by decide, by assumption⟩ | assumption) (by first | rfl | assumption) (by first | rfl | assumption) (vp_in_nI (n := 38) (by decide) (by decide)) ?_
        try simp only [tn0, tn37, tn38, hu, mS_at]
        refine aw_aload_n k147_56 rfl ?_
        refine aw_getR k147_57 hC_M_setOrigin fs_M_7 (by decide) ⟨rfl, rfl⟩ rfl ?_
        try simp only [tn0, tn37, tn38, hu, mS_at]
        refine aw_iconst (v := 0) k147_60 (by decide) ?_
        refine aw_iaload k147_61 (by first | exact ⟨rfl, rfl⟩ | exact ⟨by assumption, rfl⟩ | exact ⟨by assumption, by assumption⟩ | exact ⟨rfl, by decide⟩ | exact ⟨by assumption, by decide⟩ | exact ⟨by decide, rfl⟩ | exact ⟨by decide, by decide⟩ | exact ⟨by decide, by assumption⟩ | assumption) (by first | rfl | assumption) (by first | rfl | assumption) (vp_in_nI (n := 0) (by decide) (by decide)) ?_
        try simp only [tn0, tn37, tn38, hu, mS_at]
        refine aw_ireturn k147_62 hR_M_setOrigin ?_ ?_
        all_goals first | rfl | exact Or.inl rfl | exact Or.inr rfl | assumption | (simp_all; done) | ((repeat' split) <;> first | rfl | (simp only [Int32.lt_iff_toInt_lt, Int32.le_iff_toInt_le, Int64.lt_iff_toInt_lt, Int64.le_iff_toInt_le] at *; omega) | (simp_all; done))
      · exact absurd (show (1 : Int32) = 0 from c_31) (by decide)
theorem m_can {d L : Nat} {M : mM} {f t : Nat → Int32} {hs : List (Nat → Int32)} {sn : Option (Nat → Int32)} (h : MR M f hs sn t L) (hS : ShF f) (hB : BdF f) : CT iM_canKeep (d + 4) [vR 6 0 0] M (.inl (some (vI (bI (canKeepF f))))) M 0 := by
  have := s_M_canKeep (d := d) (M := M) hS hB
  rw [mS_of h.1] at this
  exact this
theorem m_keepX {d L : Nat} {M : mM} {f t : Nat → Int32} {hs : List (Nat → Int32)} {sn : Option (Nat → Int32)} (h : MR M f hs sn t L) (hS : ShF f) (hB : BdF f) (hn : canKeepF f = false) : CT iM_keep (d + 8) [vR 6 0 0] M (.inl (some (vI 0))) (mUp M (6, 0, 0) 0 1) 0 := by
  have hc := m_can (d := d + 3) h hS hB
  rw [hn] at hc
  refine ct_go hL_M_keep rfl ?_
  refine aw_aload_n k148_0 rfl ?_
  refine aw_aload_n k148_1 rfl ?_
  refine aw_callV0 k148_2 hC_M_keep ok_M_canKeep sv_M_113 hH_M_canKeep ⟨rfl, rfl⟩ (by decide) hN_M_canKeep (by rw [hL_M_canKeep]; exact Nat.le_of_ble_eq_true rfl) (Nat.le_of_ble_eq_true rfl) hc ?_
  refine aw_if_eq 12 k148_5 (by decide) (fun c_5 => ?_) (fun c_5 => ?_)
  · refine aw_iconst (v := 1) k148_12 (by decide) ?_
    refine aw_callV1 k148_13 hC_M_keep ok_M_holds sv_M_102 hH_M_holds ⟨rfl, rfl⟩ (by decide) hN_M_holds (by rw [hL_M_holds]; exact Nat.le_of_ble_eq_true rfl) (Nat.le_of_ble_eq_true rfl) (holds_f (by decide)) ?_
    refine aw_if_ne 21 k148_16 (by decide) (fun c_16 => ?_) (fun c_16 => ?_)
    · exact absurd rfl c_16
    · refine aw_iconst (v := 0) k148_19 (by decide) ?_
      refine aw_ireturn k148_20 hR_M_keep ?_ ?_
      all_goals first | rfl | exact Or.inl rfl | exact Or.inr rfl | assumption | (simp_all; done) | ((repeat' split) <;> first | rfl | (simp only [Int32.lt_iff_toInt_lt, Int32.le_iff_toInt_le, Int64.lt_iff_toInt_lt, Int64.le_iff_toInt_le] at *; omega) | (simp_all; done))
  · exact absurd rfl c_5
theorem can_c {f : Nat → Int32} (h : canKeepF f = true) : fC f < 6 := by
  unfold canKeepF at h
  simp at h
  exact h.2.2.1
theorem m_keep {d L : Nat} {M : mM} {f t : Nat → Int32} {hs : List (Nat → Int32)} {sn : Option (Nat → Int32)} (h : MR M f hs sn t L) (hS : ShF f) (hB : BdF f) (hn : canKeepF f = true) : ∃ M', CT iM_keep (d + 8) [vR 6 0 0] M (.inl (some (vI (fKeep f 39 - 1)))) M' 0 ∧ mGood M M' (fKeep f) ((f :: hs).take 4) sn t L := by
  have hc := m_can (d := d + 3) h hS hB
  rw [hn] at hc
  obtain ⟨M1, hA, hR, hF, h0⟩ := m_rec (d := d + 7) (h.thr (x := 0))
  have hk := s_M_keeps (d := d + 3) (M := M1) hS hB (can_c hn)
  rw [mS_of hR.1] at hk
  refine ⟨_, ct_go hL_M_keep rfl ?_, hR.set, MFr.u6.tr (hF.tr MFr.s), by rw [mS_ne (by simp), h0]; simp [mUp_at]⟩
  refine aw_aload_n k148_0 rfl ?_
  refine aw_aload_n k148_1 rfl ?_
  refine aw_callV0 k148_2 hC_M_keep ok_M_canKeep sv_M_113 hH_M_canKeep ⟨rfl, rfl⟩ (by decide) hN_M_canKeep (by rw [hL_M_canKeep]; exact Nat.le_of_ble_eq_true rfl) (Nat.le_of_ble_eq_true rfl) hc ?_
  refine aw_if_eq 12 k148_5 (by decide) (fun c_5 => ?_) (fun c_5 => ?_)
  · exact absurd (show (1 : Int32) = 0 from c_5) (by decide)
  · refine aw_iconst (v := 0) k148_8 (by decide) ?_
    refine aw_goto (t := 13) k148_9 (by decide) ?_
    refine aw_callV1 k148_13 hC_M_keep ok_M_holds sv_M_102 hH_M_holds ⟨rfl, rfl⟩ (by decide) hN_M_holds (by rw [hL_M_holds]; exact Nat.le_of_ble_eq_true rfl) (Nat.le_of_ble_eq_true rfl) holds_t ?_
    refine aw_if_ne 21 k148_16 (by decide) (fun c_16 => ?_) (fun c_16 => ?_)
    · refine aw_aload_n k148_21 rfl ?_
      refine aw_callV0v k148_22 hC_M_keep ok_M_records sv_M_105 hH_M_records ⟨rfl, rfl⟩ (by decide) hN_M_records (by rw [hL_M_records]; exact Nat.le_of_ble_eq_true rfl) (Nat.le_of_ble_eq_true rfl) hA ?_
      refine aw_aload_n k148_25 rfl ?_
      refine aw_callV0 k148_26 hC_M_keep ok_M_keeps sv_M_116 hH_M_keeps ⟨rfl, rfl⟩ (by decide) hN_M_keeps (by rw [hL_M_keeps]; exact Nat.le_of_ble_eq_true rfl) (Nat.le_of_ble_eq_true rfl) hk ?_
      refine aw_ireturn k148_29 hR_M_keep ?_ ?_
      all_goals first | rfl | exact Or.inl rfl | exact Or.inr rfl | assumption | (simp_all; done) | ((repeat' split) <;> first | rfl | (simp only [Int32.lt_iff_toInt_lt, Int32.le_iff_toInt_le, Int64.lt_iff_toInt_lt, Int64.le_iff_toInt_le] at *; omega) | (simp_all; done))
    · exact absurd (show (1 : Int32) = 0 from c_16) (by decide)
theorem m_isF {d L : Nat} {M : mM} {f t : Nat → Int32} {hs : List (Nat → Int32)} {sn : Option (Nat → Int32)} {x : Int32} (h : MR M f hs sn t L) (hS : ShF f) : CT iM_isField (d + 1) [vR 6 0 0, vI x] M (.inl (some (vI (bI (hasF f x))))) M 0 := by
  have := s_M_isField (d := d) (M := M) (x := x) (by rw [h.1]; exact hS)
  rw [h.1] at this
  exact this
theorem m_giveUpX {d L : Nat} {M : mM} {f t : Nat → Int32} {hs : List (Nat → Int32)} {sn : Option (Nat → Int32)} {x : Int32} (h : MR M f hs sn t L) (hS : ShF f) (hn : hasF f x = false) : CT iM_giveUp (d + 8) [vR 6 0 0, vI x] M (.inl (some (vI 0))) (mUp M (6, 0, 0) 0 1) 0 := by
  have hc := m_isF (d := d + 6) (x := x) h hS
  rw [hn] at hc
  refine ct_go hL_M_giveUp rfl ?_
  refine aw_aload_n k149_0 rfl ?_
  refine aw_aload_n k149_1 rfl ?_
  refine aw_iload_n k149_2 rfl ?_
  refine aw_callV1 k149_3 hC_M_giveUp ok_M_isField sv_M_33 hH_M_isField ⟨rfl, rfl⟩ (by decide) hN_M_isField (by rw [hL_M_isField]; exact Nat.le_of_ble_eq_true rfl) (Nat.le_of_ble_eq_true rfl) hc ?_
  refine aw_if_eq 13 k149_6 (by decide) (fun c_6 => ?_) (fun c_6 => ?_)
  · refine aw_iconst (v := 1) k149_13 (by decide) ?_
    refine aw_callV1 k149_14 hC_M_giveUp ok_M_holds sv_M_102 hH_M_holds ⟨rfl, rfl⟩ (by decide) hN_M_holds (by rw [hL_M_holds]; exact Nat.le_of_ble_eq_true rfl) (Nat.le_of_ble_eq_true rfl) (holds_f (by decide)) ?_
    refine aw_if_ne 22 k149_17 (by decide) (fun c_17 => ?_) (fun c_17 => ?_)
    · exact absurd rfl c_17
    · refine aw_iconst (v := 0) k149_20 (by decide) ?_
      refine aw_ireturn k149_21 hR_M_giveUp ?_ ?_
      all_goals first | rfl | exact Or.inl rfl | exact Or.inr rfl | assumption | (simp_all; done) | ((repeat' split) <;> first | rfl | (simp only [Int32.lt_iff_toInt_lt, Int32.le_iff_toInt_le, Int64.lt_iff_toInt_lt, Int64.le_iff_toInt_le] at *; omega) | (simp_all; done))
  · exact absurd rfl c_6
theorem m_giveUp {d L : Nat} {M : mM} {f t : Nat → Int32} {hs : List (Nat → Int32)} {sn : Option (Nat → Int32)} {x : Int32} (h : MR M f hs sn t L) (hS : ShF f) (hn : hasF f x = true) : ∃ M', CT iM_giveUp (d + 8) [vR 6 0 0, vI x] M (.inl (some (vI (fGive f x.toNatClampNeg 39)))) M' 0 ∧ mGood M M' (fGive f x.toNatClampNeg) ((f :: hs).take 4) sn t L := by
  have hc := m_isF (d := d + 6) (x := x) h hS
  rw [hn] at hc
  obtain ⟨M1, hA, hR, hF, h0⟩ := m_rec (d := d + 7) (h.thr (x := 0))
  obtain ⟨ex, hlt⟩ := hasF_at hn hS.2.2.1 hS.2.2.2.1
  have hk := s_M_gives (d := d + 6) (M := M1) hS hlt
  rw [mS_of hR.1, ← ex] at hk
  refine ⟨_, ct_go hL_M_giveUp rfl ?_, hR.set, MFr.u6.tr (hF.tr MFr.s), by rw [mS_ne (by simp), h0]; simp [mUp_at]⟩
  refine aw_aload_n k149_0 rfl ?_
  refine aw_aload_n k149_1 rfl ?_
  refine aw_iload_n k149_2 rfl ?_
  refine aw_callV1 k149_3 hC_M_giveUp ok_M_isField sv_M_33 hH_M_isField ⟨rfl, rfl⟩ (by decide) hN_M_isField (by rw [hL_M_isField]; exact Nat.le_of_ble_eq_true rfl) (Nat.le_of_ble_eq_true rfl) hc ?_
  refine aw_if_eq 13 k149_6 (by decide) (fun c_6 => ?_) (fun c_6 => ?_)
  · exact absurd (show (1 : Int32) = 0 from c_6) (by decide)
  · refine aw_iconst (v := 0) k149_9 (by decide) ?_
    refine aw_goto (t := 14) k149_10 (by decide) ?_
    refine aw_callV1 k149_14 hC_M_giveUp ok_M_holds sv_M_102 hH_M_holds ⟨rfl, rfl⟩ (by decide) hN_M_holds (by rw [hL_M_holds]; exact Nat.le_of_ble_eq_true rfl) (Nat.le_of_ble_eq_true rfl) holds_t ?_
    refine aw_if_ne 22 k149_17 (by decide) (fun c_17 => ?_) (fun c_17 => ?_)
    · refine aw_aload_n k149_22 rfl ?_
      refine aw_callV0v k149_23 hC_M_giveUp ok_M_records sv_M_105 hH_M_records ⟨rfl, rfl⟩ (by decide) hN_M_records (by rw [hL_M_records]; exact Nat.le_of_ble_eq_true rfl) (Nat.le_of_ble_eq_true rfl) hA ?_
      refine aw_aload_n k149_26 rfl ?_
      refine aw_iload_n k149_27 rfl ?_
      refine aw_callV1 k149_28 hC_M_giveUp ok_M_gives sv_M_119 hH_M_gives ⟨rfl, rfl⟩ (by decide) hN_M_gives (by rw [hL_M_gives]; exact Nat.le_of_ble_eq_true rfl) (Nat.le_of_ble_eq_true rfl) hk ?_
      refine aw_ireturn k149_31 hR_M_giveUp ?_ ?_
      all_goals first | rfl | exact Or.inl rfl | exact Or.inr rfl | assumption | (simp_all; done) | ((repeat' split) <;> first | rfl | (simp only [Int32.lt_iff_toInt_lt, Int32.le_iff_toInt_le, Int64.lt_iff_toInt_lt, Int64.le_iff_toInt_le] at *; omega) | (simp_all; done))
    · exact absurd (show (1 : Int32) = 0 from c_17) (by decide)
