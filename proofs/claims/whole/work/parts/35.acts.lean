/-! THE OFFICE'S ACTIONS -/
theorem x_A_addLeg {d L : Nat} {M : mM} {f t : Nat → Int32} {hs : List (Nat → Int32)} {sn : Option (Nat → Int32)} (h : CR M f hs sn t L) {x y l : Int32} (hx : ¬ (inR x 9999 ∧ inR y 9999 ∧ 1 ≤ l ∧ l ≤ 20000)) : CT iA_addLeg (d + 8) [vR 5 0 0, vI x, vI y, vI l] M (.inr tIAE) M 1 := by
  refine ct_go hL_A_addLeg rfl ?_
  by_cases h1 : inR x 9999
  · by_cases h2 : inR y 9999
    · refine aw_iload_n k67_0 rfl ?_
      refine aw_sipush (v := 9999) k67_1 (by decide) ?_
      refine aw_callS2 k67_4 hC_A_addLeg ok_A_isWithin ss_A_40 hH_A_isWithin (by rw [hL_A_isWithin]; exact Nat.le_of_ble_eq_true rfl) (Nat.le_of_ble_eq_true rfl) (iw_t h1) ?_
      refine aw_if_eq 20 k67_7 (by decide) (fun c_7 => ?_) (fun c_7 => ?_)
      · exact absurd (show (1 : Int32) = 0 from c_7) (by decide)
      · refine aw_iload_n k67_10 rfl ?_
        refine aw_sipush (v := 9999) k67_11 (by decide) ?_
        refine aw_callS2 k67_14 hC_A_addLeg ok_A_isWithin ss_A_40 hH_A_isWithin (by rw [hL_A_isWithin]; exact Nat.le_of_ble_eq_true rfl) (Nat.le_of_ble_eq_true rfl) (iw_t h2) ?_
        refine aw_if_ne 30 k67_17 (by decide) (fun c_17 => ?_) (fun c_17 => ?_)
        · refine aw_iload_n k67_30 rfl ?_
          refine aw_iconst (v := 1) k67_31 (by decide) ?_
          refine aw_icmp_lt 42 k67_32 (by decide) (fun c_32 => ?_) (fun c_32 => ?_)
          · exact aw_throw k67_42 k67_45 k67_46 k67_48 k67_51 hC_A_addLeg th_IAE (si := 1) rfl hH_A_addLeg (Nat.le_of_ble_eq_true rfl)
          · refine aw_iload_n k67_35 rfl ?_
            refine aw_sipush (v := 20000) k67_36 (by decide) ?_
            refine aw_icmp_le 52 k67_39 (by decide) (fun c_39 => ?_) (fun c_39 => ?_)
            · exact absurd ⟨h1, h2, Int32.not_lt.mp c_32, c_39⟩ hx
            · exact aw_throw k67_42 k67_45 k67_46 k67_48 k67_51 hC_A_addLeg th_IAE (si := 1) rfl hH_A_addLeg (Nat.le_of_ble_eq_true rfl)
        · exact absurd (show (1 : Int32) = 0 from c_17) (by decide)
    · refine aw_iload_n k67_0 rfl ?_
      refine aw_sipush (v := 9999) k67_1 (by decide) ?_
      refine aw_callS2 k67_4 hC_A_addLeg ok_A_isWithin ss_A_40 hH_A_isWithin (by rw [hL_A_isWithin]; exact Nat.le_of_ble_eq_true rfl) (Nat.le_of_ble_eq_true rfl) (iw_t h1) ?_
      refine aw_if_eq 20 k67_7 (by decide) (fun c_7 => ?_) (fun c_7 => ?_)
      · exact absurd (show (1 : Int32) = 0 from c_7) (by decide)
      · refine aw_iload_n k67_10 rfl ?_
        refine aw_sipush (v := 9999) k67_11 (by decide) ?_
        refine aw_callS2 k67_14 hC_A_addLeg ok_A_isWithin ss_A_40 hH_A_isWithin (by rw [hL_A_isWithin]; exact Nat.le_of_ble_eq_true rfl) (Nat.le_of_ble_eq_true rfl) (iw_f h2) ?_
        refine aw_if_ne 30 k67_17 (by decide) (fun c_17 => ?_) (fun c_17 => ?_)
        · exact absurd rfl c_17
        · exact aw_throw k67_20 k67_23 k67_24 k67_26 k67_29 hC_A_addLeg th_IAE (si := 0) rfl hH_A_addLeg (Nat.le_of_ble_eq_true rfl)
  · refine aw_iload_n k67_0 rfl ?_
    refine aw_sipush (v := 9999) k67_1 (by decide) ?_
    refine aw_callS2 k67_4 hC_A_addLeg ok_A_isWithin ss_A_40 hH_A_isWithin (by rw [hL_A_isWithin]; exact Nat.le_of_ble_eq_true rfl) (Nat.le_of_ble_eq_true rfl) (iw_f h1) ?_
    refine aw_if_eq 20 k67_7 (by decide) (fun c_7 => ?_) (fun c_7 => ?_)
    · exact aw_throw k67_20 k67_23 k67_24 k67_26 k67_29 hC_A_addLeg th_IAE (si := 0) rfl hH_A_addLeg (Nat.le_of_ble_eq_true rfl)
    · exact absurd rfl c_7
theorem y_A_addLeg {d L : Nat} {M : mM} {f t : Nat → Int32} {hs : List (Nat → Int32)} {sn : Option (Nat → Int32)} (h : CR M f hs sn t L) {x y l : Int32} (hx : inR x 9999 ∧ inR y 9999 ∧ 1 ≤ l ∧ l ≤ 20000) (hn : ¬ fN f < 12) : ∃ M', CT iA_addLeg (d + 8) [vR 5 0 0, vI x, vI y, vI l] M (.inr tISE) M' 1 ∧ CR M' f hs sn t L ∧ CFr M M' := by
  obtain ⟨M1, hA, hC, hR1, hF⟩ := s_A_beginTrial (d := d + 4) h
  have h5 : M1 (4, 1, 0) 5 = nI 12 := by
    have hT := hR1.n
    rw [hT.2.2.1]
    exact congrArg nI (by have := hT.2.1; omega)
  refine ⟨M1, ct_go hL_A_addLeg rfl ?_, hC, hF⟩
  refine aw_iload_n k67_0 rfl ?_
  refine aw_sipush (v := 9999) k67_1 (by decide) ?_
  refine aw_callS2 k67_4 hC_A_addLeg ok_A_isWithin ss_A_40 hH_A_isWithin (by rw [hL_A_isWithin]; exact Nat.le_of_ble_eq_true rfl) (Nat.le_of_ble_eq_true rfl) (iw_t hx.1) ?_
  refine aw_if_eq 20 k67_7 (by decide) (fun c_7 => ?_) (fun c_7 => ?_)
  · exact absurd (show (1 : Int32) = 0 from c_7) (by decide)
  · refine aw_iload_n k67_10 rfl ?_
    refine aw_sipush (v := 9999) k67_11 (by decide) ?_
    refine aw_callS2 k67_14 hC_A_addLeg ok_A_isWithin ss_A_40 hH_A_isWithin (by rw [hL_A_isWithin]; exact Nat.le_of_ble_eq_true rfl) (Nat.le_of_ble_eq_true rfl) (iw_t hx.2.1) ?_
    refine aw_if_ne 30 k67_17 (by decide) (fun c_17 => ?_) (fun c_17 => ?_)
    · refine aw_iload_n k67_30 rfl ?_
      refine aw_iconst (v := 1) k67_31 (by decide) ?_
      refine aw_icmp_lt 42 k67_32 (by decide) (fun c_32 => ?_) (fun c_32 => ?_)
      · exact absurd hx.2.2.1 (Int32.not_le.mpr c_32)
      · refine aw_iload_n k67_35 rfl ?_
        refine aw_sipush (v := 20000) k67_36 (by decide) ?_
        refine aw_icmp_le 52 k67_39 (by decide) (fun c_39 => ?_) (fun c_39 => ?_)
        · refine aw_aload_n k67_52 rfl ?_
          refine aw_callV0v k67_53 hC_A_addLeg ok_A_beginTrial sv_A_53 hH_A_beginTrial ⟨rfl, rfl⟩ (by decide) hN_A_beginTrial (by rw [hL_A_beginTrial]; exact Nat.le_of_ble_eq_true rfl) (Nat.le_of_ble_eq_true rfl) hA ?_
          refine aw_aload_n k67_56 rfl ?_
          refine aw_getR k67_57 hC_A_addLeg fs_A_16 (by decide) ⟨rfl, rfl⟩ rfl ?_
          refine aw_getR k67_60 hC_A_addLeg fs_A_56 (by decide) ⟨(by first | assumption | decide), rfl⟩ rfl ?_
          refine aw_iload_n k67_63 rfl ?_
          refine aw_iload_n k67_64 rfl ?_
          refine aw_iload_n k67_65 rfl ?_
          refine aw_callV3 k67_66 hC_A_addLeg ok_T_append sv_A_60 hH_T_append ⟨(by first | assumption | decide), rfl⟩ (by decide) hN_T_append (by rw [hL_T_append]; exact Nat.le_of_ble_eq_true rfl) (Nat.le_of_ble_eq_true rfl) (s_T_appendFull (by decide) h5) ?_
          refine aw_if_ne 82 k67_69 (by decide) (fun c_69 => ?_) (fun c_69 => ?_)
          · exact absurd rfl c_69
          · exact aw_throw k67_72 k67_75 k67_76 k67_78 k67_81 hC_A_addLeg th_ISE (si := 2) rfl hH_A_addLeg (Nat.le_of_ble_eq_true rfl)
        · exact absurd hx.2.2.2 c_39
    · exact absurd (show (1 : Int32) = 0 from c_17) (by decide)
theorem s_A_addLeg {d L : Nat} {M : mM} {f t : Nat → Int32} {hs : List (Nat → Int32)} {sn : Option (Nat → Int32)} (h : CR M f hs sn t L) {x y l : Int32} (hx : inR x 9999 ∧ inR y 9999 ∧ 1 ≤ l ∧ l ≤ 20000) (hn : fN f < 12) : ∃ M', CT iA_addLeg (d + 8) [vR 5 0 0, vI x, vI y, vI l] M (.inl (some (vI (fAdd f x y l 0)))) M' 0 ∧ CR M' (fAdd f x y l) ((f :: hs).take 4) sn t L ∧ CFr M M' := by
  obtain ⟨M1, hA, hC, hR1, hF⟩ := s_A_beginTrial (d := d + 4) h
  have h5 := hR1.n.2.2.1
  have hrel := tApp_rel (e := x) (o := y) (l := l) hR1 hn
  obtain ⟨M2, hA2, hC2, hF2⟩ := s_A_settleTrial (d := d + 3) (hC.trial hrel.2) hrel.1
  have h5' := hC2.1.n.2.2.1.trans hC2.1.n.1.symm
  refine ⟨M2, ct_go hL_A_addLeg rfl ?_, hC2, hF.tr (hrel.2.c.tr hF2)⟩
  refine aw_iload_n k67_0 rfl ?_
  refine aw_sipush (v := 9999) k67_1 (by decide) ?_
  refine aw_callS2 k67_4 hC_A_addLeg ok_A_isWithin ss_A_40 hH_A_isWithin (by rw [hL_A_isWithin]; exact Nat.le_of_ble_eq_true rfl) (Nat.le_of_ble_eq_true rfl) (iw_t hx.1) ?_
  refine aw_if_eq 20 k67_7 (by decide) (fun c_7 => ?_) (fun c_7 => ?_)
  · exact absurd (show (1 : Int32) = 0 from c_7) (by decide)
  · refine aw_iload_n k67_10 rfl ?_
    refine aw_sipush (v := 9999) k67_11 (by decide) ?_
    refine aw_callS2 k67_14 hC_A_addLeg ok_A_isWithin ss_A_40 hH_A_isWithin (by rw [hL_A_isWithin]; exact Nat.le_of_ble_eq_true rfl) (Nat.le_of_ble_eq_true rfl) (iw_t hx.2.1) ?_
    refine aw_if_ne 30 k67_17 (by decide) (fun c_17 => ?_) (fun c_17 => ?_)
    · refine aw_iload_n k67_30 rfl ?_
      refine aw_iconst (v := 1) k67_31 (by decide) ?_
      refine aw_icmp_lt 42 k67_32 (by decide) (fun c_32 => ?_) (fun c_32 => ?_)
      · exact absurd hx.2.2.1 (Int32.not_le.mpr c_32)
      · refine aw_iload_n k67_35 rfl ?_
        refine aw_sipush (v := 20000) k67_36 (by decide) ?_
        refine aw_icmp_le 52 k67_39 (by decide) (fun c_39 => ?_) (fun c_39 => ?_)
        · refine aw_aload_n k67_52 rfl ?_
          refine aw_callV0v k67_53 hC_A_addLeg ok_A_beginTrial sv_A_53 hH_A_beginTrial ⟨rfl, rfl⟩ (by decide) hN_A_beginTrial (by rw [hL_A_beginTrial]; exact Nat.le_of_ble_eq_true rfl) (Nat.le_of_ble_eq_true rfl) hA ?_
          refine aw_aload_n k67_56 rfl ?_
          refine aw_getR k67_57 hC_A_addLeg fs_A_16 (by decide) ⟨rfl, rfl⟩ rfl ?_
          refine aw_getR k67_60 hC_A_addLeg fs_A_56 (by decide) ⟨(by first | assumption | decide), rfl⟩ rfl ?_
          refine aw_iload_n k67_63 rfl ?_
          refine aw_iload_n k67_64 rfl ?_
          refine aw_iload_n k67_65 rfl ?_
          refine aw_callV3 k67_66 hC_A_addLeg ok_T_append sv_A_60 hH_T_append ⟨(by first | assumption | decide), rfl⟩ (by decide) hN_T_append (by rw [hL_T_append]; exact Nat.le_of_ble_eq_true rfl) (Nat.le_of_ble_eq_true rfl) (s_T_append (by decide) hn h5) ?_
          refine aw_if_ne 82 k67_69 (by decide) (fun c_69 => ?_) (fun c_69 => ?_)
          · refine aw_aload_n k67_82 rfl ?_
            refine aw_callV0v k67_83 hC_A_addLeg ok_A_settleTrial sv_A_71 hH_A_settleTrial ⟨rfl, rfl⟩ (by decide) hN_A_settleTrial (by rw [hL_A_settleTrial]; exact Nat.le_of_ble_eq_true rfl) (Nat.le_of_ble_eq_true rfl) hA2 ?_
            refine aw_aload_n k67_86 rfl ?_
            refine aw_getR k67_87 hC_A_addLeg fs_A_10 (by decide) ⟨rfl, rfl⟩ rfl ?_
            refine aw_getR k67_90 hC_A_addLeg fs_A_56 (by decide) ⟨(by first | assumption | decide), rfl⟩ rfl ?_
            refine aw_getI k67_93 hC_A_addLeg fs_A_74 (by decide) ⟨(by first | assumption | decide), rfl⟩ rfl ?_
            refine aw_ireturn k67_96 hR_A_addLeg ?_ ?_
            exact h5'; rfl
          · exact absurd (show (1 : Int32) = 0 from c_69) (by decide)
        · exact absurd hx.2.2.2 c_39
    · exact absurd (show (1 : Int32) = 0 from c_17) (by decide)
theorem x_A_takeBack {d L : Nat} {M : mM} {f t : Nat → Int32} {hs : List (Nat → Int32)} {sn : Option (Nat → Int32)} (h : CR M f hs sn t L) (hn : ¬ 0 < fN f) : ∃ M', CT iA_takeBack (d + 8) [vR 5 0 0] M (.inr tISE) M' 1 ∧ CR M' f hs sn t L ∧ CFr M M' := by
  obtain ⟨M1, hA, hC, hR1, hF⟩ := s_A_beginTrial (d := d + 4) h
  have h5 : M1 (4, 1, 0) 5 = nI 0 := by rw [hR1.n.2.2.1]; exact congrArg nI (by omega)
  refine ⟨M1, ct_go hL_A_takeBack rfl ?_, hC, hF⟩
  refine aw_aload_n k68_0 rfl ?_
  refine aw_callV0v k68_1 hC_A_takeBack ok_A_beginTrial sv_A_53 hH_A_beginTrial ⟨rfl, rfl⟩ (by decide) hN_A_beginTrial (by rw [hL_A_beginTrial]; exact Nat.le_of_ble_eq_true rfl) (Nat.le_of_ble_eq_true rfl) hA ?_
  refine aw_aload_n k68_4 rfl ?_
  refine aw_getR k68_5 hC_A_takeBack fs_A_16 (by decide) ⟨rfl, rfl⟩ rfl ?_
  refine aw_getR k68_8 hC_A_takeBack fs_A_56 (by decide) ⟨(by first | assumption | decide), rfl⟩ rfl ?_
  refine aw_callV0 k68_11 hC_A_takeBack ok_T_dropLast sv_A_78 hH_T_dropLast ⟨(by first | assumption | decide), rfl⟩ (by decide) hN_T_dropLast (by rw [hL_T_dropLast]; exact Nat.le_of_ble_eq_true rfl) (Nat.le_of_ble_eq_true rfl) (s_T_dropLast0 (by decide) h5) ?_
  refine aw_if_ne 27 k68_14 (by decide) (fun c_14 => ?_) (fun c_14 => ?_)
  · exact absurd rfl c_14
  · exact aw_throw k68_17 k68_20 k68_21 k68_23 k68_26 hC_A_takeBack th_ISE (si := 3) rfl hH_A_takeBack (Nat.le_of_ble_eq_true rfl)
theorem s_A_takeBack {d L : Nat} {M : mM} {f t : Nat → Int32} {hs : List (Nat → Int32)} {sn : Option (Nat → Int32)} (h : CR M f hs sn t L) (hn : 0 < fN f) : ∃ M', CT iA_takeBack (d + 8) [vR 5 0 0] M (.inl (some (vI (fTake f 0)))) M' 0 ∧ CR M' (fTake f) ((f :: hs).take 4) sn t L ∧ CFr M M' := by
  obtain ⟨M1, hA, hC, hR1, hF⟩ := s_A_beginTrial (d := d + 4) h
  have hT := hR1.n
  have h5 : M1 (4, 1, 0) 5 = nI (fN f - 1 + 1) := by rw [hT.2.2.1]; exact congrArg nI (by omega)
  have hn2 : fN f - 1 < 12 := by have := hT.2.1; omega
  have hrel := tDrop_rel hR1 hn
  obtain ⟨M2, hA2, hC2, hF2⟩ := s_A_settleTrial (d := d + 3) (hC.trial hrel.2) hrel.1
  have h5' := hC2.1.n.2.2.1.trans hC2.1.n.1.symm
  refine ⟨M2, ct_go hL_A_takeBack rfl ?_, hC2, hF.tr (hrel.2.c.tr hF2)⟩
  refine aw_aload_n k68_0 rfl ?_
  refine aw_callV0v k68_1 hC_A_takeBack ok_A_beginTrial sv_A_53 hH_A_beginTrial ⟨rfl, rfl⟩ (by decide) hN_A_beginTrial (by rw [hL_A_beginTrial]; exact Nat.le_of_ble_eq_true rfl) (Nat.le_of_ble_eq_true rfl) hA ?_
  refine aw_aload_n k68_4 rfl ?_
  refine aw_getR k68_5 hC_A_takeBack fs_A_16 (by decide) ⟨rfl, rfl⟩ rfl ?_
  refine aw_getR k68_8 hC_A_takeBack fs_A_56 (by decide) ⟨(by first | assumption | decide), rfl⟩ rfl ?_
  refine aw_callV0 k68_11 hC_A_takeBack ok_T_dropLast sv_A_78 hH_T_dropLast ⟨(by first | assumption | decide), rfl⟩ (by decide) hN_T_dropLast (by rw [hL_T_dropLast]; exact Nat.le_of_ble_eq_true rfl) (Nat.le_of_ble_eq_true rfl) (s_T_dropLast (by decide) hn2 h5) ?_
  refine aw_if_ne 27 k68_14 (by decide) (fun c_14 => ?_) (fun c_14 => ?_)
  · refine aw_aload_n k68_27 rfl ?_
    refine aw_callV0v k68_28 hC_A_takeBack ok_A_settleTrial sv_A_71 hH_A_settleTrial ⟨rfl, rfl⟩ (by decide) hN_A_settleTrial (by rw [hL_A_settleTrial]; exact Nat.le_of_ble_eq_true rfl) (Nat.le_of_ble_eq_true rfl) hA2 ?_
    refine aw_aload_n k68_31 rfl ?_
    refine aw_getR k68_32 hC_A_takeBack fs_A_10 (by decide) ⟨rfl, rfl⟩ rfl ?_
    refine aw_getR k68_35 hC_A_takeBack fs_A_56 (by decide) ⟨(by first | assumption | decide), rfl⟩ rfl ?_
    refine aw_getI k68_38 hC_A_takeBack fs_A_74 (by decide) ⟨(by first | assumption | decide), rfl⟩ rfl ?_
    refine aw_ireturn k68_41 hR_A_takeBack ?_ ?_
    exact h5'; rfl
  · exact absurd (show (1 : Int32) = 0 from c_14) (by decide)
theorem x_A_setOrigin {d L : Nat} {M : mM} {f t : Nat → Int32} {hs : List (Nat → Int32)} {sn : Option (Nat → Int32)} (h : CR M f hs sn t L) {x y : Int32} (hx : ¬ (inR x 50000 ∧ inR y 50000)) : CT iA_setOrigin (d + 8) [vR 5 0 0, vI x, vI y] M (.inr tIAE) M 1 := by
  refine ct_go hL_A_setOrigin rfl ?_
  by_cases h1 : inR x 50000
  · have h2 : ¬ inR y 50000 := fun q => hx ⟨h1, q⟩
    refine aw_iload_n k69_0 rfl ?_
    refine aw_ldc k69_1 hC_A_setOrigin ci_A_84 ?_
    refine aw_callS2 k69_3 hC_A_setOrigin ok_A_isWithin ss_A_40 hH_A_isWithin (by rw [hL_A_isWithin]; exact Nat.le_of_ble_eq_true rfl) (Nat.le_of_ble_eq_true rfl) (iw_t h1) ?_
    refine aw_if_eq 18 k69_6 (by decide) (fun c_6 => ?_) (fun c_6 => ?_)
    · exact absurd (show (1 : Int32) = 0 from c_6) (by decide)
    · refine aw_iload_n k69_9 rfl ?_
      refine aw_ldc k69_10 hC_A_setOrigin ci_A_84 ?_
      refine aw_callS2 k69_12 hC_A_setOrigin ok_A_isWithin ss_A_40 hH_A_isWithin (by rw [hL_A_isWithin]; exact Nat.le_of_ble_eq_true rfl) (Nat.le_of_ble_eq_true rfl) (iw_f h2) ?_
      refine aw_if_ne 28 k69_15 (by decide) (fun c_15 => ?_) (fun c_15 => ?_)
      · exact absurd rfl c_15
      · exact aw_throw k69_18 k69_21 k69_22 k69_24 k69_27 hC_A_setOrigin th_IAE (si := 4) rfl hH_A_setOrigin (Nat.le_of_ble_eq_true rfl)
  · refine aw_iload_n k69_0 rfl ?_
    refine aw_ldc k69_1 hC_A_setOrigin ci_A_84 ?_
    refine aw_callS2 k69_3 hC_A_setOrigin ok_A_isWithin ss_A_40 hH_A_isWithin (by rw [hL_A_isWithin]; exact Nat.le_of_ble_eq_true rfl) (Nat.le_of_ble_eq_true rfl) (iw_f h1) ?_
    refine aw_if_eq 18 k69_6 (by decide) (fun c_6 => ?_) (fun c_6 => ?_)
    · exact aw_throw k69_18 k69_21 k69_22 k69_24 k69_27 hC_A_setOrigin th_IAE (si := 4) rfl hH_A_setOrigin (Nat.le_of_ble_eq_true rfl)
    · exact absurd rfl c_6
theorem s_A_setOrigin {d L : Nat} {M : mM} {f t : Nat → Int32} {hs : List (Nat → Int32)} {sn : Option (Nat → Int32)} (h : CR M f hs sn t L) {x y : Int32} (hx : inR x 50000 ∧ inR y 50000) : ∃ M', CT iA_setOrigin (d + 8) [vR 5 0 0, vI x, vI y] M (.inl (some (vI (fOrg f x y 0)))) M' 0 ∧ CR M' (fOrg f x y) ((f :: hs).take 4) sn t L ∧ CFr M M' := by
  obtain ⟨M1, hA, hC, hR1, hF⟩ := s_A_beginTrial (d := d + 4) h
  have hrel := tOrg_rel (x := x) (y := y) hR1
  obtain ⟨M2, hA2, hC2, hF2⟩ := s_A_settleTrial (d := d + 3) (hC.trial hrel.2) hrel.1
  have h5' := hC2.1.n.2.2.1.trans hC2.1.n.1.symm
  refine ⟨M2, ct_go hL_A_setOrigin rfl ?_, hC2, hF.tr (hrel.2.c.tr hF2)⟩
  refine aw_iload_n k69_0 rfl ?_
  refine aw_ldc k69_1 hC_A_setOrigin ci_A_84 ?_
  refine aw_callS2 k69_3 hC_A_setOrigin ok_A_isWithin ss_A_40 hH_A_isWithin (by rw [hL_A_isWithin]; exact Nat.le_of_ble_eq_true rfl) (Nat.le_of_ble_eq_true rfl) (iw_t hx.1) ?_
  refine aw_if_eq 18 k69_6 (by decide) (fun c_6 => ?_) (fun c_6 => ?_)
  · exact absurd (show (1 : Int32) = 0 from c_6) (by decide)
  · refine aw_iload_n k69_9 rfl ?_
    refine aw_ldc k69_10 hC_A_setOrigin ci_A_84 ?_
    refine aw_callS2 k69_12 hC_A_setOrigin ok_A_isWithin ss_A_40 hH_A_isWithin (by rw [hL_A_isWithin]; exact Nat.le_of_ble_eq_true rfl) (Nat.le_of_ble_eq_true rfl) (iw_t hx.2) ?_
    refine aw_if_ne 28 k69_15 (by decide) (fun c_15 => ?_) (fun c_15 => ?_)
    · refine aw_aload_n k69_28 rfl ?_
      refine aw_callV0v k69_29 hC_A_setOrigin ok_A_beginTrial sv_A_53 hH_A_beginTrial ⟨rfl, rfl⟩ (by decide) hN_A_beginTrial (by rw [hL_A_beginTrial]; exact Nat.le_of_ble_eq_true rfl) (Nat.le_of_ble_eq_true rfl) hA ?_
      refine aw_aload_n k69_32 rfl ?_
      refine aw_getR k69_33 hC_A_setOrigin fs_A_16 (by decide) ⟨rfl, rfl⟩ rfl ?_
      refine aw_getR k69_36 hC_A_setOrigin fs_A_56 (by decide) ⟨(by first | assumption | decide), rfl⟩ rfl ?_
      refine aw_iload_n k69_39 rfl ?_
      refine aw_iload_n k69_40 rfl ?_
      refine aw_callV2v k69_41 hC_A_setOrigin ok_T_moveOrigin sv_A_87 hH_T_moveOrigin ⟨(by first | assumption | decide), rfl⟩ (by decide) hN_T_moveOrigin (by rw [hL_T_moveOrigin]; exact Nat.le_of_ble_eq_true rfl) (Nat.le_of_ble_eq_true rfl) (s_T_moveOrigin (by decide)) ?_
      refine aw_aload_n k69_44 rfl ?_
      refine aw_callV0v k69_45 hC_A_setOrigin ok_A_settleTrial sv_A_71 hH_A_settleTrial ⟨rfl, rfl⟩ (by decide) hN_A_settleTrial (by rw [hL_A_settleTrial]; exact Nat.le_of_ble_eq_true rfl) (Nat.le_of_ble_eq_true rfl) hA2 ?_
      refine aw_aload_n k69_48 rfl ?_
      refine aw_getR k69_49 hC_A_setOrigin fs_A_10 (by decide) ⟨rfl, rfl⟩ rfl ?_
      refine aw_getR k69_52 hC_A_setOrigin fs_A_56 (by decide) ⟨(by first | assumption | decide), rfl⟩ rfl ?_
      refine aw_getI k69_55 hC_A_setOrigin fs_A_74 (by decide) ⟨(by first | assumption | decide), rfl⟩ rfl ?_
      refine aw_ireturn k69_58 hR_A_setOrigin ?_ ?_
      exact h5'; rfl
    · exact absurd (show (1 : Int32) = 0 from c_15) (by decide)
theorem x_A_keep {d L : Nat} {M : mM} {f t : Nat → Int32} {hs : List (Nat → Int32)} {sn : Option (Nat → Int32)} (h : CR M f hs sn t L) (hn : canKeepF f = false) : ∃ M', CT iA_keep (d + 8) [vR 5 0 0] M (.inr tISE) M' 1 ∧ CR M' f hs sn t L ∧ CFr M M' := by
  obtain ⟨M1, hA, hC, hR1, hF⟩ := s_A_beginTrial (d := d + 4) h
  obtain ⟨M2, hA2, hR2, hF2⟩ := s_S_keepTraverse (d := d + 2) hR1
  rw [hn] at hA2
  refine ⟨M2, ct_go hL_A_keep rfl ?_, hC.trial hF2, hF.tr hF2.c⟩
  refine aw_aload_n k70_0 rfl ?_
  refine aw_callV0v k70_1 hC_A_keep ok_A_beginTrial sv_A_53 hH_A_beginTrial ⟨rfl, rfl⟩ (by decide) hN_A_beginTrial (by rw [hL_A_beginTrial]; exact Nat.le_of_ble_eq_true rfl) (Nat.le_of_ble_eq_true rfl) hA ?_
  refine aw_aload_n k70_4 rfl ?_
  refine aw_getR k70_5 hC_A_keep fs_A_16 (by decide) ⟨rfl, rfl⟩ rfl ?_
  refine aw_callV0 k70_8 hC_A_keep ok_S_keepTraverse sv_A_91 hH_S_keepTraverse ⟨(by first | assumption | decide), rfl⟩ (by decide) hN_S_keepTraverse (by rw [hL_S_keepTraverse]; exact Nat.le_of_ble_eq_true rfl) (Nat.le_of_ble_eq_true rfl) hA2 ?_
  refine aw_if_ne 24 k70_11 (by decide) (fun c_11 => ?_) (fun c_11 => ?_)
  · exact absurd rfl c_11
  · exact aw_throw k70_14 k70_17 k70_18 k70_20 k70_23 hC_A_keep th_ISE (si := 5) rfl hH_A_keep (Nat.le_of_ble_eq_true rfl)
theorem s_A_keep {d L : Nat} {M : mM} {f t : Nat → Int32} {hs : List (Nat → Int32)} {sn : Option (Nat → Int32)} (h : CR M f hs sn t L) (hn : canKeepF f = true) : ∃ M', CT iA_keep (d + 8) [vR 5 0 0] M (.inl (some (vI (fKeep f 39 - 1)))) M' 0 ∧ CR M' (fKeep f) ((f :: hs).take 4) sn t L ∧ CFr M M' := by
  obtain ⟨M1, hA, hC, hR1, hF⟩ := s_A_beginTrial (d := d + 4) h
  obtain ⟨M2, hA2, hR2, hF2⟩ := s_S_keepTraverse (d := d + 2) hR1
  rw [hn] at hA2 hR2
  rw [if_pos rfl] at hR2
  obtain ⟨M3, hA3, hC3, hF3⟩ := s_A_settleTrial (d := d + 3) (hC.trial hF2) hR2
  have h5' := hC3.1.c.2.2.1.trans hC3.1.c.1.symm
  refine ⟨M3, ct_go hL_A_keep rfl ?_, hC3, hF.tr (hF2.c.tr hF3)⟩
  refine aw_aload_n k70_0 rfl ?_
  refine aw_callV0v k70_1 hC_A_keep ok_A_beginTrial sv_A_53 hH_A_beginTrial ⟨rfl, rfl⟩ (by decide) hN_A_beginTrial (by rw [hL_A_beginTrial]; exact Nat.le_of_ble_eq_true rfl) (Nat.le_of_ble_eq_true rfl) hA ?_
  refine aw_aload_n k70_4 rfl ?_
  refine aw_getR k70_5 hC_A_keep fs_A_16 (by decide) ⟨rfl, rfl⟩ rfl ?_
  try simp only [h5']
  refine aw_callV0 k70_8 hC_A_keep ok_S_keepTraverse sv_A_91 hH_S_keepTraverse ⟨(by first | assumption | decide), rfl⟩ (by decide) hN_S_keepTraverse (by rw [hL_S_keepTraverse]; exact Nat.le_of_ble_eq_true rfl) (Nat.le_of_ble_eq_true rfl) hA2 ?_
  refine aw_if_ne 24 k70_11 (by decide) (fun c_11 => ?_) (fun c_11 => ?_)
  · refine aw_aload_n k70_24 rfl ?_
    refine aw_callV0v k70_25 hC_A_keep ok_A_settleTrial sv_A_71 hH_A_settleTrial ⟨rfl, rfl⟩ (by decide) hN_A_settleTrial (by rw [hL_A_settleTrial]; exact Nat.le_of_ble_eq_true rfl) (Nat.le_of_ble_eq_true rfl) hA3 ?_
    refine aw_aload_n k70_28 rfl ?_
    refine aw_getR k70_29 hC_A_keep fs_A_10 (by decide) ⟨rfl, rfl⟩ rfl ?_
    try simp only [h5']
    refine aw_getI k70_32 hC_A_keep fs_A_96 (by decide) ⟨(by first | assumption | decide), rfl⟩ rfl ?_
    try simp only [h5']
    refine aw_iconst (v := 1) k70_35 (by decide) ?_
    refine aw_isub k70_36 ?_
    refine aw_ireturn k70_37 hR_A_keep ?_ ?_
    all_goals first | rfl | exact Or.inl rfl | exact Or.inr rfl | assumption | (simp_all; done) | ((repeat' split) <;> first | rfl | (simp only [Int32.lt_iff_toInt_lt, Int32.le_iff_toInt_le, Int64.lt_iff_toInt_lt, Int64.le_iff_toInt_le] at *; omega) | (simp_all; done))
  · exact absurd (show (1 : Int32) = 0 from c_11) (by decide)
theorem x_A_giveUp {d L : Nat} {M : mM} {f t : Nat → Int32} {hs : List (Nat → Int32)} {sn : Option (Nat → Int32)} (h : CR M f hs sn t L) {x : Int32} (hn : hasF f x = false) : ∃ M', CT iA_giveUp (d + 8) [vR 5 0 0, vI x] M (.inr tIOB) M' 1 ∧ CR M' f hs sn t L ∧ CFr M M' := by
  obtain ⟨M1, hA, hC, hR1, hF⟩ := s_A_beginTrial (d := d + 4) h
  obtain ⟨M2, hA2, hR2, hF2⟩ := s_S_dropField (d := d + 5) (x := x) hR1
  rw [hn] at hA2
  refine ⟨M2, ct_go hL_A_giveUp rfl ?_, hC.trial hF2, hF.tr hF2.c⟩
  refine aw_aload_n k71_0 rfl ?_
  refine aw_callV0v k71_1 hC_A_giveUp ok_A_beginTrial sv_A_53 hH_A_beginTrial ⟨rfl, rfl⟩ (by decide) hN_A_beginTrial (by rw [hL_A_beginTrial]; exact Nat.le_of_ble_eq_true rfl) (Nat.le_of_ble_eq_true rfl) hA ?_
  refine aw_aload_n k71_4 rfl ?_
  refine aw_getR k71_5 hC_A_giveUp fs_A_16 (by decide) ⟨rfl, rfl⟩ rfl ?_
  refine aw_iload_n k71_8 rfl ?_
  refine aw_callV1 k71_9 hC_A_giveUp ok_S_dropField sv_A_99 hH_S_dropField ⟨(by first | assumption | decide), rfl⟩ (by decide) hN_S_dropField (by rw [hL_S_dropField]; exact Nat.le_of_ble_eq_true rfl) (Nat.le_of_ble_eq_true rfl) hA2 ?_
  refine aw_if_ne 25 k71_12 (by decide) (fun c_12 => ?_) (fun c_12 => ?_)
  · exact absurd rfl c_12
  · exact aw_throw k71_15 k71_18 k71_19 k71_21 k71_24 hC_A_giveUp th_IOB (si := 6) rfl hH_A_giveUp (Nat.le_of_ble_eq_true rfl)
theorem s_A_giveUp {d L : Nat} {M : mM} {f t : Nat → Int32} {hs : List (Nat → Int32)} {sn : Option (Nat → Int32)} (h : CR M f hs sn t L) {x : Int32} (hn : hasF f x = true) : ∃ M', CT iA_giveUp (d + 8) [vR 5 0 0, vI x] M (.inl (some (vI (fGive f x.toNatClampNeg 39)))) M' 0 ∧ CR M' (fGive f x.toNatClampNeg) ((f :: hs).take 4) sn t L ∧ CFr M M' := by
  obtain ⟨M1, hA, hC, hR1, hF⟩ := s_A_beginTrial (d := d + 4) h
  obtain ⟨M2, hA2, hR2, hF2⟩ := s_S_dropField (d := d + 5) (x := x) hR1
  rw [hn] at hA2 hR2
  rw [if_pos rfl] at hR2
  obtain ⟨M3, hA3, hC3, hF3⟩ := s_A_settleTrial (d := d + 3) (hC.trial hF2) hR2
  have h5' := hC3.1.c.2.2.1.trans hC3.1.c.1.symm
  refine ⟨M3, ct_go hL_A_giveUp rfl ?_, hC3, hF.tr (hF2.c.tr hF3)⟩
  refine aw_aload_n k71_0 rfl ?_
  refine aw_callV0v k71_1 hC_A_giveUp ok_A_beginTrial sv_A_53 hH_A_beginTrial ⟨rfl, rfl⟩ (by decide) hN_A_beginTrial (by rw [hL_A_beginTrial]; exact Nat.le_of_ble_eq_true rfl) (Nat.le_of_ble_eq_true rfl) hA ?_
  refine aw_aload_n k71_4 rfl ?_
  refine aw_getR k71_5 hC_A_giveUp fs_A_16 (by decide) ⟨rfl, rfl⟩ rfl ?_
  refine aw_iload_n k71_8 rfl ?_
  refine aw_callV1 k71_9 hC_A_giveUp ok_S_dropField sv_A_99 hH_S_dropField ⟨(by first | assumption | decide), rfl⟩ (by decide) hN_S_dropField (by rw [hL_S_dropField]; exact Nat.le_of_ble_eq_true rfl) (Nat.le_of_ble_eq_true rfl) hA2 ?_
  refine aw_if_ne 25 k71_12 (by decide) (fun c_12 => ?_) (fun c_12 => ?_)
  · refine aw_aload_n k71_25 rfl ?_
    refine aw_callV0v k71_26 hC_A_giveUp ok_A_settleTrial sv_A_71 hH_A_settleTrial ⟨rfl, rfl⟩ (by decide) hN_A_settleTrial (by rw [hL_A_settleTrial]; exact Nat.le_of_ble_eq_true rfl) (Nat.le_of_ble_eq_true rfl) hA3 ?_
    refine aw_aload_n k71_29 rfl ?_
    refine aw_getR k71_30 hC_A_giveUp fs_A_10 (by decide) ⟨rfl, rfl⟩ rfl ?_
    refine aw_getI k71_33 hC_A_giveUp fs_A_96 (by decide) ⟨(by first | assumption | decide), rfl⟩ rfl ?_
    refine aw_ireturn k71_36 hR_A_giveUp ?_ ?_
    exact h5'; rfl
  · exact absurd (show (1 : Int32) = 0 from c_12) (by decide)
theorem x_A_type {d L : Nat} {M : mM} {f t : Nat → Int32} {hs : List (Nat → Int32)} {sn : Option (Nat → Int32)} (h : CR M f hs sn t L) {x : Int32} (hn : ¬ L < 80) : CT iA_type (d + 8) [vR 5 0 0, vI x] M (.inr tISE) M 1 := by
  have h1 : M (2, 0, 0) 1 = nI 80 := h.2.2.2.2.1.trans (congrArg nI (by have := h.2.2.2.1; omega))
  refine ct_go hL_A_type rfl ?_
  refine aw_aload_n k72_0 rfl ?_
  refine aw_getR k72_1 hC_A_type fs_A_32 (by decide) ⟨rfl, rfl⟩ rfl ?_
  refine aw_iload_n k72_4 rfl ?_
  refine aw_callV1 k72_5 hC_A_type ok_O_append sv_A_108 hH_O_append ⟨rfl, rfl⟩ (by decide) hN_O_append (by rw [hL_O_append]; exact Nat.le_of_ble_eq_true rfl) (Nat.le_of_ble_eq_true rfl) (s_O_appendFull h1) ?_
  refine aw_if_ne 21 k72_8 (by decide) (fun c_8 => ?_) (fun c_8 => ?_)
  · exact absurd rfl c_8
  · exact aw_throw k72_11 k72_14 k72_15 k72_17 k72_20 hC_A_type th_ISE (si := 7) rfl hH_A_type (Nat.le_of_ble_eq_true rfl)
theorem s_A_type {d L : Nat} {M : mM} {f t : Nat → Int32} {hs : List (Nat → Int32)} {sn : Option (Nat → Int32)} (h : CR M f hs sn t L) {x : Int32} (hn : L < 80) : ∃ M', CT iA_type (d + 8) [vR 5 0 0, vI x] M (.inl (some (vI (nI (L + 1))))) M' 0 ∧ CR M' f hs sn (fun j => if j = L then vp_nar .char x else t j) (L + 1) ∧ CFr M M' := by
  have h1 := h.2.2.2.2.1
  obtain ⟨g1, ⟨a, a1, a2, a3, a4, a5⟩, ⟨b1, b2⟩, c1, c2, c3⟩ := h
  have hin : ∀ s r, InS s r → mUp (mUp M (12, 0, 0) L (vp_nar .char x)) (2, 0, 0) 1 (nI (L + 1)) r = M r := fun s r hr => by
    rw [mUp_ne (fun q => by subst q; have := hr.2; simp at this), mUp_ne (fun q => by subst q; have := hr.2; simp at this)]
  refine ⟨_, ct_go hL_A_type rfl ?_, ⟨g1.congr (hin _), ⟨a, a1, ?_, ?_, a4, fun i g hg => (a5 i g hg).congr (hin _)⟩, ⟨?_, fun g hg => (b2 g hg).congr (hin _)⟩, hn, ?_, fun j hj => ?_⟩, fun r hr => ?_⟩
  · refine aw_aload_n k72_0 rfl ?_
    refine aw_getR k72_1 hC_A_type fs_A_32 (by decide) ⟨rfl, rfl⟩ rfl ?_
    refine aw_iload_n k72_4 rfl ?_
    refine aw_callV1 k72_5 hC_A_type ok_O_append sv_A_108 hH_O_append ⟨rfl, rfl⟩ (by decide) hN_O_append (by rw [hL_O_append]; exact Nat.le_of_ble_eq_true rfl) (Nat.le_of_ble_eq_true rfl) (s_O_append hn h1) ?_
    refine aw_if_ne 21 k72_8 (by decide) (fun c_8 => ?_) (fun c_8 => ?_)
    · refine aw_aload_n k72_21 rfl ?_
      refine aw_getR k72_22 hC_A_type fs_A_32 (by decide) ⟨rfl, rfl⟩ rfl ?_
      refine aw_getI k72_25 hC_A_type fs_A_113 (by decide) ⟨rfl, rfl⟩ rfl ?_
      refine aw_ireturn k72_28 hR_A_type ?_ ?_
      simp [mUp_at]; rfl
    · exact absurd (show (1 : Int32) = 0 from c_8) (by decide)
  · rw [mUp_ne (by simp), mUp_ne (by simp)]; exact a2
  · rw [mUp_ne (by simp), mUp_ne (by simp)]; exact a3
  · rw [mUp_ne (by simp), mUp_ne (by simp)]; exact b1
  · simp [mUp_at]
  · rw [mUp_ne (by simp)]
    by_cases e : j = L
    · subst e
      simp [mUp_at]
    · simp [mUp_at, e]
      exact c3 j (by omega)
  · rw [mUp_ne (fun q => by subst q; simp at hr), mUp_ne (fun q => by subst q; simp at hr)]
theorem s_A_clearText {d L : Nat} {M : mM} {f t : Nat → Int32} {hs : List (Nat → Int32)} {sn : Option (Nat → Int32)} (h : CR M f hs sn t L) : ∃ M', CT iA_clearText (d + 8) [vR 5 0 0] M (.inl (some (vI (nI L)))) M' 0 ∧ CR M' f hs sn t 0 ∧ CFr M M' := by
  have h1 := h.2.2.2.2.1
  obtain ⟨g1, ⟨a, a1, a2, a3, a4, a5⟩, ⟨b1, b2⟩, c1, c2, c3⟩ := h
  have hin : ∀ s r, InS s r → mUp M (2, 0, 0) 1 0 r = M r := fun s r hr => mUp_ne (fun q => by subst q; have := hr.2; simp at this)
  have hk : CT iO_dropText (d + 7) [vR 2 0 0] M (.inl (some (vI (nI L)))) (mUp M (2, 0, 0) 1 0) 0 := by
    rw [← h1]
    exact s_O_dropText
  refine ⟨_, ct_go hL_A_clearText rfl ?_, ⟨g1.congr (hin _), ⟨a, a1, ?_, ?_, a4, fun i g hg => (a5 i g hg).congr (hin _)⟩, ⟨?_, fun g hg => (b2 g hg).congr (hin _)⟩, by omega, ?_, fun j hj => by omega⟩, fun r hr => ?_⟩
  · refine aw_aload_n k73_0 rfl ?_
    refine aw_getR k73_1 hC_A_clearText fs_A_32 (by decide) ⟨rfl, rfl⟩ rfl ?_
    refine aw_callV0 k73_4 hC_A_clearText ok_O_dropText sv_A_116 hH_O_dropText ⟨rfl, rfl⟩ (by decide) hN_O_dropText (by rw [hL_O_dropText]; exact Nat.le_of_ble_eq_true rfl) (Nat.le_of_ble_eq_true rfl) hk ?_
    refine aw_ireturn k73_7 hR_A_clearText ?_ ?_
    all_goals first | rfl | exact Or.inl rfl | exact Or.inr rfl | assumption | (simp_all; done) | ((repeat' split) <;> first | rfl | (simp only [Int32.lt_iff_toInt_lt, Int32.le_iff_toInt_le, Int64.lt_iff_toInt_lt, Int64.le_iff_toInt_le] at *; omega) | (simp_all; done))
  · rw [mUp_ne (by simp)]; exact a2
  · rw [mUp_ne (by simp)]; exact a3
  · rw [mUp_ne (by simp)]; exact b1
  · simp [mUp_at]; rfl
  · rw [mUp_ne (fun q => by subst q; simp at hr)]
theorem cr_tx {L : Nat} {M : mM} {f t : Nat → Int32} {hs : List (Nat → Int32)} {sn : Option (Nat → Int32)} (h : CR M f hs sn t L) : pars (M (12, 0, 0)) L = pars t L := by
  have e : tx (M (12, 0, 0)) L = tx t L := by
    funext p
    unfold tx
    split
    · exact h.2.2.2.2.2 p (by assumption)
    · rfl
  unfold pars
  rw [e]
theorem o_first {d L : Nat} {M : mM} {f t : Nat → Int32} {hs : List (Nat → Int32)} {sn : Option (Nat → Int32)} (h : CR M f hs sn t L) : ∃ M', CT iO_firstError (d + 4) [vR 2 0 0] M (.inl (some (vI (resF (pars t L))))) M' 0 ∧ CR M' f hs sn t L ∧ CFr M M' ∧ ∀ l, pars t L = .inr l → St M l M' ∧ M' (2, 0, 0) 7 = nI l.length := by
  obtain ⟨M', hA, hF, hP⟩ := s_O_firstError (d := d) h.2.2.2.1 h.2.2.2.2.1
  rw [cr_tx h] at hA hP
  exact ⟨M', hA, h.orders hF, hF.c, hP⟩
theorem pars_ok {t : Nat → Int32} {L : Nat} {l : List mOrd} (h : pars t L = .inr l) : l.length ≤ L ∧ ∀ o ∈ l, okK o := by
  have := ords_ok h
  exact ⟨by omega, this.2⟩
theorem ords_err {t : Nat → Int32} {L : Nat} : ∀ {k p e : Nat}, ords (tx t L) L k p = .inl e → True := fun _ => trivial
theorem x_fail {d L : Nat} {M : mM} {f t : Nat → Int32} {hs : List (Nat → Int32)} {sn : Option (Nat → Int32)} {l : List mOrd} (h : CR M f hs sn t L) (hl : pars t L = .inr l) : ∃ M1 M2 M3, CT iO_firstError (d + 7) [vR 2 0 0] M (.inl (some (vI (-1)))) M1 0 ∧ CT iA_beginTrial (d + 7) [vR 5 0 0] M1 (.inl none) M2 0 ∧ CT iO_firstFailureOn (d + 7) [vR 2 0 0, vR 3 1 0] M2 (.inl (some (vI (runO f l 0).1))) M3 0 ∧ CR M3 f hs sn t L ∧ RelS M3 1 (runO f l 0).2 ∧ CFr M M3 ∧ M3 (2, 0, 0) 7 = nI l.length := by
  obtain ⟨M1, hA, hC, hF, hP⟩ := o_first (d := d + 3) h
  rw [hl] at hA
  obtain ⟨hS, h7⟩ := hP l hl
  have hok := pars_ok hl
  obtain ⟨M2, hA2, hR2, hF2⟩ := s_S_copyFrom (d := d + 4) (s := 1) (by decide) hC.1 (by decide)
  have h72 : M2 (2, 0, 0) 7 = nI l.length := by rw [hF2 _ (fun q => by have := q.2; simp at this)]; exact h7
  obtain ⟨M3, hA3, hR3, hF3⟩ := s_O_firstFailureOn (d := d) (M := M2) (s := 1) (os := l) (by have := h.2.2.2.1; omega) hok.2 (fun i o ho => (hS.2 i o ho).fr hF2) h72 hR2
  refine ⟨M1, M2, M3, hA, ct_go hL_A_beginTrial rfl ?_, hA3, (hC.trial hF2).trial hF3, hR3, hF.tr (hF2.c.tr hF3.c), by rw [hF3 _ (fun q => by have := q.2; simp at this)]; exact h72⟩
  refine aw_aload_n k105_0 rfl ?_
  refine aw_getR k105_1 hC_A_beginTrial fs_A_16 (by decide) ⟨rfl, rfl⟩ rfl ?_
  refine aw_aload_n k105_4 rfl ?_
  refine aw_getR k105_5 hC_A_beginTrial fs_A_10 (by decide) ⟨rfl, rfl⟩ rfl ?_
  refine aw_callV1v k105_8 hC_A_beginTrial ok_S_copyFrom sv_A_143 hH_S_copyFrom ⟨(by first | assumption | decide), rfl⟩ (by decide) hN_S_copyFrom (by rw [hL_S_copyFrom]; exact Nat.le_of_ble_eq_true rfl) (Nat.le_of_ble_eq_true rfl) hA2 ?_
  refine aw_return k105_11 hR_A_beginTrial ?_
  all_goals first | rfl | exact Or.inl rfl | exact Or.inr rfl | assumption | (simp_all; done) | ((repeat' split) <;> first | rfl | (simp only [Int32.lt_iff_toInt_lt, Int32.le_iff_toInt_le, Int64.lt_iff_toInt_lt, Int64.le_iff_toInt_le] at *; omega) | (simp_all; done))
theorem res_ne {t : Nat → Int32} {L e : Nat} (hL : L ≤ 80) (h : pars t L = .inl e) (he : e ≤ L) : ¬ resF (pars t L) = -1 := by
  rw [h]
  show ¬ nI e = -1
  intro q
  have := congrArg Int32.toInt q
  rw [nI_toInt (by omega)] at this
  have h2 : (-1 : Int32).toInt = -1 := rfl
  omega
theorem num_le {t : Nat → Int32} {L p : Nat} {most least : Int32} (hl : 0 < least) (h : p ≤ L) : (num (tx t L) most least p).1 ≤ L := by
  unfold num
  split
  · rename_i g
    exact numG_le (tx_lt (ge_ne0 g.1 hl))
  · exact h
theorem oneLeg_le {t : Nat → Int32} {L p : Nat} (hp : p < L) : (∀ e, oneLeg (tx t L) p = .inl e → e ≤ L) ∧ ∀ q o, oneLeg (tx t L) p = .inr (q, o) → q ≤ L := by
  have h1 : (legE (tx t L) p).1 ≤ L := num_le (by decide) hp
  unfold oneLeg
  split
  · refine ⟨fun e h => ?_, fun q o h => absurd h (by simp)⟩
    simp at h
    omega
  · rename_i g1
    have g1' : tx t L (legE (tx t L) p).1 = 110 ∨ tx t L (legE (tx t L) p).1 = 115 := Classical.byContradiction (fun q => g1 (Or.inr q))
    have h1' : (legE (tx t L) p).1 < L := tx_lt (fun e => by rw [e] at g1'; exact absurd g1' (by decide))
    have h2 : (legN (tx t L) p).1 ≤ L := num_le (by decide) h1'
    split
    · refine ⟨fun e h => ?_, fun q o h => absurd h (by simp)⟩
      simp at h
      omega
    · rename_i g2
      have g2' : tx t L (legN (tx t L) p).1 = 108 := Classical.byContradiction (fun q => g2 (Or.inr q))
      have h2' : (legN (tx t L) p).1 < L := tx_lt (fun e => by rw [e] at g2'; exact absurd g2' (by decide))
      have h3 : (legL (tx t L) p).1 ≤ L := num_le (by decide) h2'
      split
      · refine ⟨fun e h => ?_, fun q o h => absurd h (by simp)⟩
        simp at h
        omega
      · refine ⟨fun e h => absurd h (by simp), fun q o h => ?_⟩
        simp at h
        omega
theorem one_le {t : Nat → Int32} {L p : Nat} (hp : p ≤ L) : (∀ e, one (tx t L) p = .inl e → e ≤ L) ∧ ∀ q o, one (tx t L) p = .inr (q, o) → q ≤ L := by
  unfold one
  split
  · rename_i g
    have hpL : p < L := tx_lt (fun e => by rw [e] at g; exact absurd g (by decide))
    exact oneLeg_le hpL
  · split
    · rename_i g
      have hpL : p < L := tx_lt (fun e => by rw [e] at g; exact absurd g (by decide))
      split
      · rename_i g3
        have hpL2 : p + 1 < L := tx_lt (ge_ne0 g3.1)
        refine ⟨fun e h => absurd h (by simp), fun q o h => ?_⟩
        simp at h
        omega
      · refine ⟨fun e h => ?_, fun q o h => absurd h (by simp)⟩
        simp at h
        omega
    · split
      · rename_i g
        have hpL : p < L := tx_lt (fun e => by rw [e] at g; exact absurd g (by decide))
        refine ⟨fun e h => absurd h (by simp), fun q o h => ?_⟩
        simp at h
        omega
      · split
        · rename_i g
          have hpL : p < L := tx_lt (fun e => by rw [e] at g; exact absurd g (by decide))
          refine ⟨fun e h => absurd h (by simp), fun q o h => ?_⟩
          simp at h
          omega
        · refine ⟨fun e h => ?_, fun q o h => absurd h (by simp)⟩
          simp at h
          omega
theorem ords_le {t : Nat → Int32} {L : Nat} : ∀ {k p e : Nat}, p ≤ L → ords (tx t L) L k p = .inl e → e ≤ L := by
  intro k
  induction k with
  | zero => intro p e hp h; simp [ords] at h; omega
  | succ k ih =>
    intro p e hp h
    unfold ords at h
    have h1 := one_le (t := t) hp
    cases h2 : one (tx t L) p with
    | inl e2 =>
      rw [h2] at h
      simp at h
      have := h1.1 e2 h2
      omega
    | inr qo =>
      obtain ⟨q, o⟩ := qo
      have hq := h1.2 q o h2
      rw [h2] at h
      simp only at h
      split at h
      · rename_i hlt
        split at h
        · cases h3 : ords (tx t L) L k (q + 1) with
          | inl e3 =>
            rw [h3] at h
            simp at h
            have := ih hlt h3
            omega
          | inr l => rw [h3] at h; exact absurd h (by simp)
        · simp at h
          omega
      · exact absurd h (by simp)
theorem pars_ne {t : Nat → Int32} {L e : Nat} (hL : L ≤ 80) (h : pars t L = .inl e) : ¬ resF (pars t L) = -1 := res_ne hL h (ords_le (Nat.zero_le L) h)
theorem s_A_textError {d L : Nat} {M : mM} {f t : Nat → Int32} {hs : List (Nat → Int32)} {sn : Option (Nat → Int32)} (h : CR M f hs sn t L) : ∃ M', CT iA_textError (d + 8) [vR 5 0 0] M (.inl (some (vI (resF (pars t L))))) M' 0 ∧ CR M' f hs sn t L ∧ CFr M M' := by
  obtain ⟨M1, hA, hC, hF, hP⟩ := o_first (d := d + 3) h
  refine ⟨M1, ct_go hL_A_textError rfl ?_, hC, hF⟩
  refine aw_aload_n k74_0 rfl ?_
  refine aw_getR k74_1 hC_A_textError fs_A_32 (by decide) ⟨rfl, rfl⟩ rfl ?_
  refine aw_callV0 k74_4 hC_A_textError ok_O_firstError sv_A_120 hH_O_firstError ⟨rfl, rfl⟩ (by decide) hN_O_firstError (by rw [hL_O_firstError]; exact Nat.le_of_ble_eq_true rfl) (Nat.le_of_ble_eq_true rfl) hA ?_
  refine aw_ireturn k74_7 hR_A_textError ?_ ?_
  all_goals first | rfl | exact Or.inl rfl | exact Or.inr rfl | assumption | (simp_all; done) | ((repeat' split) <;> first | rfl | (simp only [Int32.lt_iff_toInt_lt, Int32.le_iff_toInt_le, Int64.lt_iff_toInt_lt, Int64.le_iff_toInt_le] at *; omega) | (simp_all; done))
theorem x_A_impossibleOrder {d L : Nat} {M : mM} {f t : Nat → Int32} {hs : List (Nat → Int32)} {sn : Option (Nat → Int32)} (h : CR M f hs sn t L) {e : Nat} (hp : pars t L = .inl e) : ∃ M', CT iA_impossibleOrder (d + 8) [vR 5 0 0] M (.inr tISE) M' 1 ∧ CR M' f hs sn t L ∧ CFr M M' := by
  obtain ⟨M1, hA, hC, hF, hP⟩ := o_first (d := d + 3) h
  have hne := pars_ne h.2.2.2.1 hp
  refine ⟨M1, ct_go hL_A_impossibleOrder rfl ?_, hC, hF⟩
  refine aw_aload_n k75_0 rfl ?_
  refine aw_getR k75_1 hC_A_impossibleOrder fs_A_32 (by decide) ⟨rfl, rfl⟩ rfl ?_
  refine aw_callV0 k75_4 hC_A_impossibleOrder ok_O_firstError sv_A_120 hH_O_firstError ⟨rfl, rfl⟩ (by decide) hN_O_firstError (by rw [hL_O_firstError]; exact Nat.le_of_ble_eq_true rfl) (Nat.le_of_ble_eq_true rfl) hA ?_
  refine aw_iconst (v := (-1)) k75_7 (by decide) ?_
  refine aw_icmp_eq 21 k75_8 (by decide) (fun c_8 => ?_) (fun c_8 => ?_)
  · exact absurd c_8 hne
  · exact aw_throw k75_11 k75_14 k75_15 k75_17 k75_20 hC_A_impossibleOrder th_ISE (si := 8) rfl hH_A_impossibleOrder (Nat.le_of_ble_eq_true rfl)
theorem x_A_carryOut {d L : Nat} {M : mM} {f t : Nat → Int32} {hs : List (Nat → Int32)} {sn : Option (Nat → Int32)} (h : CR M f hs sn t L) {e : Nat} (hp : pars t L = .inl e) : ∃ M', CT iA_carryOut (d + 8) [vR 5 0 0] M (.inr tISE) M' 1 ∧ CR M' f hs sn t L ∧ CFr M M' := by
  obtain ⟨M1, hA, hC, hF, hP⟩ := o_first (d := d + 3) h
  have hne := pars_ne h.2.2.2.1 hp
  refine ⟨M1, ct_go hL_A_carryOut rfl ?_, hC, hF⟩
  refine aw_aload_n k76_0 rfl ?_
  refine aw_getR k76_1 hC_A_carryOut fs_A_32 (by decide) ⟨rfl, rfl⟩ rfl ?_
  refine aw_callV0 k76_4 hC_A_carryOut ok_O_firstError sv_A_120 hH_O_firstError ⟨rfl, rfl⟩ (by decide) hN_O_firstError (by rw [hL_O_firstError]; exact Nat.le_of_ble_eq_true rfl) (Nat.le_of_ble_eq_true rfl) hA ?_
  refine aw_iconst (v := (-1)) k76_7 (by decide) ?_
  refine aw_icmp_eq 21 k76_8 (by decide) (fun c_8 => ?_) (fun c_8 => ?_)
  · exact absurd c_8 hne
  · exact aw_throw k76_11 k76_14 k76_15 k76_17 k76_20 hC_A_carryOut th_ISE (si := 8) rfl hH_A_carryOut (Nat.le_of_ble_eq_true rfl)
theorem s_A_impossibleOrder {d L : Nat} {M : mM} {f t : Nat → Int32} {hs : List (Nat → Int32)} {sn : Option (Nat → Int32)} (h : CR M f hs sn t L) {l : List mOrd} (hp : pars t L = .inr l) : ∃ M', CT iA_impossibleOrder (d + 8) [vR 5 0 0] M (.inl (some (vI (runO f l 0).1))) M' 0 ∧ CR M' f hs sn t L ∧ CFr M M' := by
  obtain ⟨M1, M2, M3, hA, hA2, hA3, hC, hR, hF, h7⟩ := x_fail (d := d) h hp
  refine ⟨M3, ct_go hL_A_impossibleOrder rfl ?_, hC, hF⟩
  refine aw_aload_n k75_0 rfl ?_
  refine aw_getR k75_1 hC_A_impossibleOrder fs_A_32 (by decide) ⟨rfl, rfl⟩ rfl ?_
  refine aw_callV0 k75_4 hC_A_impossibleOrder ok_O_firstError sv_A_120 hH_O_firstError ⟨rfl, rfl⟩ (by decide) hN_O_firstError (by rw [hL_O_firstError]; exact Nat.le_of_ble_eq_true rfl) (Nat.le_of_ble_eq_true rfl) hA ?_
  refine aw_iconst (v := (-1)) k75_7 (by decide) ?_
  refine aw_icmp_eq 21 k75_8 (by decide) (fun c_8 => ?_) (fun c_8 => ?_)
  · refine aw_aload_n k75_21 rfl ?_
    refine aw_callV0v k75_22 hC_A_impossibleOrder ok_A_beginTrial sv_A_53 hH_A_beginTrial ⟨rfl, rfl⟩ (by decide) hN_A_beginTrial (by rw [hL_A_beginTrial]; exact Nat.le_of_ble_eq_true rfl) (Nat.le_of_ble_eq_true rfl) hA2 ?_
    refine aw_aload_n k75_25 rfl ?_
    refine aw_getR k75_26 hC_A_impossibleOrder fs_A_32 (by decide) ⟨rfl, rfl⟩ rfl ?_
    refine aw_aload_n k75_29 rfl ?_
    refine aw_getR k75_30 hC_A_impossibleOrder fs_A_16 (by decide) ⟨rfl, rfl⟩ rfl ?_
    refine aw_callV1 k75_33 hC_A_impossibleOrder ok_O_firstFailureOn sv_A_125 hH_O_firstFailureOn ⟨rfl, rfl⟩ (by decide) hN_O_firstFailureOn (by rw [hL_O_firstFailureOn]; exact Nat.le_of_ble_eq_true rfl) (Nat.le_of_ble_eq_true rfl) hA3 ?_
    refine aw_ireturn k75_36 hR_A_impossibleOrder ?_ ?_
    all_goals first | rfl | exact Or.inl rfl | exact Or.inr rfl | assumption | (simp_all; done) | ((repeat' split) <;> first | rfl | (simp only [Int32.lt_iff_toInt_lt, Int32.le_iff_toInt_le, Int64.lt_iff_toInt_lt, Int64.le_iff_toInt_le] at *; omega) | (simp_all; done))
  · exact absurd rfl c_8
theorem y_A_carryOut {d L : Nat} {M : mM} {f t : Nat → Int32} {hs : List (Nat → Int32)} {sn : Option (Nat → Int32)} (h : CR M f hs sn t L) {l : List mOrd} (hp : pars t L = .inr l) (hr : ¬ (runO f l 0).1 = -1) : ∃ M', CT iA_carryOut (d + 8) [vR 5 0 0] M (.inr tISE) M' 1 ∧ CR M' f hs sn t L ∧ CFr M M' := by
  obtain ⟨M1, M2, M3, hA, hA2, hA3, hC, hR, hF, h7⟩ := x_fail (d := d) h hp
  refine ⟨M3, ct_go hL_A_carryOut rfl ?_, hC, hF⟩
  refine aw_aload_n k76_0 rfl ?_
  refine aw_getR k76_1 hC_A_carryOut fs_A_32 (by decide) ⟨rfl, rfl⟩ rfl ?_
  refine aw_callV0 k76_4 hC_A_carryOut ok_O_firstError sv_A_120 hH_O_firstError ⟨rfl, rfl⟩ (by decide) hN_O_firstError (by rw [hL_O_firstError]; exact Nat.le_of_ble_eq_true rfl) (Nat.le_of_ble_eq_true rfl) hA ?_
  refine aw_iconst (v := (-1)) k76_7 (by decide) ?_
  refine aw_icmp_eq 21 k76_8 (by decide) (fun c_8 => ?_) (fun c_8 => ?_)
  · refine aw_aload_n k76_21 rfl ?_
    refine aw_callV0v k76_22 hC_A_carryOut ok_A_beginTrial sv_A_53 hH_A_beginTrial ⟨rfl, rfl⟩ (by decide) hN_A_beginTrial (by rw [hL_A_beginTrial]; exact Nat.le_of_ble_eq_true rfl) (Nat.le_of_ble_eq_true rfl) hA2 ?_
    refine aw_aload_n k76_25 rfl ?_
    refine aw_getR k76_26 hC_A_carryOut fs_A_32 (by decide) ⟨rfl, rfl⟩ rfl ?_
    refine aw_aload_n k76_29 rfl ?_
    refine aw_getR k76_30 hC_A_carryOut fs_A_16 (by decide) ⟨rfl, rfl⟩ rfl ?_
    refine aw_callV1 k76_33 hC_A_carryOut ok_O_firstFailureOn sv_A_125 hH_O_firstFailureOn ⟨rfl, rfl⟩ (by decide) hN_O_firstFailureOn (by rw [hL_O_firstFailureOn]; exact Nat.le_of_ble_eq_true rfl) (Nat.le_of_ble_eq_true rfl) hA3 ?_
    refine aw_iconst (v := (-1)) k76_36 (by decide) ?_
    refine aw_icmp_eq 50 k76_37 (by decide) (fun c_37 => ?_) (fun c_37 => ?_)
    · exact absurd c_37 hr
    · exact aw_throw k76_40 k76_43 k76_44 k76_46 k76_49 hC_A_carryOut th_ISE (si := 9) rfl hH_A_carryOut (Nat.le_of_ble_eq_true rfl)
  · exact absurd rfl c_8
theorem s_A_carryOut {d L : Nat} {M : mM} {f t : Nat → Int32} {hs : List (Nat → Int32)} {sn : Option (Nat → Int32)} (h : CR M f hs sn t L) {l : List mOrd} (hp : pars t L = .inr l) (hr : (runO f l 0).1 = -1) : ∃ M', CT iA_carryOut (d + 8) [vR 5 0 0] M (.inl (some (vI (nI l.length)))) M' 0 ∧ CR M' (runO f l 0).2 ((f :: hs).take 4) sn t L ∧ CFr M M' := by
  obtain ⟨M1, M2, M3, hA, hA2, hA3, hC, hR, hF, h7⟩ := x_fail (d := d) h hp
  obtain ⟨M4, hA4, hC4, hF4, h74⟩ : ∃ M4, CT iA_settleTrial (d + 7) [vR 5 0 0] M3 (.inl none) M4 0 ∧ CR M4 (runO f l 0).2 ((f :: hs).take 4) sn t L ∧ CFr M3 M4 ∧ M4 (2, 0, 0) = M3 (2, 0, 0) := s_A_settleTrial2 hC hR
  have h75 : M4 (2, 0, 0) 7 = nI l.length := by rw [h74]; exact h7
  refine ⟨M4, ct_go hL_A_carryOut rfl ?_, hC4, hF.tr hF4⟩
  refine aw_aload_n k76_0 rfl ?_
  refine aw_getR k76_1 hC_A_carryOut fs_A_32 (by decide) ⟨rfl, rfl⟩ rfl ?_
  refine aw_callV0 k76_4 hC_A_carryOut ok_O_firstError sv_A_120 hH_O_firstError ⟨rfl, rfl⟩ (by decide) hN_O_firstError (by rw [hL_O_firstError]; exact Nat.le_of_ble_eq_true rfl) (Nat.le_of_ble_eq_true rfl) hA ?_
  refine aw_iconst (v := (-1)) k76_7 (by decide) ?_
  refine aw_icmp_eq 21 k76_8 (by decide) (fun c_8 => ?_) (fun c_8 => ?_)
  · refine aw_aload_n k76_21 rfl ?_
    refine aw_callV0v k76_22 hC_A_carryOut ok_A_beginTrial sv_A_53 hH_A_beginTrial ⟨rfl, rfl⟩ (by decide) hN_A_beginTrial (by rw [hL_A_beginTrial]; exact Nat.le_of_ble_eq_true rfl) (Nat.le_of_ble_eq_true rfl) hA2 ?_
    refine aw_aload_n k76_25 rfl ?_
    refine aw_getR k76_26 hC_A_carryOut fs_A_32 (by decide) ⟨rfl, rfl⟩ rfl ?_
    refine aw_aload_n k76_29 rfl ?_
    refine aw_getR k76_30 hC_A_carryOut fs_A_16 (by decide) ⟨rfl, rfl⟩ rfl ?_
    refine aw_callV1 k76_33 hC_A_carryOut ok_O_firstFailureOn sv_A_125 hH_O_firstFailureOn ⟨rfl, rfl⟩ (by decide) hN_O_firstFailureOn (by rw [hL_O_firstFailureOn]; exact Nat.le_of_ble_eq_true rfl) (Nat.le_of_ble_eq_true rfl) hA3 ?_
    refine aw_iconst (v := (-1)) k76_36 (by decide) ?_
    refine aw_icmp_eq 50 k76_37 (by decide) (fun c_37 => ?_) (fun c_37 => ?_)
    · refine aw_aload_n k76_50 rfl ?_
      refine aw_callV0v k76_51 hC_A_carryOut ok_A_settleTrial sv_A_71 hH_A_settleTrial ⟨rfl, rfl⟩ (by decide) hN_A_settleTrial (by rw [hL_A_settleTrial]; exact Nat.le_of_ble_eq_true rfl) (Nat.le_of_ble_eq_true rfl) hA4 ?_
      refine aw_aload_n k76_54 rfl ?_
      refine aw_getR k76_55 hC_A_carryOut fs_A_32 (by decide) ⟨rfl, rfl⟩ rfl ?_
      refine aw_getI k76_58 hC_A_carryOut fs_A_131 (by decide) ⟨rfl, rfl⟩ rfl ?_
      refine aw_ireturn k76_61 hR_A_carryOut ?_ ?_
      exact h75; rfl
    · exact absurd hr c_37
  · exact absurd rfl c_8
theorem x_A_undo {d L : Nat} {M : mM} {f t : Nat → Int32} {hs : List (Nat → Int32)} {sn : Option (Nat → Int32)} (h : CR M f [] sn t L) : CT iA_undo (d + 8) [vR 5 0 0] M (.inr tISE) M 1 := by
  obtain ⟨a, a1, a2, a3, a4, a5⟩ := h.2.1
  refine ct_go hL_A_undo rfl ?_
  refine aw_aload_n k77_0 rfl ?_
  refine aw_getR k77_1 hC_A_undo fs_A_25 (by decide) ⟨rfl, rfl⟩ rfl ?_
  refine aw_aload_n k77_4 rfl ?_
  refine aw_getR k77_5 hC_A_undo fs_A_10 (by decide) ⟨rfl, rfl⟩ rfl ?_
  refine aw_callV1 k77_8 hC_A_undo ok_H_giveBack sv_A_134 hH_H_giveBack ⟨rfl, rfl⟩ (by decide) hN_H_giveBack (by rw [hL_H_giveBack]; exact Nat.le_of_ble_eq_true rfl) (Nat.le_of_ble_eq_true rfl) (s_H_giveBack0 a3) ?_
  refine aw_if_ne 24 k77_11 (by decide) (fun c_11 => ?_) (fun c_11 => ?_)
  · exact absurd rfl c_11
  · exact aw_throw k77_14 k77_17 k77_18 k77_20 k77_23 hC_A_undo th_ISE (si := 10) rfl hH_A_undo (Nat.le_of_ble_eq_true rfl)
theorem s_A_undo {d L : Nat} {M : mM} {f t : Nat → Int32} {hs : List (Nat → Int32)} {sn : Option (Nat → Int32)} {g : Nat → Int32} (h : CR M f (g :: hs) sn t L) : ∃ M', CT iA_undo (d + 8) [vR 5 0 0] M (.inl (some (vI (nI hs.length)))) M' 0 ∧ CR M' g hs sn t L ∧ CFr M M' := by
  obtain ⟨g1, ⟨a, a1, a2, a3, a4, a5⟩, ⟨b1, b2⟩, c1, c2, c3⟩ := h
  have hg := a5 0 g rfl
  have e0 : 3 + (a + 3 - 0) % 4 = 3 + (a + 3) % 4 := by omega
  rw [e0] at hg
  simp at a4
  obtain ⟨M1, hA, hR1, k1, k2, hF1⟩ := s_H_giveBack (d := d + 4) (t := 0) a1 (n := hs.length) (by omega) a2 a3 hg (by decide)
  have hin : ∀ s, s ≠ 0 → ∀ r, InS s r → M1 r = M r := fun s hs r hr => hF1 r (fun q => by subst q; have := hr.2; simp at this) (fun q => hs (hr.1.symm.trans q.1))
  have e : ∀ k, k ≠ 0 → k ≠ 1 → k ≠ 3 → k ≠ 4 → k ≠ 7 → k ≠ 8 → k ≠ 9 → ∀ i j, M1 (k, i, j) = M (k, i, j) := fun k p1 p1' p2 p3 p4 p5 p6 i j => hF1 _ (by simp [p1']) (fun q => by have := q.2; omega)
  have e5 := e 5 (by decide) (by decide) (by decide) (by decide) (by decide) (by decide) (by decide)
  have e2 := e 2 (by decide) (by decide) (by decide) (by decide) (by decide) (by decide) (by decide)
  have e12 := e 12 (by decide) (by decide) (by decide) (by decide) (by decide) (by decide) (by decide)
  refine ⟨M1, ct_go hL_A_undo rfl ?_, ⟨hR1, ⟨(a + 3) % 4, by omega, k1, k2, by omega, fun i g' hg' => ?_⟩, ⟨by rw [e5]; exact b1, fun g' hg' => (b2 g' hg').congr (hin 2 (by omega))⟩, c1, by rw [e2]; exact c2, fun j hj => by rw [e12]; exact c3 j hj⟩, fun r hr => hF1 r (fun q => by subst q; simp at hr) (fun q => by have := q.2; omega)⟩
  · refine aw_aload_n k77_0 rfl ?_
    refine aw_getR k77_1 hC_A_undo fs_A_25 (by decide) ⟨rfl, rfl⟩ rfl ?_
    refine aw_aload_n k77_4 rfl ?_
    refine aw_getR k77_5 hC_A_undo fs_A_10 (by decide) ⟨rfl, rfl⟩ rfl ?_
    refine aw_callV1 k77_8 hC_A_undo ok_H_giveBack sv_A_134 hH_H_giveBack ⟨rfl, rfl⟩ (by decide) hN_H_giveBack (by rw [hL_H_giveBack]; exact Nat.le_of_ble_eq_true rfl) (Nat.le_of_ble_eq_true rfl) hA ?_
    refine aw_if_ne 24 k77_11 (by decide) (fun c_11 => ?_) (fun c_11 => ?_)
    · refine aw_aload_n k77_24 rfl ?_
      refine aw_getR k77_25 hC_A_undo fs_A_25 (by decide) ⟨rfl, rfl⟩ rfl ?_
      refine aw_getI k77_28 hC_A_undo fs_A_140 (by decide) ⟨rfl, rfl⟩ rfl ?_
      refine aw_ireturn k77_31 hR_A_undo ?_ ?_
      exact k2; rfl
    · exact absurd (show (1 : Int32) = 0 from c_11) (by decide)
  · have hi := (List.getElem?_eq_some_iff.mp hg').1
    have e3 : 3 + ((a + 3) % 4 + 3 - i) % 4 = 3 + (a + 3 - (i + 1)) % 4 := by omega
    rw [e3]
    exact (a5 (i + 1) g' (by simpa using hg')).congr (hin _ (by omega))
theorem s_A_takeSnapshot {d L : Nat} {M : mM} {f t : Nat → Int32} {hs : List (Nat → Int32)} {sn : Option (Nat → Int32)} (h : CR M f hs sn t L) : ∃ M', CT iA_takeSnapshot (d + 8) [vR 5 0 0] M (.inl (some (vI (f 39)))) M' 0 ∧ CR M' f hs (some f) t L ∧ CFr M M' := by
  obtain ⟨g1, ⟨a, a1, a2, a3, a4, a5⟩, ⟨b1, b2⟩, c1, c2, c3⟩ := h
  obtain ⟨M1, hA, hR, hF⟩ := s_S_copyFrom (d := d + 5) (s := 2) (by decide) g1 (by decide)
  have hin : ∀ s, s ≠ 2 → ∀ r, InS s r → mUp M1 (5, 0, 0) 5 1 r = M r := fun s hs r hr => by
    rw [mUp_ne (fun q => by subst q; have := hr.2; simp at this)]
    exact hF r (fun q => hs (hr.1.symm.trans q.1))
  have e : ∀ k, k ≠ 0 → k ≠ 5 → k ≠ 3 → k ≠ 4 → k ≠ 7 → k ≠ 8 → k ≠ 9 → ∀ i j, mUp M1 (5, 0, 0) 5 1 (k, i, j) = M (k, i, j) := fun k p1 p1' p2 p3 p4 p5 p6 i j => by
    rw [mUp_ne (by simp [p1'])]
    exact hF _ (fun q => by have := q.2; omega)
  have e1 := e 1 (by decide) (by decide) (by decide) (by decide) (by decide) (by decide) (by decide)
  have e2 := e 2 (by decide) (by decide) (by decide) (by decide) (by decide) (by decide) (by decide)
  have e12 := e 12 (by decide) (by decide) (by decide) (by decide) (by decide) (by decide) (by decide)
  have hR0 : RelS (mUp M1 (5, 0, 0) 5 1) 0 f := g1.congr (hin 0 (by decide))
  have h39 := hR0.c.2.2.1.trans hR0.c.1.symm
  refine ⟨_, ct_go hL_A_takeSnapshot rfl ?_, ⟨hR0, ⟨a, a1, by rw [e1]; exact a2, by rw [e1]; exact a3, a4, fun i g' hg' => (a5 i g' hg').congr (hin _ (by omega))⟩, ⟨by simp [mUp_at], fun g' hg' => ?_⟩, c1, by rw [e2]; exact c2, fun j hj => by rw [e12]; exact c3 j hj⟩, fun r hr => ?_⟩
  · refine aw_aload_n k78_0 rfl ?_
    refine aw_getR k78_1 hC_A_takeSnapshot fs_A_19 (by decide) ⟨rfl, rfl⟩ rfl ?_
    refine aw_aload_n k78_4 rfl ?_
    refine aw_getR k78_5 hC_A_takeSnapshot fs_A_10 (by decide) ⟨rfl, rfl⟩ rfl ?_
    refine aw_callV1v k78_8 hC_A_takeSnapshot ok_S_copyFrom sv_A_143 hH_S_copyFrom ⟨(by first | assumption | decide), rfl⟩ (by decide) hN_S_copyFrom (by rw [hL_S_copyFrom]; exact Nat.le_of_ble_eq_true rfl) (Nat.le_of_ble_eq_true rfl) hA ?_
    refine aw_aload_n k78_11 rfl ?_
    refine aw_iconst (v := 1) k78_12 (by decide) ?_
    refine aw_putZ k78_13 hC_A_takeSnapshot fs_A_36 (by decide) ⟨rfl, rfl⟩ rfl po_5_5 (by first | exact Or.inl rfl | exact Or.inr rfl | assumption) ?_
    refine aw_aload_n k78_16 rfl ?_
    refine aw_getR k78_17 hC_A_takeSnapshot fs_A_10 (by decide) ⟨rfl, rfl⟩ rfl ?_
    refine aw_getI k78_20 hC_A_takeSnapshot fs_A_96 (by decide) ⟨(by first | assumption | decide), rfl⟩ rfl ?_
    refine aw_ireturn k78_23 hR_A_takeSnapshot ?_ ?_
    exact h39; rfl
  · simp at hg'
    subst hg'
    exact hR.congr (fun r hr => mUp_ne (fun q => by subst q; have := hr.2; simp at this))
  · rw [mUp_ne (fun q => by subst q; simp at hr)]
    exact hF r (fun q => by have := q.2; omega)
theorem x_A_restoreSnapshot {d L : Nat} {M : mM} {f t : Nat → Int32} {hs : List (Nat → Int32)} {sn : Option (Nat → Int32)} (h : CR M f hs none t L) : CT iA_restoreSnapshot (d + 8) [vR 5 0 0] M (.inr tISE) M 1 := by
  have b1 : M (5, 0, 0) 5 = 0 := h.2.2.1.1
  refine ct_go hL_A_restoreSnapshot rfl ?_
  refine aw_aload_n k79_0 rfl ?_
  refine aw_getI k79_1 hC_A_restoreSnapshot fs_A_36 (by decide) ⟨rfl, rfl⟩ rfl ?_
  try simp only [b1]
  refine aw_if_ne 17 k79_4 (by decide) (fun c_4 => ?_) (fun c_4 => ?_)
  · exact absurd rfl c_4
  · exact aw_throw k79_7 k79_10 k79_11 k79_13 k79_16 hC_A_restoreSnapshot th_ISE (si := 11) rfl hH_A_restoreSnapshot (Nat.le_of_ble_eq_true rfl)
theorem s_A_restoreSnapshot {d L : Nat} {M : mM} {f t : Nat → Int32} {hs : List (Nat → Int32)} {sn : Option (Nat → Int32)} {g : Nat → Int32} (h : CR M f hs (some g) t L) : ∃ M', CT iA_restoreSnapshot (d + 8) [vR 5 0 0] M (.inl (some (vI (g 39)))) M' 0 ∧ CR M' g ((f :: hs).take 4) (some g) t L ∧ CFr M M' := by
  have b1 : M (5, 0, 0) 5 = 1 := h.2.2.1.1
  obtain ⟨M1, hA, hR, hF⟩ := s_S_copyFrom (d := d + 5) (s := 1) (by decide) (h.2.2.1.2 g rfl) (by decide)
  obtain ⟨M2, hA2, hC2, hF2⟩ := s_A_settleTrial (d := d + 3) (h.trial hF) hR
  have h39 := hC2.1.c.2.2.1.trans hC2.1.c.1.symm
  refine ⟨M2, ct_go hL_A_restoreSnapshot rfl ?_, hC2, hF.c.tr hF2⟩
  refine aw_aload_n k79_0 rfl ?_
  refine aw_getI k79_1 hC_A_restoreSnapshot fs_A_36 (by decide) ⟨rfl, rfl⟩ rfl ?_
  try simp only [b1]
  refine aw_if_ne 17 k79_4 (by decide) (fun c_4 => ?_) (fun c_4 => ?_)
  · refine aw_aload_n k79_17 rfl ?_
    refine aw_getR k79_18 hC_A_restoreSnapshot fs_A_16 (by decide) ⟨rfl, rfl⟩ rfl ?_
    try simp only [b1]
    refine aw_aload_n k79_21 rfl ?_
    refine aw_getR k79_22 hC_A_restoreSnapshot fs_A_19 (by decide) ⟨rfl, rfl⟩ rfl ?_
    try simp only [b1]
    refine aw_callV1v k79_25 hC_A_restoreSnapshot ok_S_copyFrom sv_A_143 hH_S_copyFrom ⟨(by first | assumption | decide), rfl⟩ (by decide) hN_S_copyFrom (by rw [hL_S_copyFrom]; exact Nat.le_of_ble_eq_true rfl) (Nat.le_of_ble_eq_true rfl) hA ?_
    refine aw_aload_n k79_28 rfl ?_
    refine aw_callV0v k79_29 hC_A_restoreSnapshot ok_A_settleTrial sv_A_71 hH_A_settleTrial ⟨rfl, rfl⟩ (by decide) hN_A_settleTrial (by rw [hL_A_settleTrial]; exact Nat.le_of_ble_eq_true rfl) (Nat.le_of_ble_eq_true rfl) hA2 ?_
    refine aw_aload_n k79_32 rfl ?_
    refine aw_getR k79_33 hC_A_restoreSnapshot fs_A_10 (by decide) ⟨rfl, rfl⟩ rfl ?_
    try simp only [b1]
    refine aw_getI k79_36 hC_A_restoreSnapshot fs_A_96 (by decide) ⟨(by first | assumption | decide), rfl⟩ rfl ?_
    try simp only [b1]
    refine aw_ireturn k79_39 hR_A_restoreSnapshot ?_ ?_
    exact h39; rfl
  · exact absurd c_4 (by decide)
