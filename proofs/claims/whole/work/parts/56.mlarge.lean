/-! THE MODEL: of all fields -/
theorem twF_rng {f : Nat → Int32} {i : Nat} (hS : ShF f) (hB : BdF f) (hi : i < fC f) : 0 ≤ (twF f i).toInt ∧ (twF f i).toInt ≤ 3840000000000 := tw_rng (hB.2.2.2.1 i hi) (hS.2.2.2.2 i hi).2.2
theorem m_twiceAreaOfAll {d L : Nat} {M : mM} {f t : Nat → Int32} {hs : List (Nat → Int32)} {sn : Option (Nat → Int32)} (h : MR M f hs sn t L) (hS : ShF f) : CT iM_twiceAreaOfAll (d + 8) [vR 6 0 0] M (.inl (some (vL (sumL (twF f) (fC f))))) (mUp M (6, 0, 0) 0 0) 0 := by
  have e : mUp M (6, 0, 0) 0 0 (13, 0, 0) = f := by rw [mUp_ne (by simp)]; exact h.1
  have h39 := hS.2.2.1
  have h6 := hS.2.2.2.1
  have hin39 : vp_in (39 : Int32) 190 := vp_in_nI (n := 39) (by decide) (by decide)
  have loop : ∀ (k j : Nat) (b : Int64), j + k = fC f → b = sumL (twF f) j → AW iM_twiceAreaOfAll (d + 8) 9 [some (vR 6 0 0), some (vL b), none, some (vI (nI j))] [] (mUp M (6, 0, 0) 0 0) (.inl (some (vL (sumL (twF f) (fC f))))) (mUp M (6, 0, 0) 0 0) 0 := by
    intro k
    induction k with
    | zero =>
      intro j b hj hb
      have hjc : j = fC f := by omega
      subst hb
      rw [hjc]
      refine aw_iload_n k190_9 rfl ?_
      refine aw_aload_n k190_10 rfl ?_
      refine aw_getR k190_11 hC_M_twiceAreaOfAll fs_M_7 (by decide) ⟨rfl, rfl⟩ rfl ?_
      try simp only [e, tn39, h39]
      refine aw_bipush (v := 39) k190_14 (by decide) ?_
      refine aw_iaload k190_16 (by first | exact ⟨rfl, rfl⟩ | exact ⟨by assumption, rfl⟩ | exact ⟨by assumption, by assumption⟩ | exact ⟨rfl, by decide⟩ | exact ⟨by assumption, by decide⟩ | exact ⟨by decide, rfl⟩ | exact ⟨by decide, by decide⟩ | exact ⟨by decide, by assumption⟩ | assumption) (by first | rfl | assumption) (by first | rfl | assumption) hin39 ?_
      try simp only [e, tn39, h39]
      refine aw_icmp_ge 34 k190_17 (by decide) (fun c_17 => ?_) (fun c_17 => ?_)
      · refine aw_lload_n k190_34 rfl ?_
        refine aw_lreturn k190_35 hR_M_twiceAreaOfAll ?_ ?_
        all_goals first | rfl | exact Or.inl rfl | exact Or.inr rfl | assumption | (simp_all; done) | ((repeat' split) <;> first | rfl | (simp only [Int32.lt_iff_toInt_lt, Int32.le_iff_toInt_le, Int64.lt_iff_toInt_lt, Int64.le_iff_toInt_le] at *; omega) | (simp_all; done))
      · exact absurd (Int32.le_refl _) c_17
    | succ k ih =>
      intro j b hj hb
      subst hb
      have htw := s_M_twice (d := d + 4) (M := mUp M (6, 0, 0) 0 0) (i := j) (m := bN f j) (by rw [e]; exact hS.fm (by omega))
      rw [e] at htw
      refine aw_iload_n k190_9 rfl ?_
      refine aw_aload_n k190_10 rfl ?_
      refine aw_getR k190_11 hC_M_twiceAreaOfAll fs_M_7 (by decide) ⟨rfl, rfl⟩ rfl ?_
      try simp only [e, tn39, h39]
      refine aw_bipush (v := 39) k190_14 (by decide) ?_
      refine aw_iaload k190_16 (by first | exact ⟨rfl, rfl⟩ | exact ⟨by assumption, rfl⟩ | exact ⟨by assumption, by assumption⟩ | exact ⟨rfl, by decide⟩ | exact ⟨by assumption, by decide⟩ | exact ⟨by decide, rfl⟩ | exact ⟨by decide, by decide⟩ | exact ⟨by decide, by assumption⟩ | assumption) (by first | rfl | assumption) (by first | rfl | assumption) hin39 ?_
      try simp only [e, tn39, h39]
      refine aw_icmp_ge 34 k190_17 (by decide) (fun c_17 => ?_) (fun c_17 => ?_)
      · exact absurd (nI_le_of c_17) (by omega)
      · refine aw_lload_n k190_20 rfl ?_
        refine aw_aload_n k190_21 rfl ?_
        refine aw_iload_n k190_22 rfl ?_
        refine aw_callV1 k190_23 hC_M_twiceAreaOfAll ok_M_twice sv_M_87 hH_M_twice ⟨rfl, rfl⟩ (by decide) hN_M_twice (by rw [hL_M_twice]; exact Nat.le_of_ble_eq_true rfl) (Nat.le_of_ble_eq_true rfl) htw ?_
        refine aw_ladd k190_26 ?_
        refine aw_lstore_n k190_27 (Nat.le_of_ble_eq_true rfl) rfl ?_
        refine aw_iinc (y := 1) k190_28 rfl (by decide) rfl ?_
        try simp only [e, tn39, h39]
        rw [nI_1 j]
        refine aw_goto (t := 9) k190_31 (by decide) ?_
        exact ih (j + 1) _ (by omega) rfl
  refine ct_go hL_M_twiceAreaOfAll rfl ?_
  refine aw_aload_n k190_0 rfl ?_
  refine aw_iconst (v := 0) k190_1 (by decide) ?_
  refine aw_putI k190_2 hC_M_twiceAreaOfAll fs_M_25 (by decide) ⟨rfl, rfl⟩ rfl po_6_0 ?_
  refine aw_lconst (v := 0) k190_5 (by decide) ?_
  refine aw_lstore_n k190_6 (Nat.le_of_ble_eq_true rfl) rfl ?_
  refine aw_iconst (v := 0) k190_7 (by decide) ?_
  refine aw_istore_n k190_8 (Nat.le_of_ble_eq_true rfl) rfl ?_
  exact loop (fC f) 0 _ (by omega) rfl
theorem m_largestField {d L : Nat} {M : mM} {f t : Nat → Int32} {hs : List (Nat → Int32)} {sn : Option (Nat → Int32)} (h : MR M f hs sn t L) (hS : ShF f) (hB : BdF f) : CT iM_largestField (d + 8) [vR 6 0 0] M (.inl (some (vI (grF f (fC f)).1))) (mUp M (6, 0, 0) 0 0) 0 := by
  have e : mUp M (6, 0, 0) 0 0 (13, 0, 0) = f := by rw [mUp_ne (by simp)]; exact h.1
  have h39 := hS.2.2.1
  have h6 := hS.2.2.2.1
  have hin39 : vp_in (39 : Int32) 190 := vp_in_nI (n := 39) (by decide) (by decide)
  by_cases h0 : fC f = 0
  · have hz : (grF f (fC f)).1 = -1 := by rw [h0]; rfl
    rw [hz]
    rw [h0] at h39
    refine ct_go hL_M_largestField rfl ?_
    refine aw_aload_n k189_0 rfl ?_
    refine aw_iconst (v := 0) k189_1 (by decide) ?_
    refine aw_putI k189_2 hC_M_largestField fs_M_25 (by decide) ⟨rfl, rfl⟩ rfl po_6_0 ?_
    try simp only [e, tn39, h39]
    refine aw_aload_n k189_5 rfl ?_
    refine aw_getR k189_6 hC_M_largestField fs_M_7 (by decide) ⟨rfl, rfl⟩ rfl ?_
    try simp only [e, tn39, h39]
    refine aw_bipush (v := 39) k189_9 (by decide) ?_
    refine aw_iaload k189_11 (by first | exact ⟨rfl, rfl⟩ | exact ⟨by assumption, rfl⟩ | exact ⟨by assumption, by assumption⟩ | exact ⟨rfl, by decide⟩ | exact ⟨by assumption, by decide⟩ | exact ⟨by decide, rfl⟩ | exact ⟨by decide, by decide⟩ | exact ⟨by decide, by assumption⟩ | assumption) (by first | rfl | assumption) (by first | rfl | assumption) hin39 ?_
    try simp only [e, tn39, h39]
    refine aw_if_ne 19 k189_12 (by decide) (fun c_12 => ?_) (fun c_12 => ?_)
    · exact absurd rfl c_12
    · refine aw_iconst (v := (-1)) k189_15 (by decide) ?_
      refine aw_goto (t := 20) k189_16 (by decide) ?_
      refine aw_istore_n k189_20 (Nat.le_of_ble_eq_true rfl) rfl ?_
      refine aw_iconst (v := 1) k189_21 (by decide) ?_
      refine aw_istore_n k189_22 (Nat.le_of_ble_eq_true rfl) rfl ?_
      refine aw_iload_n k189_23 rfl ?_
      refine aw_aload_n k189_24 rfl ?_
      refine aw_getR k189_25 hC_M_largestField fs_M_7 (by decide) ⟨rfl, rfl⟩ rfl ?_
      try simp only [e, tn39, h39]
      refine aw_bipush (v := 39) k189_28 (by decide) ?_
      refine aw_iaload k189_30 (by first | exact ⟨rfl, rfl⟩ | exact ⟨by assumption, rfl⟩ | exact ⟨by assumption, by assumption⟩ | exact ⟨rfl, by decide⟩ | exact ⟨by assumption, by decide⟩ | exact ⟨by decide, rfl⟩ | exact ⟨by decide, by decide⟩ | exact ⟨by decide, by assumption⟩ | assumption) (by first | rfl | assumption) (by first | rfl | assumption) hin39 ?_
      try simp only [e, tn39, h39]
      refine aw_icmp_ge 60 k189_31 (by decide) (fun c_31 => ?_) (fun c_31 => ?_)
      · refine aw_iload_n k189_60 rfl ?_
        refine aw_ireturn k189_61 hR_M_largestField ?_ ?_
        all_goals first | rfl | exact Or.inl rfl | exact Or.inr rfl | assumption | (simp_all; done) | ((repeat' split) <;> first | rfl | (simp only [Int32.lt_iff_toInt_lt, Int32.le_iff_toInt_le, Int64.lt_iff_toInt_lt, Int64.le_iff_toInt_le] at *; omega) | (simp_all; done))
      · exact absurd (show (0 : Int32) ≤ 1 by decide) c_31
  · have hnn := (twF_rng hS hB (i := 0) (by omega)).1
    have loop : ∀ (k j : Nat), j + 1 + k = fC f → AW iM_largestField (d + 8) 23 [some (vR 6 0 0), some (vI (grM f j)), some (vI (nI (j + 1)))] [] (mUp M (6, 0, 0) 0 0) (.inl (some (vI (grF f (fC f)).1))) (mUp M (6, 0, 0) 0 0) 0 := by
      intro k
      induction k with
      | zero =>
        intro j hj
        have hg := gr_eq hnn j (by omega)
        have hv : grM f j = (grF f (fC f)).1 := by rw [hg.1]; congr 2
        rw [hv]
        have hjc : nI (fC f) = nI (j + 1) := congrArg nI (by omega)
        refine aw_iload_n k189_23 rfl ?_
        refine aw_aload_n k189_24 rfl ?_
        refine aw_getR k189_25 hC_M_largestField fs_M_7 (by decide) ⟨rfl, rfl⟩ rfl ?_
        try simp only [e, tn39, h39, hjc]
        refine aw_bipush (v := 39) k189_28 (by decide) ?_
        refine aw_iaload k189_30 (by first | exact ⟨rfl, rfl⟩ | exact ⟨by assumption, rfl⟩ | exact ⟨by assumption, by assumption⟩ | exact ⟨rfl, by decide⟩ | exact ⟨by assumption, by decide⟩ | exact ⟨by decide, rfl⟩ | exact ⟨by decide, by decide⟩ | exact ⟨by decide, by assumption⟩ | assumption) (by first | rfl | assumption) (by first | rfl | assumption) hin39 ?_
        try simp only [e, tn39, h39, hjc]
        refine aw_icmp_ge 60 k189_31 (by decide) (fun c_31 => ?_) (fun c_31 => ?_)
        · refine aw_iload_n k189_60 rfl ?_
          refine aw_ireturn k189_61 hR_M_largestField ?_ ?_
          all_goals first | rfl | exact Or.inl rfl | exact Or.inr rfl | assumption | (simp_all; done) | ((repeat' split) <;> first | rfl | (simp only [Int32.lt_iff_toInt_lt, Int32.le_iff_toInt_le, Int64.lt_iff_toInt_lt, Int64.le_iff_toInt_le] at *; omega) | (simp_all; done))
        · exact absurd (Int32.le_refl _) c_31
      | succ k ih =>
        intro j hj
        obtain ⟨g1, g2, i, hi, g3⟩ := gr_eq hnn j (by omega)
        have har := m_area (d := d + 3) (M := mUp M (6, 0, 0) 0 0) (i := j + 1) e (by rw [e]; exact hS.fm (by omega))
        have har2 := m_area (d := d + 3) (M := mUp M (6, 0, 0) 0 0) (i := i) e (by rw [e]; exact hS.fm (by omega))
        have hst : grM f (j + 1) = if twF f i / 2 < twF f (j + 1) / 2 then nI (j + 1) else nI i := by
          show (if twF f (grM f j).toNatClampNeg / 2 < twF f (j + 1) / 2 then nI (j + 1) else grM f j) = _
          rw [g3, nI_clamp (by omega)]
        have ih2 := ih (j + 1) (by omega)
        rw [hst] at ih2
        rw [g3]
        refine aw_iload_n k189_23 rfl ?_
        refine aw_aload_n k189_24 rfl ?_
        refine aw_getR k189_25 hC_M_largestField fs_M_7 (by decide) ⟨rfl, rfl⟩ rfl ?_
        try simp only [e, tn39, h39]
        refine aw_bipush (v := 39) k189_28 (by decide) ?_
        refine aw_iaload k189_30 (by first | exact ⟨rfl, rfl⟩ | exact ⟨by assumption, rfl⟩ | exact ⟨by assumption, by assumption⟩ | exact ⟨rfl, by decide⟩ | exact ⟨by assumption, by decide⟩ | exact ⟨by decide, rfl⟩ | exact ⟨by decide, by decide⟩ | exact ⟨by decide, by assumption⟩ | assumption) (by first | rfl | assumption) (by first | rfl | assumption) hin39 ?_
        try simp only [e, tn39, h39]
        refine aw_icmp_ge 60 k189_31 (by decide) (fun c_31 => ?_) (fun c_31 => ?_)
        · exact absurd (nI_le_of c_31) (by omega)
        · refine aw_aload_n k189_34 rfl ?_
          refine aw_iload_n k189_35 rfl ?_
          refine aw_callV1 k189_36 hC_M_largestField ok_M_area sv_M_183 hH_M_area ⟨rfl, rfl⟩ (by decide) hN_M_area (by rw [hL_M_area]; exact Nat.le_of_ble_eq_true rfl) (Nat.le_of_ble_eq_true rfl) har ?_
          refine aw_aload_n k189_39 rfl ?_
          refine aw_iload_n k189_40 rfl ?_
          refine aw_callV1 k189_41 hC_M_largestField ok_M_area sv_M_183 hH_M_area ⟨rfl, rfl⟩ (by decide) hN_M_area (by rw [hL_M_area]; exact Nat.le_of_ble_eq_true rfl) (Nat.le_of_ble_eq_true rfl) har2 ?_
          refine aw_lcmp_le 52 k189_44 k189_45 (by decide) (fun c_44 => ?_) (fun c_44 => ?_)
          · refine aw_iload_n k189_52 rfl ?_
            refine aw_istore_n k189_53 (Nat.le_of_ble_eq_true rfl) rfl ?_
            refine aw_iinc (y := 1) k189_54 rfl (by decide) rfl ?_
            try simp only [e, tn39, h39]
            rw [nI_1 (j + 1)]
            refine aw_goto (t := 23) k189_57 (by decide) ?_
            first
              | (have g := Int64.not_le.mp c_44
                 rw [if_pos g] at ih2
                 exact ih2)
              | (have g := Int64.not_lt.mpr c_44
                 rw [if_neg g] at ih2
                 exact ih2)
          · refine aw_iload_n k189_48 rfl ?_
            refine aw_goto (t := 53) k189_49 (by decide) ?_
            refine aw_istore_n k189_53 (Nat.le_of_ble_eq_true rfl) rfl ?_
            refine aw_iinc (y := 1) k189_54 rfl (by decide) rfl ?_
            try simp only [e, tn39, h39]
            rw [nI_1 (j + 1)]
            refine aw_goto (t := 23) k189_57 (by decide) ?_
            first
              | (have g := Int64.not_le.mp c_44
                 rw [if_pos g] at ih2
                 exact ih2)
              | (have g := Int64.not_lt.mpr c_44
                 rw [if_neg g] at ih2
                 exact ih2)
    have hl := loop (fC f - 1) 0 (by omega)
    refine ct_go hL_M_largestField rfl ?_
    refine aw_aload_n k189_0 rfl ?_
    refine aw_iconst (v := 0) k189_1 (by decide) ?_
    refine aw_putI k189_2 hC_M_largestField fs_M_25 (by decide) ⟨rfl, rfl⟩ rfl po_6_0 ?_
    try simp only [e, tn39, h39]
    refine aw_aload_n k189_5 rfl ?_
    refine aw_getR k189_6 hC_M_largestField fs_M_7 (by decide) ⟨rfl, rfl⟩ rfl ?_
    try simp only [e, tn39, h39]
    refine aw_bipush (v := 39) k189_9 (by decide) ?_
    refine aw_iaload k189_11 (by first | exact ⟨rfl, rfl⟩ | exact ⟨by assumption, rfl⟩ | exact ⟨by assumption, by assumption⟩ | exact ⟨rfl, by decide⟩ | exact ⟨by assumption, by decide⟩ | exact ⟨by decide, rfl⟩ | exact ⟨by decide, by decide⟩ | exact ⟨by decide, by assumption⟩ | assumption) (by first | rfl | assumption) (by first | rfl | assumption) hin39 ?_
    try simp only [e, tn39, h39]
    refine aw_if_ne 19 k189_12 (by decide) (fun c_12 => ?_) (fun c_12 => ?_)
    · refine aw_iconst (v := 0) k189_19 (by decide) ?_
      refine aw_istore_n k189_20 (Nat.le_of_ble_eq_true rfl) rfl ?_
      refine aw_iconst (v := 1) k189_21 (by decide) ?_
      refine aw_istore_n k189_22 (Nat.le_of_ble_eq_true rfl) rfl ?_
      exact hl
    · exact absurd (nI_eq_of (b := 0) c_12) h0
