/-! THE MODEL: keep and give up -/
theorem twB_c {b b' : Nat → Int32} {m : Nat} (h : ∀ k, k ≤ 2 * m → b k = b' k) : twB b m = twB b' m := by
  unfold twB
  rw [sumL_congr (t' := crB b' m) (fun i hi => by
    have := nx_in hi
    unfold crB
    rw [h _ (by omega), h _ (by omega), h _ (by omega), h _ (by omega)])]
theorem adB_bd {f : Nat → Int32} (hB : BdF f) (h12 : fN f ≤ 12) : ∀ k, k < fN f → bi (bX (adB f (fN f)) k) 400000 ∧ bi (bY (adB f (fN f)) k) 400000 := fun k hk => by
  have e1 : bX (adB f (fN f)) k = adjF f (fN f) k 0 := by
    unfold bX adB
    rw [if_neg (by omega), if_pos (by omega), show (1 + 2 * k - 1) / 2 = k by omega]
  have e2 : bY (adB f (fN f)) k = adjF f (fN f) k 1 := by
    unfold bY adB
    rw [if_neg (by omega), if_neg (by omega), show (2 + 2 * k - 2) / 2 = k by omega]
  rw [e1, e2]
  exact ⟨adj_bd hB h12 (by decide) (by omega), adj_bd hB h12 (by decide) (by omega)⟩
theorem laid_lo {f : Nat → Int32} {c n i j : Nat} (h : j < 40) : laid f c n i j = f j := if_neg (by omega)
theorem laid_b {f : Nat → Int32} {c n k : Nat} (h : k ≤ 2 * n) : laid f c n n (40 + 25 * c + k) = adB f n k := by
  unfold laid
  rw [if_pos (by omega), show 40 + 25 * c + k - (40 + 25 * c) = k by omega]
theorem s_M_canKeep {d : Nat} {M : mM} {f : Nat → Int32} (hS : ShF f) (hB : BdF f) : CT iM_canKeep (d + 4) [vR 6 0 0] (mS M f) (.inl (some (vI (bI (canKeepF f))))) (mS M f) 0 := by
  obtain ⟨h0, h12, h39, h6, -⟩ := id hS
  have hcl : CT iM_close (d + 3) [vR 6 0 0] (mS M f) (.inl (some (vI (bI (closeF f (fN f)))))) (mS M f) 0 := by
    have := s_M_close (d := d + 1) (M := mS M f) (n := fN f) (by rw [mS_at]; exact h0) h12
    rw [mS_at, close_eq hB h12] at this
    exact this
  have hin0 : vp_in (0 : Int32) 190 := vp_in_nI (n := 0) (by decide) (by decide)
  have hin39 : vp_in (39 : Int32) 190 := vp_in_nI (n := 39) (by decide) (by decide)
  refine ct_go hL_M_canKeep rfl ?_
  by_cases hall : 3 ≤ fN f ∧ closeF f (fN f) = true ∧ fC f < 6
  · obtain ⟨a1, a2, a3⟩ := hall
    have hck : canKeepF f = !decide (twB (adB f (fN f)) (fN f) = 0) := by
      unfold canKeepF
      rw [decide_eq_true a1, a2, decide_eq_true a3]
      rfl
    have hpos := tw_pos (adB_bd hB h12) h12
    have hla := s_M_lays (d := d) (M := M) hS hB a3
    have g39 : laid f (fC f) (fN f) (fN f) 39 = nI (fC f) := (laid_lo (by decide)).trans h39
    have htw : CT iM_twice (d + 3) [vR 6 0 0, vI (nI (fC f))] (mS M (laid f (fC f) (fN f) (fN f))) (.inl (some (vL (twB (adB f (fN f)) (fN f))))) (mS M (laid f (fC f) (fN f) (fN f))) 0 := by
      have hb : ∀ k, k ≤ 2 * fN f → blk (laid f (fC f) (fN f) (fN f)) (fC f) k = adB f (fN f) k := fun k hk => laid_b hk
      have := s_M_twice (d := d) (M := mS M (laid f (fC f) (fN f) (fN f))) (i := fC f) (m := fN f) ⟨a3, by rw [mS_at]; exact (hb 0 (by omega)).trans (if_pos rfl), by omega, h12⟩
      rw [mS_at, twB_c hb] at this
      exact this
    have hem : CT iM_empties (d + 3) [vR 6 0 0, vI (nI (fC f))] (mS M (laid f (fC f) (fN f) (fN f))) (.inl none) (mS M f) 0 := by
      have := s_M_empties (d := d + 3) (M := M) (f := laid f (fC f) (fN f) (fN f)) a3
      have e : emp (laid f (fC f) (fN f) (fN f)) (fC f) 25 = f := by
        funext j
        unfold emp
        by_cases q : 40 + 25 * fC f ≤ j ∧ j < 40 + 25 * fC f + 25
        · rw [if_pos q]
          have := hB.2.2.2.2 (fC f) (Nat.le_refl _) a3 (j - (40 + 25 * fC f)) (by omega)
          rw [show 40 + 25 * fC f + (j - (40 + 25 * fC f)) = j by omega] at this
          exact this.symm
        · rw [if_neg q]
          unfold laid
          rw [if_neg (by omega)]
      rw [e] at this
      exact this
    have fin : ∀ b : Bool, b = decide (0 < twB (adB f (fN f)) (fN f)) → AW iM_canKeep (d + 4) 56 [some (vR 6 0 0), none] [vI (bI b)] (mS M (laid f (fC f) (fN f) (fN f))) (.inl (some (vI (bI (canKeepF f))))) (mS M f) 0 := by
      intro b hb
      rw [hck, ← hpos, ← hb]
      refine aw_istore_n k142_56 (Nat.le_of_ble_eq_true rfl) rfl ?_
      refine aw_aload_n k142_57 rfl ?_
      refine aw_aload_n k142_58 rfl ?_
      refine aw_getR k142_59 hC_M_canKeep fs_M_7 (by decide) ⟨rfl, rfl⟩ rfl ?_
      try simp only [mS_at, tn39, g39]
      refine aw_bipush (v := 39) k142_62 (by decide) ?_
      refine aw_iaload k142_64 (by first | exact ⟨rfl, rfl⟩ | exact ⟨by assumption, rfl⟩ | exact ⟨by assumption, by assumption⟩ | exact ⟨rfl, by decide⟩ | exact ⟨by assumption, by decide⟩ | exact ⟨by decide, rfl⟩ | exact ⟨by decide, by decide⟩ | exact ⟨by decide, by assumption⟩ | assumption) (by first | rfl | assumption) (by first | rfl | assumption) hin39 ?_
      try simp only [mS_at, tn39, g39]
      refine aw_callV1v k142_65 hC_M_canKeep ok_M_empties sv_M_91 hH_M_empties ⟨rfl, rfl⟩ (by decide) hN_M_empties (by rw [hL_M_empties]; exact Nat.le_of_ble_eq_true rfl) (Nat.le_of_ble_eq_true rfl) hem ?_
      refine aw_iload_n k142_68 rfl ?_
      refine aw_zreturn k142_69 hR_M_canKeep ?_ ?_ ?_
      · exact bI01 _
      · rfl
      · rfl
    refine aw_aload_n k142_0 rfl ?_
    refine aw_getR k142_1 hC_M_canKeep fs_M_7 (by decide) ⟨rfl, rfl⟩ rfl ?_
    try simp only [mS_at, tn0, tn39, h0, h39, g39]
    refine aw_iconst (v := 0) k142_4 (by decide) ?_
    refine aw_iaload k142_5 (by first | exact ⟨rfl, rfl⟩ | exact ⟨by assumption, rfl⟩ | exact ⟨by assumption, by assumption⟩ | exact ⟨rfl, by decide⟩ | exact ⟨by assumption, by decide⟩ | exact ⟨by decide, rfl⟩ | exact ⟨by decide, by decide⟩ | exact ⟨by decide, by assumption⟩ | assumption) (by first | rfl | assumption) (by first | rfl | assumption) hin0 ?_
    try simp only [mS_at, tn0, tn39, h0, h39, g39]
    refine aw_iconst (v := 3) k142_6 (by decide) ?_
    refine aw_icmp_lt 29 k142_7 (by decide) (fun c_7 => ?_) (fun c_7 => ?_)
    · exact absurd (nI_lt_of (b := 3) c_7) (by omega)
    · refine aw_aload_n k142_10 rfl ?_
      refine aw_callV0 k142_11 hC_M_canKeep ok_M_close sv_M_80 hH_M_close ⟨rfl, rfl⟩ (by decide) hN_M_close (by rw [hL_M_close]; exact Nat.le_of_ble_eq_true rfl) (Nat.le_of_ble_eq_true rfl) hcl ?_
      refine aw_if_eq 29 k142_14 (by decide) (fun c_14 => ?_) (fun c_14 => ?_)
      · exact absurd c_14 (by rw [a2]; decide)
      · refine aw_aload_n k142_17 rfl ?_
        refine aw_getR k142_18 hC_M_canKeep fs_M_7 (by decide) ⟨rfl, rfl⟩ rfl ?_
        try simp only [mS_at, tn0, tn39, h0, h39, g39]
        refine aw_bipush (v := 39) k142_21 (by decide) ?_
        refine aw_iaload k142_23 (by first | exact ⟨rfl, rfl⟩ | exact ⟨by assumption, rfl⟩ | exact ⟨by assumption, by assumption⟩ | exact ⟨rfl, by decide⟩ | exact ⟨by assumption, by decide⟩ | exact ⟨by decide, rfl⟩ | exact ⟨by decide, by decide⟩ | exact ⟨by decide, by assumption⟩ | assumption) (by first | rfl | assumption) (by first | rfl | assumption) hin39 ?_
        try simp only [mS_at, tn0, tn39, h0, h39, g39]
        refine aw_bipush (v := 6) k142_24 (by decide) ?_
        refine aw_icmp_ne 31 k142_26 (by decide) (fun c_26 => ?_) (fun c_26 => ?_)
        · refine aw_aload_n k142_31 rfl ?_
          refine aw_callV0v k142_32 hC_M_canKeep ok_M_lays sv_M_84 hH_M_lays ⟨rfl, rfl⟩ (by decide) hN_M_lays (by rw [hL_M_lays]; exact Nat.le_of_ble_eq_true rfl) (Nat.le_of_ble_eq_true rfl) hla ?_
          refine aw_aload_n k142_35 rfl ?_
          refine aw_aload_n k142_36 rfl ?_
          refine aw_getR k142_37 hC_M_canKeep fs_M_7 (by decide) ⟨rfl, rfl⟩ rfl ?_
          try simp only [mS_at, tn0, tn39, h0, h39, g39]
          refine aw_bipush (v := 39) k142_40 (by decide) ?_
          refine aw_iaload k142_42 (by first | exact ⟨rfl, rfl⟩ | exact ⟨by assumption, rfl⟩ | exact ⟨by assumption, by assumption⟩ | exact ⟨rfl, by decide⟩ | exact ⟨by assumption, by decide⟩ | exact ⟨by decide, rfl⟩ | exact ⟨by decide, by decide⟩ | exact ⟨by decide, by assumption⟩ | assumption) (by first | rfl | assumption) (by first | rfl | assumption) hin39 ?_
          try simp only [mS_at, tn0, tn39, h0, h39, g39]
          refine aw_callV1 k142_43 hC_M_canKeep ok_M_twice sv_M_87 hH_M_twice ⟨rfl, rfl⟩ (by decide) hN_M_twice (by rw [hL_M_twice]; exact Nat.le_of_ble_eq_true rfl) (Nat.le_of_ble_eq_true rfl) htw ?_
          refine aw_lconst (v := 0) k142_46 (by decide) ?_
          refine aw_lcmp_le 55 k142_47 k142_48 (by decide) (fun c_47 => ?_) (fun c_47 => ?_)
          · refine aw_iconst (v := 0) k142_55 (by decide) ?_
            first
              | (have g := Int64.not_le.mp c_47
                 exact fin true (decide_eq_true g).symm)
              | (have g := Int64.not_lt.mpr c_47
                 exact fin false (decide_eq_false g).symm)
          · refine aw_iconst (v := 1) k142_51 (by decide) ?_
            refine aw_goto (t := 56) k142_52 (by decide) ?_
            first
              | (have g := Int64.not_le.mp c_47
                 exact fin true (decide_eq_true g).symm)
              | (have g := Int64.not_lt.mpr c_47
                 exact fin false (decide_eq_false g).symm)
        · exact absurd (nI_eq_of (b := 6) c_26) (by omega)
  · have hck : canKeepF f = false := by
      unfold canKeepF
      by_cases a1 : 3 ≤ fN f
      · by_cases a2 : closeF f (fN f) = true
        · rw [show decide (fC f < 6) = false from decide_eq_false (fun a3 => hall ⟨a1, a2, a3⟩)]
          simp
        · rw [Bool.eq_false_iff.mpr a2]
          simp
      · rw [decide_eq_false a1]
        rfl
    rw [hck]
    refine aw_aload_n k142_0 rfl ?_
    refine aw_getR k142_1 hC_M_canKeep fs_M_7 (by decide) ⟨rfl, rfl⟩ rfl ?_
    try simp only [mS_at, tn0, tn39, h0, h39]
    refine aw_iconst (v := 0) k142_4 (by decide) ?_
    refine aw_iaload k142_5 (by first | exact ⟨rfl, rfl⟩ | exact ⟨by assumption, rfl⟩ | exact ⟨by assumption, by assumption⟩ | exact ⟨rfl, by decide⟩ | exact ⟨by assumption, by decide⟩ | exact ⟨by decide, rfl⟩ | exact ⟨by decide, by decide⟩ | exact ⟨by decide, by assumption⟩ | assumption) (by first | rfl | assumption) (by first | rfl | assumption) hin0 ?_
    try simp only [mS_at, tn0, tn39, h0, h39]
    refine aw_iconst (v := 3) k142_6 (by decide) ?_
    refine aw_icmp_lt 29 k142_7 (by decide) (fun c_7 => ?_) (fun c_7 => ?_)
    · refine aw_iconst (v := 0) k142_29 (by decide) ?_
      refine aw_zreturn k142_30 hR_M_canKeep ?_ ?_ ?_
      all_goals first | rfl | exact Or.inl rfl | exact Or.inr rfl | assumption | (simp_all; done) | ((repeat' split) <;> first | rfl | (simp only [Int32.lt_iff_toInt_lt, Int32.le_iff_toInt_le, Int64.lt_iff_toInt_lt, Int64.le_iff_toInt_le] at *; omega) | (simp_all; done))
    · refine aw_aload_n k142_10 rfl ?_
      refine aw_callV0 k142_11 hC_M_canKeep ok_M_close sv_M_80 hH_M_close ⟨rfl, rfl⟩ (by decide) hN_M_close (by rw [hL_M_close]; exact Nat.le_of_ble_eq_true rfl) (Nat.le_of_ble_eq_true rfl) hcl ?_
      refine aw_if_eq 29 k142_14 (by decide) (fun c_14 => ?_) (fun c_14 => ?_)
      · refine aw_iconst (v := 0) k142_29 (by decide) ?_
        refine aw_zreturn k142_30 hR_M_canKeep ?_ ?_ ?_
        all_goals first | rfl | exact Or.inl rfl | exact Or.inr rfl | assumption | (simp_all; done) | ((repeat' split) <;> first | rfl | (simp only [Int32.lt_iff_toInt_lt, Int32.le_iff_toInt_le, Int64.lt_iff_toInt_lt, Int64.le_iff_toInt_le] at *; omega) | (simp_all; done))
      · refine aw_aload_n k142_17 rfl ?_
        refine aw_getR k142_18 hC_M_canKeep fs_M_7 (by decide) ⟨rfl, rfl⟩ rfl ?_
        try simp only [mS_at, tn0, tn39, h0, h39]
        refine aw_bipush (v := 39) k142_21 (by decide) ?_
        refine aw_iaload k142_23 (by first | exact ⟨rfl, rfl⟩ | exact ⟨by assumption, rfl⟩ | exact ⟨by assumption, by assumption⟩ | exact ⟨rfl, by decide⟩ | exact ⟨by assumption, by decide⟩ | exact ⟨by decide, rfl⟩ | exact ⟨by decide, by decide⟩ | exact ⟨by decide, by assumption⟩ | assumption) (by first | rfl | assumption) (by first | rfl | assumption) hin39 ?_
        try simp only [mS_at, tn0, tn39, h0, h39]
        refine aw_bipush (v := 6) k142_24 (by decide) ?_
        refine aw_icmp_ne 31 k142_26 (by decide) (fun c_26 => ?_) (fun c_26 => ?_)
        · exact absurd ⟨nI_nlt_of (b := 3) c_7, bI_1 c_14, (by have := nI_ne_of (b := 6) c_26; omega)⟩ hall
        · refine aw_iconst (v := 0) k142_29 (by decide) ?_
          refine aw_zreturn k142_30 hR_M_canKeep ?_ ?_ ?_
          all_goals first | rfl | exact Or.inl rfl | exact Or.inr rfl | assumption | (simp_all; done) | ((repeat' split) <;> first | rfl | (simp only [Int32.lt_iff_toInt_lt, Int32.le_iff_toInt_le, Int64.lt_iff_toInt_lt, Int64.le_iff_toInt_le] at *; omega) | (simp_all; done))
/-- the row while the legs go -/
def kpF (f : Nat → Int32) (m : Nat) : Nat → Int32 := fun j => if j = 0 then nI m else if 3 * m < j ∧ j ≤ 3 * fN f then 0 else if j = 39 then nI (fC f + 1) else laid f (fC f) (fN f) (fN f) j
theorem kpF_t {f : Nat → Int32} {m : Nat} (hm : m < fN f) (h12 : fN f ≤ 12) : fTake (kpF f (m + 1)) = kpF f m := by
  have e : fN (kpF f (m + 1)) = m + 1 := fN_of (if_pos rfl) (by omega)
  funext j
  unfold fTake
  rw [e]
  unfold kpF
  by_cases e0 : j = 0
  · rw [if_pos e0, if_pos rfl, if_pos e0, nI_pred]
  · rw [if_neg e0, if_neg e0, if_neg e0]
    by_cases e1 : 3 * (m + 1) ≤ j + 2 ∧ j ≤ 3 * (m + 1)
    · rw [if_pos e1, if_pos (by omega)]
    · rw [if_neg e1]
      by_cases e2 : 3 * (m + 1) < j ∧ j ≤ 3 * fN f
      · rw [if_pos e2, if_pos (by omega)]
      · have e3 : ¬ (3 * m < j ∧ j ≤ 3 * fN f) := by omega
        rw [if_neg e2, if_neg e3]
theorem s_M_keeps {d : Nat} {M : mM} {f : Nat → Int32} (hS : ShF f) (hB : BdF f) (hc6 : fC f < 6) : CT iM_keeps (d + 4) [vR 6 0 0] (mS M f) (.inl (some (vI (fKeep f 39 - 1)))) (mS M (fKeep f)) 0 := by
  obtain ⟨h0, h12, h39, h6, -⟩ := id hS
  have hla := s_M_lays (d := d) (M := M) hS hB hc6
  have hin0 : vp_in (0 : Int32) 190 := vp_in_nI (n := 0) (by decide) (by decide)
  have hin39 : vp_in (39 : Int32) 190 := vp_in_nI (n := 39) (by decide) (by decide)
  have g39 : laid f (fC f) (fN f) (fN f) 39 = nI (fC f) := (laid_lo (by decide)).trans h39
  have hst : up (laid f (fC f) (fN f) (fN f)) 39 (nI (fC f + 1)) = kpF f (fN f) := by
    funext j
    unfold up kpF
    by_cases e0 : j = 0
    · rw [if_neg (by omega), if_pos e0, laid_lo (by omega), e0]
      exact h0
    · have e3 : ¬ (3 * fN f < j ∧ j ≤ 3 * fN f) := by omega
      rw [if_neg e0, if_neg e3]
  have hend : kpF f 0 = fKeep f := by
    funext j
    unfold kpF fKeep
    by_cases e0 : j = 0
    · rw [if_pos e0, if_pos e0]
      rfl
    · rw [if_neg e0, if_neg e0]
      by_cases e1 : j ≤ 3 * fN f
      · rw [if_pos (by omega), if_pos e1]
      · rw [if_neg (by omega), if_neg e1]
        rfl
  have loop : ∀ (m : Nat) (z : Option mAV), m ≤ fN f → AW iM_keeps (d + 4) 15 [some (vR 6 0 0), z] [] (mS M (kpF f m)) (.inl (some (vI (fKeep f 39 - 1)))) (mS M (fKeep f)) 0 := by
    intro m
    induction m with
    | zero =>
      intro z hm
      rw [hend]
      have e0 : fKeep f 0 = 0 := if_pos rfl
      refine aw_aload_n k143_15 rfl ?_
      refine aw_getR k143_16 hC_M_keeps fs_M_7 (by decide) ⟨rfl, rfl⟩ rfl ?_
      try simp only [mS_at, tn0, tn39, e0]
      refine aw_iconst (v := 0) k143_19 (by decide) ?_
      refine aw_iaload k143_20 (by first | exact ⟨rfl, rfl⟩ | exact ⟨by assumption, rfl⟩ | exact ⟨by assumption, by assumption⟩ | exact ⟨rfl, by decide⟩ | exact ⟨by assumption, by decide⟩ | exact ⟨by decide, rfl⟩ | exact ⟨by decide, by decide⟩ | exact ⟨by decide, by assumption⟩ | assumption) (by first | rfl | assumption) (by first | rfl | assumption) hin0 ?_
      try simp only [mS_at, tn0, tn39, e0]
      refine aw_if_le 32 k143_21 (by decide) (fun c_21 => ?_) (fun c_21 => ?_)
      · refine aw_aload_n k143_32 rfl ?_
        refine aw_getR k143_33 hC_M_keeps fs_M_7 (by decide) ⟨rfl, rfl⟩ rfl ?_
        try simp only [mS_at, tn0, tn39, e0]
        refine aw_bipush (v := 39) k143_36 (by decide) ?_
        refine aw_iaload k143_38 (by first | exact ⟨rfl, rfl⟩ | exact ⟨by assumption, rfl⟩ | exact ⟨by assumption, by assumption⟩ | exact ⟨rfl, by decide⟩ | exact ⟨by assumption, by decide⟩ | exact ⟨by decide, rfl⟩ | exact ⟨by decide, by decide⟩ | exact ⟨by decide, by assumption⟩ | assumption) (by first | rfl | assumption) (by first | rfl | assumption) hin39 ?_
        try simp only [mS_at, tn0, tn39, e0]
        refine aw_iconst (v := 1) k143_39 (by decide) ?_
        refine aw_isub k143_40 ?_
        refine aw_ireturn k143_41 hR_M_keeps ?_ ?_
        all_goals first | rfl | exact Or.inl rfl | exact Or.inr rfl | assumption | (simp_all; done) | ((repeat' split) <;> first | rfl | (simp only [Int32.lt_iff_toInt_lt, Int32.le_iff_toInt_le, Int64.lt_iff_toInt_lt, Int64.le_iff_toInt_le] at *; omega) | (simp_all; done))
      · exact absurd (Int32.le_refl 0) c_21
    | succ m ih =>
      intro z hm
      have e0 : kpF f (m + 1) 0 = nI (m + 1) := if_pos rfl
      have ht := s_M_takes (d := d + 3) (M := M) e0 (by omega)
      rw [kpF_t (by omega) h12] at ht
      refine aw_aload_n k143_15 rfl ?_
      refine aw_getR k143_16 hC_M_keeps fs_M_7 (by decide) ⟨rfl, rfl⟩ rfl ?_
      try simp only [mS_at, tn0, e0]
      refine aw_iconst (v := 0) k143_19 (by decide) ?_
      refine aw_iaload k143_20 (by first | exact ⟨rfl, rfl⟩ | exact ⟨by assumption, rfl⟩ | exact ⟨by assumption, by assumption⟩ | exact ⟨rfl, by decide⟩ | exact ⟨by assumption, by decide⟩ | exact ⟨by decide, rfl⟩ | exact ⟨by decide, by decide⟩ | exact ⟨by decide, by assumption⟩ | assumption) (by first | rfl | assumption) (by first | rfl | assumption) hin0 ?_
      try simp only [mS_at, tn0, e0]
      refine aw_if_le 32 k143_21 (by decide) (fun c_21 => ?_) (fun c_21 => ?_)
      · exact absurd (nI_le_of (b := 0) c_21) (by omega)
      · refine aw_aload_n k143_24 rfl ?_
        refine aw_callV0 k143_25 hC_M_keeps ok_M_takes sv_M_95 hH_M_takes ⟨rfl, rfl⟩ (by decide) hN_M_takes (by rw [hL_M_takes]; exact Nat.le_of_ble_eq_true rfl) (Nat.le_of_ble_eq_true rfl) ht ?_
        refine aw_istore_n k143_28 (Nat.le_of_ble_eq_true rfl) rfl ?_
        refine aw_goto (t := 15) k143_29 (by decide) ?_
        exact ih _ (by omega)
  refine ct_go hL_M_keeps rfl ?_
  refine aw_aload_n k143_0 rfl ?_
  refine aw_callV0v k143_1 hC_M_keeps ok_M_lays sv_M_84 hH_M_lays ⟨rfl, rfl⟩ (by decide) hN_M_lays (by rw [hL_M_lays]; exact Nat.le_of_ble_eq_true rfl) (Nat.le_of_ble_eq_true rfl) hla ?_
  refine aw_aload_n k143_4 rfl ?_
  refine aw_getR k143_5 hC_M_keeps fs_M_7 (by decide) ⟨rfl, rfl⟩ rfl ?_
  try simp only [mS_at, mS_up, tn39, g39, hst]
  refine aw_bipush (v := 39) k143_8 (by decide) ?_
  refine aw_dup2IR k143_10 ?_
  refine aw_iaload k143_11 (by first | exact ⟨rfl, rfl⟩ | exact ⟨by assumption, rfl⟩ | exact ⟨by assumption, by assumption⟩ | exact ⟨rfl, by decide⟩ | exact ⟨by assumption, by decide⟩ | exact ⟨by decide, rfl⟩ | exact ⟨by decide, by decide⟩ | exact ⟨by decide, by assumption⟩ | assumption) (by first | rfl | assumption) (by first | rfl | assumption) hin39 ?_
  try simp only [mS_at, mS_up, tn39, g39, hst]
  refine aw_iconst (v := 1) k143_12 (by decide) ?_
  refine aw_iadd k143_13 ?_
  rw [nI_1]
  refine aw_iastore k143_14 (by first | exact ⟨rfl, rfl⟩ | exact ⟨by assumption, rfl⟩ | exact ⟨by assumption, by assumption⟩ | exact ⟨rfl, by decide⟩ | exact ⟨by assumption, by decide⟩ | exact ⟨by decide, rfl⟩ | exact ⟨by decide, by decide⟩ | exact ⟨by decide, by assumption⟩ | assumption) (by first | rfl | assumption) (by first | rfl | assumption) hin39 ?_
  try simp only [mS_at, mS_up, tn39, g39, hst]
  exact loop (fN f) _ (Nat.le_refl _)
def gvF (f : Nat → Int32) (x q : Nat) : Nat → Int32 := fun j => if j = 39 then nI (fC f - 1) else if 40 + 25 * x ≤ j ∧ j < 40 + q then f (j + 25) else f j
theorem s_M_gives {d x : Nat} {M : mM} {f : Nat → Int32} (hS : ShF f) (hx : x < fC f) : CT iM_gives (d + 1) [vR 6 0 0, vI (nI x)] (mS M f) (.inl (some (vI (fGive f x 39)))) (mS M (fGive f x)) 0 := by
  obtain ⟨h0, h12, h39, h6, -⟩ := id hS
  have hin39 : vp_in (39 : Int32) 190 := vp_in_nI (n := 39) (by decide) (by decide)
  have hp : nI (fC f) - 1 = nI (fC f - 1) := nI_sub1 (by omega)
  have h25 : ∀ k, (25 : Int32) * nI k = nI (25 * k) := fun k => by rw [show (25 : Int32) = nI 25 from rfl, nI_mul]
  have h40 : ∀ k, (40 : Int32) + nI k = nI (40 + k) := fun k => by rw [show (40 : Int32) = nI 40 from rfl, nI_add]
  have h65 : ∀ k, (65 : Int32) + nI k = nI (65 + k) := fun k => by rw [show (65 : Int32) = nI 65 from rfl, nI_add]
  have e39 : ∀ q, gvF f x q 39 = nI (fC f - 1) := fun q => if_pos rfl
  have hst : up f 39 (nI (fC f - 1)) = gvF f x (25 * x) := by
    funext j
    unfold up gvF
    by_cases e : j = 39
    · rw [if_pos e, if_pos e]
    · rw [if_neg e, if_neg e, if_neg (by omega)]
  have hem : CT iM_empties d [vR 6 0 0, vI (nI (fC f - 1))] (mS M (gvF f x (25 * (fC f - 1)))) (.inl none) (mS M (fGive f x)) 0 := by
    have := s_M_empties (d := d) (M := M) (f := gvF f x (25 * (fC f - 1))) (i := fC f - 1) (by omega)
    have e : emp (gvF f x (25 * (fC f - 1))) (fC f - 1) 25 = fGive f x := by
      funext j
      unfold emp gvF fGive
      by_cases e0 : j = 39
      · rw [if_neg (by omega), if_pos e0, if_pos e0]
      · rw [if_neg e0, if_neg e0]
        by_cases e1 : 40 + 25 * x ≤ j ∧ j < 40 + 25 * (fC f - 1)
        · rw [if_neg (by omega), if_pos e1, if_pos e1]
        · rw [if_neg e1, if_neg e1]
          by_cases e2 : 40 + 25 * (fC f - 1) ≤ j ∧ j < 40 + 25 * fC f
          · rw [if_pos (by omega), if_pos e2]
          · rw [if_neg (by omega), if_neg e2]
    rw [e] at this
    exact this
  have g39 : fGive f x 39 = nI (fC f - 1) := if_pos rfl
  have loop : ∀ (l q : Nat), q + l = 25 * (fC f - 1) → 25 * x ≤ q → AW iM_gives (d + 1) 16 [some (vR 6 0 0), some (vI (nI x)), some (vI (nI q))] [] (mS M (gvF f x q)) (.inl (some (vI (fGive f x 39)))) (mS M (fGive f x)) 0 := by
    intro l
    induction l with
    | zero =>
      intro q hq hxq
      obtain rfl : q = 25 * (fC f - 1) := by omega
      refine aw_iload_n k144_16 rfl ?_
      refine aw_bipush (v := 25) k144_17 (by decide) ?_
      refine aw_aload_n k144_19 rfl ?_
      refine aw_getR k144_20 hC_M_gives fs_M_7 (by decide) ⟨rfl, rfl⟩ rfl ?_
      try simp only [mS_at, tn39, e39]
      refine aw_bipush (v := 39) k144_23 (by decide) ?_
      refine aw_iaload k144_25 (by first | exact ⟨rfl, rfl⟩ | exact ⟨by assumption, rfl⟩ | exact ⟨by assumption, by assumption⟩ | exact ⟨rfl, by decide⟩ | exact ⟨by assumption, by decide⟩ | exact ⟨by decide, rfl⟩ | exact ⟨by decide, by decide⟩ | exact ⟨by decide, by assumption⟩ | assumption) (by first | rfl | assumption) (by first | rfl | assumption) hin39 ?_
      try simp only [mS_at, tn39, e39]
      refine aw_imul k144_26 ?_
      rw [h25]
      refine aw_icmp_ge 54 k144_27 (by decide) (fun c_27 => ?_) (fun c_27 => ?_)
      · refine aw_aload_n k144_54 rfl ?_
        refine aw_aload_n k144_55 rfl ?_
        refine aw_getR k144_56 hC_M_gives fs_M_7 (by decide) ⟨rfl, rfl⟩ rfl ?_
        try simp only [mS_at, tn39, e39]
        refine aw_bipush (v := 39) k144_59 (by decide) ?_
        refine aw_iaload k144_61 (by first | exact ⟨rfl, rfl⟩ | exact ⟨by assumption, rfl⟩ | exact ⟨by assumption, by assumption⟩ | exact ⟨rfl, by decide⟩ | exact ⟨by assumption, by decide⟩ | exact ⟨by decide, rfl⟩ | exact ⟨by decide, by decide⟩ | exact ⟨by decide, by assumption⟩ | assumption) (by first | rfl | assumption) (by first | rfl | assumption) hin39 ?_
        try simp only [mS_at, tn39, e39]
        refine aw_callV1v k144_62 hC_M_gives ok_M_empties sv_M_91 hH_M_empties ⟨rfl, rfl⟩ (by decide) hN_M_empties (by rw [hL_M_empties]; exact Nat.le_of_ble_eq_true rfl) (Nat.le_of_ble_eq_true rfl) hem ?_
        refine aw_aload_n k144_65 rfl ?_
        refine aw_getR k144_66 hC_M_gives fs_M_7 (by decide) ⟨rfl, rfl⟩ rfl ?_
        try simp only [mS_at, tn39, e39]
        refine aw_bipush (v := 39) k144_69 (by decide) ?_
        refine aw_iaload k144_71 (by first | exact ⟨rfl, rfl⟩ | exact ⟨by assumption, rfl⟩ | exact ⟨by assumption, by assumption⟩ | exact ⟨rfl, by decide⟩ | exact ⟨by assumption, by decide⟩ | exact ⟨by decide, rfl⟩ | exact ⟨by decide, by decide⟩ | exact ⟨by decide, by assumption⟩ | assumption) (by first | rfl | assumption) (by first | rfl | assumption) hin39 ?_
        try simp only [mS_at, tn39, e39]
        refine aw_ireturn k144_72 hR_M_gives ?_ ?_
        all_goals first | rfl | exact Or.inl rfl | exact Or.inr rfl | assumption | (simp_all; done) | ((repeat' split) <;> first | rfl | (simp only [Int32.lt_iff_toInt_lt, Int32.le_iff_toInt_le, Int64.lt_iff_toInt_lt, Int64.le_iff_toInt_le] at *; omega) | (simp_all; done))
      · exact absurd (Int32.le_refl _) c_27
    | succ l ih =>
      intro q hq hxq
      have k1 : (nI (40 + q)).toNatClampNeg = 40 + q := nI_clamp (by omega)
      have k2 : (nI (65 + q)).toNatClampNeg = 65 + q := nI_clamp (by omega)
      have i1 : vp_in (nI (40 + q)) 190 := vp_in_nI (by omega) (by decide)
      have i2 : vp_in (nI (65 + q)) 190 := vp_in_nI (by omega) (by decide)
      have hs : up (gvF f x q) (40 + q) (gvF f x q (65 + q)) = gvF f x (q + 1) := by
        funext j
        unfold up gvF
        by_cases e : j = 40 + q
        · rw [if_pos e, if_neg (by omega), if_neg (by omega), if_neg (by omega), if_pos (by omega), e]
          exact congrArg f (by omega)
        · rw [if_neg e]
          by_cases e0 : j = 39
          · rw [if_pos e0, if_pos e0]
          · rw [if_neg e0, if_neg e0]
            by_cases e1 : 40 + 25 * x ≤ j ∧ j < 40 + q
            · rw [if_pos e1, if_pos (by omega)]
            · rw [if_neg e1, if_neg (by omega)]
      refine aw_iload_n k144_16 rfl ?_
      refine aw_bipush (v := 25) k144_17 (by decide) ?_
      refine aw_aload_n k144_19 rfl ?_
      refine aw_getR k144_20 hC_M_gives fs_M_7 (by decide) ⟨rfl, rfl⟩ rfl ?_
      try simp only [mS_at, mS_up, tn39, e39, k1, k2, hs]
      refine aw_bipush (v := 39) k144_23 (by decide) ?_
      refine aw_iaload k144_25 (by first | exact ⟨rfl, rfl⟩ | exact ⟨by assumption, rfl⟩ | exact ⟨by assumption, by assumption⟩ | exact ⟨rfl, by decide⟩ | exact ⟨by assumption, by decide⟩ | exact ⟨by decide, rfl⟩ | exact ⟨by decide, by decide⟩ | exact ⟨by decide, by assumption⟩ | assumption) (by first | rfl | assumption) (by first | rfl | assumption) hin39 ?_
      try simp only [mS_at, mS_up, tn39, e39, k1, k2, hs]
      refine aw_imul k144_26 ?_
      rw [h25]
      refine aw_icmp_ge 54 k144_27 (by decide) (fun c_27 => ?_) (fun c_27 => ?_)
      · exact absurd (nI_le_of c_27) (by omega)
      · refine aw_aload_n k144_30 rfl ?_
        refine aw_getR k144_31 hC_M_gives fs_M_7 (by decide) ⟨rfl, rfl⟩ rfl ?_
        try simp only [mS_at, mS_up, tn39, e39, k1, k2, hs]
        refine aw_bipush (v := 40) k144_34 (by decide) ?_
        refine aw_iload_n k144_36 rfl ?_
        refine aw_iadd k144_37 ?_
        rw [h40]
        refine aw_aload_n k144_38 rfl ?_
        refine aw_getR k144_39 hC_M_gives fs_M_7 (by decide) ⟨rfl, rfl⟩ rfl ?_
        try simp only [mS_at, mS_up, tn39, e39, k1, k2, hs]
        refine aw_bipush (v := 65) k144_42 (by decide) ?_
        refine aw_iload_n k144_44 rfl ?_
        refine aw_iadd k144_45 ?_
        rw [h65]
        refine aw_iaload k144_46 (by first | exact ⟨rfl, rfl⟩ | exact ⟨by assumption, rfl⟩ | exact ⟨by assumption, by assumption⟩ | exact ⟨rfl, by decide⟩ | exact ⟨by assumption, by decide⟩ | exact ⟨by decide, rfl⟩ | exact ⟨by decide, by decide⟩ | exact ⟨by decide, by assumption⟩ | assumption) (by first | rfl | assumption) (by first | rfl | assumption) i2 ?_
        try simp only [mS_at, mS_up, tn39, e39, k1, k2, hs]
        refine aw_iastore k144_47 (by first | exact ⟨rfl, rfl⟩ | exact ⟨by assumption, rfl⟩ | exact ⟨by assumption, by assumption⟩ | exact ⟨rfl, by decide⟩ | exact ⟨by assumption, by decide⟩ | exact ⟨by decide, rfl⟩ | exact ⟨by decide, by decide⟩ | exact ⟨by decide, by assumption⟩ | assumption) (by first | rfl | assumption) (by first | rfl | assumption) i1 ?_
        try simp only [mS_at, mS_up, tn39, e39, k1, k2, hs]
        refine aw_iinc (y := 1) k144_48 rfl (by decide) rfl ?_
        try simp only [mS_at, mS_up, tn39, e39, k1, k2, hs]
        rw [nI_1 q]
        refine aw_goto (t := 16) k144_51 (by decide) ?_
        exact ih (q + 1) (by omega) (by omega)
  refine ct_go hL_M_gives rfl ?_
  refine aw_aload_n k144_0 rfl ?_
  refine aw_getR k144_1 hC_M_gives fs_M_7 (by decide) ⟨rfl, rfl⟩ rfl ?_
  try simp only [mS_at, mS_up, tn39, h39, hp, hst]
  refine aw_bipush (v := 39) k144_4 (by decide) ?_
  refine aw_dup2IR k144_6 ?_
  refine aw_iaload k144_7 (by first | exact ⟨rfl, rfl⟩ | exact ⟨by assumption, rfl⟩ | exact ⟨by assumption, by assumption⟩ | exact ⟨rfl, by decide⟩ | exact ⟨by assumption, by decide⟩ | exact ⟨by decide, rfl⟩ | exact ⟨by decide, by decide⟩ | exact ⟨by decide, by assumption⟩ | assumption) (by first | rfl | assumption) (by first | rfl | assumption) hin39 ?_
  try simp only [mS_at, mS_up, tn39, h39, hp, hst]
  refine aw_iconst (v := 1) k144_8 (by decide) ?_
  refine aw_isub k144_9 ?_
  rw [hp]
  refine aw_iastore k144_10 (by first | exact ⟨rfl, rfl⟩ | exact ⟨by assumption, rfl⟩ | exact ⟨by assumption, by assumption⟩ | exact ⟨rfl, by decide⟩ | exact ⟨by assumption, by decide⟩ | exact ⟨by decide, rfl⟩ | exact ⟨by decide, by decide⟩ | exact ⟨by decide, by assumption⟩ | assumption) (by first | rfl | assumption) (by first | rfl | assumption) hin39 ?_
  try simp only [mS_at, mS_up, tn39, h39, hp, hst]
  refine aw_bipush (v := 25) k144_11 (by decide) ?_
  refine aw_iload_n k144_13 rfl ?_
  refine aw_imul k144_14 ?_
  rw [h25]
  refine aw_istore_n k144_15 (Nat.le_of_ble_eq_true rfl) rfl ?_
  exact loop (25 * (fC f - 1) - 25 * x) (25 * x) (by omega) (Nat.le_refl _)
