/-! THE MODEL: how far a field goes -/
def minW (X : Nat → Int32) (n : Nat) : Int32 := minV X n
theorem s_M_extent {d i m w : Nat} {M : mM} (h : FM (M (13, 0, 0)) i (m + 1)) (hw : w < 2) : CT iM_extent (d + 2) [vR 6 0 0, vI (nI i), vI (nI w)] M (.inl (some (vI (maxV (cW (M (13, 0, 0)) i w) m - minV (cW (M (13, 0, 0)) i w) m)))) M 0 := by
  obtain ⟨hi, hm, h0, h12⟩ := id h
  refine ct_go hL_M_extent rfl ?_
  have loop : ∀ (l j : Nat) (a b : Int32) (z : Option mAV), j + l = m → a = minV (cW (M (13, 0, 0)) i w) j → b = maxV (cW (M (13, 0, 0)) i w) j → AW iM_extent (d + 2) 14 [some (vR 6 0 0), some (vI (nI i)), some (vI (nI w)), some (vI a), some (vI b), some (vI (nI (j + 1))), z] [] M (.inl (some (vI (maxV (cW (M (13, 0, 0)) i w) m - minV (cW (M (13, 0, 0)) i w) m)))) M 0 := by
    intro l
    induction l with
    | zero =>
      intro j a b z hj ha hb
      obtain rfl : j = m := by omega
      subst ha
      subst hb
      refine aw_iload k136_14 rfl ?_
      refine aw_aload_n k136_16 rfl ?_
      refine aw_iload_n k136_17 rfl ?_
      refine aw_callV1 k136_18 hC_M_extent ok_M_corners sv_M_37 hH_M_corners ⟨rfl, rfl⟩ (by decide) hN_M_corners (by rw [hL_M_corners]; exact Nat.le_of_ble_eq_true rfl) (Nat.le_of_ble_eq_true rfl) (s_M_corners hi) ?_
      rw [hm]
      refine aw_icmp_ge 69 k136_21 (by decide) (fun c_21 => ?_) (fun c_21 => ?_)
      · refine aw_iload k136_69 rfl ?_
        refine aw_iload_n k136_71 rfl ?_
        refine aw_isub k136_72 ?_
        refine aw_ireturn k136_73 hR_M_extent ?_ ?_
        all_goals first | rfl | exact Or.inl rfl | exact Or.inr rfl | assumption | (simp_all; done) | ((repeat' split) <;> first | rfl | (simp only [Int32.lt_iff_toInt_lt, Int32.le_iff_toInt_le, Int64.lt_iff_toInt_lt, Int64.le_iff_toInt_le] at *; omega) | (simp_all; done))
      · exact absurd (nI_leI (by omega) (by omega) |>.mpr (Nat.le_refl _)) c_21
    | succ l ih =>
      intro j a b z hj ha hb
      subst ha
      subst hb
      have hjm : j + 1 < m + 1 := by omega
      refine aw_iload k136_14 rfl ?_
      refine aw_aload_n k136_16 rfl ?_
      refine aw_iload_n k136_17 rfl ?_
      refine aw_callV1 k136_18 hC_M_extent ok_M_corners sv_M_37 hH_M_corners ⟨rfl, rfl⟩ (by decide) hN_M_corners (by rw [hL_M_corners]; exact Nat.le_of_ble_eq_true rfl) (Nat.le_of_ble_eq_true rfl) (s_M_corners hi) ?_
      rw [hm]
      refine aw_icmp_ge 69 k136_21 (by decide) (fun c_21 => ?_) (fun c_21 => ?_)
      · exact absurd (nI_le_of c_21) (by omega)
      · refine aw_aload_n k136_24 rfl ?_
        refine aw_iload_n k136_25 rfl ?_
        refine aw_iload k136_26 rfl ?_
        refine aw_iload_n k136_28 rfl ?_
        refine aw_callV3 k136_29 hC_M_extent ok_M_part sv_M_61 hH_M_part ⟨rfl, rfl⟩ (by decide) hN_M_part (by rw [hL_M_part]; exact Nat.le_of_ble_eq_true rfl) (Nat.le_of_ble_eq_true rfl) (p_at h hjm hw) ?_
        refine aw_istore k136_32 (Nat.le_of_ble_eq_true rfl) rfl ?_
        refine aw_iload k136_34 rfl ?_
        refine aw_iload_n k136_36 rfl ?_
        refine aw_icmp_ge 45 k136_37 (by decide) (fun c_37 => ?_) (fun c_37 => ?_)
        · refine aw_iload_n k136_45 rfl ?_
          refine aw_istore_n k136_46 (Nat.le_of_ble_eq_true rfl) rfl ?_
          refine aw_iload k136_47 rfl ?_
          refine aw_iload k136_49 rfl ?_
          refine aw_icmp_le 59 k136_51 (by decide) (fun c_51 => ?_) (fun c_51 => ?_)
          · refine aw_iload k136_59 rfl ?_
            refine aw_istore k136_61 (Nat.le_of_ble_eq_true rfl) rfl ?_
            refine aw_iinc (y := 1) k136_63 rfl (by decide) rfl ?_
            rw [nI_1 (j + 1)]
            refine aw_goto (t := 14) k136_66 (by decide) ?_
            refine ih (j + 1) _ _ _ (by omega) ?_ ?_
            · first | exact (if_pos (Int32.not_le.mp c_37)).symm | exact (if_neg (Int32.not_lt.mpr c_37)).symm
            · first | exact (if_pos (Int32.not_le.mp c_51)).symm | exact (if_neg (Int32.not_lt.mpr c_51)).symm
          · refine aw_iload k136_54 rfl ?_
            refine aw_goto (t := 61) k136_56 (by decide) ?_
            refine aw_istore k136_61 (Nat.le_of_ble_eq_true rfl) rfl ?_
            refine aw_iinc (y := 1) k136_63 rfl (by decide) rfl ?_
            rw [nI_1 (j + 1)]
            refine aw_goto (t := 14) k136_66 (by decide) ?_
            refine ih (j + 1) _ _ _ (by omega) ?_ ?_
            · first | exact (if_pos (Int32.not_le.mp c_37)).symm | exact (if_neg (Int32.not_lt.mpr c_37)).symm
            · first | exact (if_pos (Int32.not_le.mp c_51)).symm | exact (if_neg (Int32.not_lt.mpr c_51)).symm
        · refine aw_iload k136_40 rfl ?_
          refine aw_goto (t := 46) k136_42 (by decide) ?_
          refine aw_istore_n k136_46 (Nat.le_of_ble_eq_true rfl) rfl ?_
          refine aw_iload k136_47 rfl ?_
          refine aw_iload k136_49 rfl ?_
          refine aw_icmp_le 59 k136_51 (by decide) (fun c_51 => ?_) (fun c_51 => ?_)
          · refine aw_iload k136_59 rfl ?_
            refine aw_istore k136_61 (Nat.le_of_ble_eq_true rfl) rfl ?_
            refine aw_iinc (y := 1) k136_63 rfl (by decide) rfl ?_
            rw [nI_1 (j + 1)]
            refine aw_goto (t := 14) k136_66 (by decide) ?_
            refine ih (j + 1) _ _ _ (by omega) ?_ ?_
            · first | exact (if_pos (Int32.not_le.mp c_37)).symm | exact (if_neg (Int32.not_lt.mpr c_37)).symm
            · first | exact (if_pos (Int32.not_le.mp c_51)).symm | exact (if_neg (Int32.not_lt.mpr c_51)).symm
          · refine aw_iload k136_54 rfl ?_
            refine aw_goto (t := 61) k136_56 (by decide) ?_
            refine aw_istore k136_61 (Nat.le_of_ble_eq_true rfl) rfl ?_
            refine aw_iinc (y := 1) k136_63 rfl (by decide) rfl ?_
            rw [nI_1 (j + 1)]
            refine aw_goto (t := 14) k136_66 (by decide) ?_
            refine ih (j + 1) _ _ _ (by omega) ?_ ?_
            · first | exact (if_pos (Int32.not_le.mp c_37)).symm | exact (if_neg (Int32.not_lt.mpr c_37)).symm
            · first | exact (if_pos (Int32.not_le.mp c_51)).symm | exact (if_neg (Int32.not_lt.mpr c_51)).symm
  refine aw_aload_n k136_0 rfl ?_
  refine aw_iload_n k136_1 rfl ?_
  refine aw_iconst (v := 0) k136_2 (by decide) ?_
  refine aw_iload_n k136_3 rfl ?_
  refine aw_callV3 k136_4 hC_M_extent ok_M_part sv_M_61 hH_M_part ⟨rfl, rfl⟩ (by decide) hN_M_part (by rw [hL_M_part]; exact Nat.le_of_ble_eq_true rfl) (Nat.le_of_ble_eq_true rfl) (p_at (k := 0) h (by omega) hw) ?_
  refine aw_istore_n k136_7 (Nat.le_of_ble_eq_true rfl) rfl ?_
  refine aw_iload_n k136_8 rfl ?_
  refine aw_istore k136_9 (Nat.le_of_ble_eq_true rfl) rfl ?_
  refine aw_iconst (v := 1) k136_11 (by decide) ?_
  refine aw_istore k136_12 (Nat.le_of_ble_eq_true rfl) rfl ?_
  exact loop m 0 _ _ _ (by omega) rfl rfl
