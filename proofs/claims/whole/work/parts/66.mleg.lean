/-! THE MODEL: behind a leg, behind an order -/
def bo (r : Nat ⊕ (Nat × mOrd)) : Int32 := match r with | .inl e => -1 - nI e | .inr q => nI q.1
theorem s_M_behindLeg {d L p : Nat} {M : mM} {t : Nat → Int32} (h : TxM M t L) (hp : p < L) : CT iM_behindLeg (d + 2) [vR 6 0 0, vI (nI p)] M (.inl (some (vI (bo (oneLeg (tx t L) p))))) M 0 := by
  have h80 := h.1
  have hE : CT iM_behindNumber (d + 1) [vR 6 0 0, vI (nI (p + 1)), vI 0, vI 9999] M (.inl (some (vI (nI (legE (tx t L) p).1)))) M 0 := s_M_behindNumber h (by omega) (by decide) (by decide) (by decide) (by decide)
  have hEL : (legE (tx t L) p).1 ≤ L := num_le (by decide) (by omega)
  have hcE := s_M_charAt (d := d + 1) (p := (legE (tx t L) p).1) h (by omega)
  refine ct_go hL_M_behindLeg rfl ?_
  by_cases gA : (legE (tx t L) p).1 = p + 1
  · have hr : bo (oneLeg (tx t L) p) = -1 - nI (legE (tx t L) p).1 := by
      unfold oneLeg
      rw [if_pos (Or.inl gA)]
      rfl
    rw [hr]
    refine aw_aload_n k155_0 rfl ?_
    refine aw_iload_n k155_1 rfl ?_
    refine aw_iconst (v := 1) k155_2 (by decide) ?_
    refine aw_iadd k155_3 ?_
    rw [nI_1 p]
    refine aw_iconst (v := 0) k155_4 (by decide) ?_
    refine aw_sipush (v := 9999) k155_5 (by decide) ?_
    refine aw_callV3 k155_8 hC_M_behindLeg ok_M_behindNumber sv_M_128 hH_M_behindNumber ⟨rfl, rfl⟩ (by decide) hN_M_behindNumber (by rw [hL_M_behindNumber]; exact Nat.le_of_ble_eq_true rfl) (Nat.le_of_ble_eq_true rfl) hE ?_
    refine aw_istore_n k155_11 (Nat.le_of_ble_eq_true rfl) rfl ?_
    refine aw_iload_n k155_12 rfl ?_
    refine aw_iload_n k155_13 rfl ?_
    refine aw_iconst (v := 1) k155_14 (by decide) ?_
    refine aw_iadd k155_15 ?_
    rw [nI_1 p]
    refine aw_icmp_eq 39 k155_16 (by decide) (fun c_16 => ?_) (fun c_16 => ?_)
    · refine aw_iconst (v := (-1)) k155_39 (by decide) ?_
      refine aw_iload_n k155_40 rfl ?_
      refine aw_isub k155_41 ?_
      refine aw_ireturn k155_42 hR_M_behindLeg ?_ ?_
      all_goals first | rfl | exact Or.inl rfl | exact Or.inr rfl | assumption | (simp_all; done) | ((repeat' split) <;> first | rfl | (simp only [Int32.lt_iff_toInt_lt, Int32.le_iff_toInt_le, Int64.lt_iff_toInt_lt, Int64.le_iff_toInt_le] at *; omega) | (simp_all; done))
    · exact absurd (congrArg nI gA) c_16
  · by_cases gB : tx t L (legE (tx t L) p).1 = 110 ∨ tx t L (legE (tx t L) p).1 = 115
    · have hEl : (legE (tx t L) p).1 < L := tx_lt (fun e => by rw [e] at gB; exact absurd gB (by decide))
      have hN : CT iM_behindNumber (d + 1) [vR 6 0 0, vI (nI ((legE (tx t L) p).1 + 1)), vI 0, vI 9999] M (.inl (some (vI (nI (legN (tx t L) p).1)))) M 0 := s_M_behindNumber h (by omega) (by decide) (by decide) (by decide) (by decide)
      have hNL : (legN (tx t L) p).1 ≤ L := num_le (by decide) (by omega)
      have hcN := s_M_charAt (d := d + 1) (p := (legN (tx t L) p).1) h (by omega)
      have s43 : AW iM_behindLeg (d + 2) 43 [some (vR 6 0 0), some (vI (nI p)), some (vI (nI (legE (tx t L) p).1)), none, none] [] M (.inl (some (vI (bo (oneLeg (tx t L) p))))) M 0 := by
        have hx1 : ¬ ((legE (tx t L) p).1 = p + 1 ∨ ¬ (tx t L (legE (tx t L) p).1 = 110 ∨ tx t L (legE (tx t L) p).1 = 115)) := fun q => q.elim gA (fun q => q gB)
        by_cases gC : (legN (tx t L) p).1 = (legE (tx t L) p).1 + 1
        · have hr : bo (oneLeg (tx t L) p) = -1 - nI (legN (tx t L) p).1 := by
            unfold oneLeg
            rw [if_neg hx1, if_pos (Or.inl gC)]
            rfl
          rw [hr]
          refine aw_aload_n k155_43 rfl ?_
          refine aw_iload_n k155_44 rfl ?_
          refine aw_iconst (v := 1) k155_45 (by decide) ?_
          refine aw_iadd k155_46 ?_
          rw [nI_1 (legE (tx t L) p).1]
          refine aw_iconst (v := 0) k155_47 (by decide) ?_
          refine aw_sipush (v := 9999) k155_48 (by decide) ?_
          refine aw_callV3 k155_51 hC_M_behindLeg ok_M_behindNumber sv_M_128 hH_M_behindNumber ⟨rfl, rfl⟩ (by decide) hN_M_behindNumber (by rw [hL_M_behindNumber]; exact Nat.le_of_ble_eq_true rfl) (Nat.le_of_ble_eq_true rfl) hN ?_
          refine aw_istore_n k155_54 (Nat.le_of_ble_eq_true rfl) rfl ?_
          refine aw_iload_n k155_55 rfl ?_
          refine aw_iload_n k155_56 rfl ?_
          refine aw_iconst (v := 1) k155_57 (by decide) ?_
          refine aw_iadd k155_58 ?_
          rw [nI_1 (legE (tx t L) p).1]
          refine aw_icmp_eq 72 k155_59 (by decide) (fun c_59 => ?_) (fun c_59 => ?_)
          · refine aw_iconst (v := (-1)) k155_72 (by decide) ?_
            refine aw_iload_n k155_73 rfl ?_
            refine aw_isub k155_74 ?_
            refine aw_ireturn k155_75 hR_M_behindLeg ?_ ?_
            all_goals first | rfl | exact Or.inl rfl | exact Or.inr rfl | assumption | (simp_all; done) | ((repeat' split) <;> first | rfl | (simp only [Int32.lt_iff_toInt_lt, Int32.le_iff_toInt_le, Int64.lt_iff_toInt_lt, Int64.le_iff_toInt_le] at *; omega) | (simp_all; done))
          · exact absurd (congrArg nI gC) c_59
        · by_cases gD : tx t L (legN (tx t L) p).1 = 108
          · have hx2 : ¬ ((legN (tx t L) p).1 = (legE (tx t L) p).1 + 1 ∨ ¬ tx t L (legN (tx t L) p).1 = 108) := fun q => q.elim gC (fun q => q gD)
            have hNl : (legN (tx t L) p).1 < L := tx_lt (fun e => by rw [e] at gD; exact absurd gD (by decide))
            have hG : CT iM_behindNumber (d + 1) [vR 6 0 0, vI (nI ((legN (tx t L) p).1 + 1)), vI 1, vI 20000] M (.inl (some (vI (nI (legL (tx t L) p).1)))) M 0 := s_M_behindNumber h (by omega) (by decide) (by decide) (by decide) (by decide)
            have hGL : (legL (tx t L) p).1 ≤ L := num_le (by decide) (by omega)
            by_cases gE : (legL (tx t L) p).1 = (legN (tx t L) p).1 + 1
            · have hr : bo (oneLeg (tx t L) p) = -1 - nI (legL (tx t L) p).1 := by
                unfold oneLeg
                rw [if_neg hx1, if_neg hx2, if_pos gE]
                rfl
              rw [hr]
              refine aw_aload_n k155_43 rfl ?_
              refine aw_iload_n k155_44 rfl ?_
              refine aw_iconst (v := 1) k155_45 (by decide) ?_
              refine aw_iadd k155_46 ?_
              rw [nI_1 (legE (tx t L) p).1]
              refine aw_iconst (v := 0) k155_47 (by decide) ?_
              refine aw_sipush (v := 9999) k155_48 (by decide) ?_
              refine aw_callV3 k155_51 hC_M_behindLeg ok_M_behindNumber sv_M_128 hH_M_behindNumber ⟨rfl, rfl⟩ (by decide) hN_M_behindNumber (by rw [hL_M_behindNumber]; exact Nat.le_of_ble_eq_true rfl) (Nat.le_of_ble_eq_true rfl) hN ?_
              refine aw_istore_n k155_54 (Nat.le_of_ble_eq_true rfl) rfl ?_
              refine aw_iload_n k155_55 rfl ?_
              refine aw_iload_n k155_56 rfl ?_
              refine aw_iconst (v := 1) k155_57 (by decide) ?_
              refine aw_iadd k155_58 ?_
              rw [nI_1 (legE (tx t L) p).1]
              refine aw_icmp_eq 72 k155_59 (by decide) (fun c_59 => ?_) (fun c_59 => ?_)
              · exact absurd (nI_eq_of c_59) gC
              · refine aw_aload_n k155_62 rfl ?_
                refine aw_iload_n k155_63 rfl ?_
                refine aw_callV1 k155_64 hC_M_behindLeg ok_M_charAt sv_M_125 hH_M_charAt ⟨rfl, rfl⟩ (by decide) hN_M_charAt (by rw [hL_M_charAt]; exact Nat.le_of_ble_eq_true rfl) (Nat.le_of_ble_eq_true rfl) hcN ?_
                refine aw_bipush (v := 108) k155_67 (by decide) ?_
                refine aw_icmp_eq 76 k155_69 (by decide) (fun c_69 => ?_) (fun c_69 => ?_)
                · refine aw_aload_n k155_76 rfl ?_
                  refine aw_iload_n k155_77 rfl ?_
                  refine aw_iconst (v := 1) k155_78 (by decide) ?_
                  refine aw_iadd k155_79 ?_
                  rw [nI_1 (legN (tx t L) p).1]
                  refine aw_iconst (v := 1) k155_80 (by decide) ?_
                  refine aw_sipush (v := 20000) k155_81 (by decide) ?_
                  refine aw_callV3 k155_84 hC_M_behindLeg ok_M_behindNumber sv_M_128 hH_M_behindNumber ⟨rfl, rfl⟩ (by decide) hN_M_behindNumber (by rw [hL_M_behindNumber]; exact Nat.le_of_ble_eq_true rfl) (Nat.le_of_ble_eq_true rfl) hG ?_
                  refine aw_istore k155_87 (Nat.le_of_ble_eq_true rfl) rfl ?_
                  refine aw_iload k155_89 rfl ?_
                  refine aw_iload_n k155_91 rfl ?_
                  refine aw_iconst (v := 1) k155_92 (by decide) ?_
                  refine aw_iadd k155_93 ?_
                  rw [nI_1 (legN (tx t L) p).1]
                  refine aw_icmp_ne 104 k155_94 (by decide) (fun c_94 => ?_) (fun c_94 => ?_)
                  · exact absurd (congrArg nI gE) c_94
                  · refine aw_iconst (v := (-1)) k155_97 (by decide) ?_
                    refine aw_iload k155_98 rfl ?_
                    refine aw_isub k155_100 ?_
                    refine aw_goto (t := 106) k155_101 (by decide) ?_
                    refine aw_ireturn k155_106 hR_M_behindLeg ?_ ?_
                    all_goals first | rfl | exact Or.inl rfl | exact Or.inr rfl | assumption | (simp_all; done) | ((repeat' split) <;> first | rfl | (simp only [Int32.lt_iff_toInt_lt, Int32.le_iff_toInt_le, Int64.lt_iff_toInt_lt, Int64.le_iff_toInt_le] at *; omega) | (simp_all; done))
                · exact absurd gD c_69
            · have hr : bo (oneLeg (tx t L) p) = nI (legL (tx t L) p).1 := by
                unfold oneLeg
                rw [if_neg hx1, if_neg hx2, if_neg gE]
                rfl
              rw [hr]
              refine aw_aload_n k155_43 rfl ?_
              refine aw_iload_n k155_44 rfl ?_
              refine aw_iconst (v := 1) k155_45 (by decide) ?_
              refine aw_iadd k155_46 ?_
              rw [nI_1 (legE (tx t L) p).1]
              refine aw_iconst (v := 0) k155_47 (by decide) ?_
              refine aw_sipush (v := 9999) k155_48 (by decide) ?_
              refine aw_callV3 k155_51 hC_M_behindLeg ok_M_behindNumber sv_M_128 hH_M_behindNumber ⟨rfl, rfl⟩ (by decide) hN_M_behindNumber (by rw [hL_M_behindNumber]; exact Nat.le_of_ble_eq_true rfl) (Nat.le_of_ble_eq_true rfl) hN ?_
              refine aw_istore_n k155_54 (Nat.le_of_ble_eq_true rfl) rfl ?_
              refine aw_iload_n k155_55 rfl ?_
              refine aw_iload_n k155_56 rfl ?_
              refine aw_iconst (v := 1) k155_57 (by decide) ?_
              refine aw_iadd k155_58 ?_
              rw [nI_1 (legE (tx t L) p).1]
              refine aw_icmp_eq 72 k155_59 (by decide) (fun c_59 => ?_) (fun c_59 => ?_)
              · exact absurd (nI_eq_of c_59) gC
              · refine aw_aload_n k155_62 rfl ?_
                refine aw_iload_n k155_63 rfl ?_
                refine aw_callV1 k155_64 hC_M_behindLeg ok_M_charAt sv_M_125 hH_M_charAt ⟨rfl, rfl⟩ (by decide) hN_M_charAt (by rw [hL_M_charAt]; exact Nat.le_of_ble_eq_true rfl) (Nat.le_of_ble_eq_true rfl) hcN ?_
                refine aw_bipush (v := 108) k155_67 (by decide) ?_
                refine aw_icmp_eq 76 k155_69 (by decide) (fun c_69 => ?_) (fun c_69 => ?_)
                · refine aw_aload_n k155_76 rfl ?_
                  refine aw_iload_n k155_77 rfl ?_
                  refine aw_iconst (v := 1) k155_78 (by decide) ?_
                  refine aw_iadd k155_79 ?_
                  rw [nI_1 (legN (tx t L) p).1]
                  refine aw_iconst (v := 1) k155_80 (by decide) ?_
                  refine aw_sipush (v := 20000) k155_81 (by decide) ?_
                  refine aw_callV3 k155_84 hC_M_behindLeg ok_M_behindNumber sv_M_128 hH_M_behindNumber ⟨rfl, rfl⟩ (by decide) hN_M_behindNumber (by rw [hL_M_behindNumber]; exact Nat.le_of_ble_eq_true rfl) (Nat.le_of_ble_eq_true rfl) hG ?_
                  refine aw_istore k155_87 (Nat.le_of_ble_eq_true rfl) rfl ?_
                  refine aw_iload k155_89 rfl ?_
                  refine aw_iload_n k155_91 rfl ?_
                  refine aw_iconst (v := 1) k155_92 (by decide) ?_
                  refine aw_iadd k155_93 ?_
                  rw [nI_1 (legN (tx t L) p).1]
                  refine aw_icmp_ne 104 k155_94 (by decide) (fun c_94 => ?_) (fun c_94 => ?_)
                  · refine aw_iload k155_104 rfl ?_
                    refine aw_ireturn k155_106 hR_M_behindLeg ?_ ?_
                    all_goals first | rfl | exact Or.inl rfl | exact Or.inr rfl | assumption | (simp_all; done) | ((repeat' split) <;> first | rfl | (simp only [Int32.lt_iff_toInt_lt, Int32.le_iff_toInt_le, Int64.lt_iff_toInt_lt, Int64.le_iff_toInt_le] at *; omega) | (simp_all; done))
                  · exact absurd (nI_eq_of c_94) gE
                · exact absurd gD c_69
          · have hr : bo (oneLeg (tx t L) p) = -1 - nI (legN (tx t L) p).1 := by
              unfold oneLeg
              rw [if_neg hx1, if_pos (Or.inr gD)]
              rfl
            rw [hr]
            refine aw_aload_n k155_43 rfl ?_
            refine aw_iload_n k155_44 rfl ?_
            refine aw_iconst (v := 1) k155_45 (by decide) ?_
            refine aw_iadd k155_46 ?_
            rw [nI_1 (legE (tx t L) p).1]
            refine aw_iconst (v := 0) k155_47 (by decide) ?_
            refine aw_sipush (v := 9999) k155_48 (by decide) ?_
            refine aw_callV3 k155_51 hC_M_behindLeg ok_M_behindNumber sv_M_128 hH_M_behindNumber ⟨rfl, rfl⟩ (by decide) hN_M_behindNumber (by rw [hL_M_behindNumber]; exact Nat.le_of_ble_eq_true rfl) (Nat.le_of_ble_eq_true rfl) hN ?_
            refine aw_istore_n k155_54 (Nat.le_of_ble_eq_true rfl) rfl ?_
            refine aw_iload_n k155_55 rfl ?_
            refine aw_iload_n k155_56 rfl ?_
            refine aw_iconst (v := 1) k155_57 (by decide) ?_
            refine aw_iadd k155_58 ?_
            rw [nI_1 (legE (tx t L) p).1]
            refine aw_icmp_eq 72 k155_59 (by decide) (fun c_59 => ?_) (fun c_59 => ?_)
            · exact absurd (nI_eq_of c_59) gC
            · refine aw_aload_n k155_62 rfl ?_
              refine aw_iload_n k155_63 rfl ?_
              refine aw_callV1 k155_64 hC_M_behindLeg ok_M_charAt sv_M_125 hH_M_charAt ⟨rfl, rfl⟩ (by decide) hN_M_charAt (by rw [hL_M_charAt]; exact Nat.le_of_ble_eq_true rfl) (Nat.le_of_ble_eq_true rfl) hcN ?_
              refine aw_bipush (v := 108) k155_67 (by decide) ?_
              refine aw_icmp_eq 76 k155_69 (by decide) (fun c_69 => ?_) (fun c_69 => ?_)
              · exact absurd c_69 gD
              · refine aw_iconst (v := (-1)) k155_72 (by decide) ?_
                refine aw_iload_n k155_73 rfl ?_
                refine aw_isub k155_74 ?_
                refine aw_ireturn k155_75 hR_M_behindLeg ?_ ?_
                all_goals first | rfl | exact Or.inl rfl | exact Or.inr rfl | assumption | (simp_all; done) | ((repeat' split) <;> first | rfl | (simp only [Int32.lt_iff_toInt_lt, Int32.le_iff_toInt_le, Int64.lt_iff_toInt_lt, Int64.le_iff_toInt_le] at *; omega) | (simp_all; done))
      rcases gB with gB1 | gB1
      · refine aw_aload_n k155_0 rfl ?_
        refine aw_iload_n k155_1 rfl ?_
        refine aw_iconst (v := 1) k155_2 (by decide) ?_
        refine aw_iadd k155_3 ?_
        rw [nI_1 p]
        refine aw_iconst (v := 0) k155_4 (by decide) ?_
        refine aw_sipush (v := 9999) k155_5 (by decide) ?_
        refine aw_callV3 k155_8 hC_M_behindLeg ok_M_behindNumber sv_M_128 hH_M_behindNumber ⟨rfl, rfl⟩ (by decide) hN_M_behindNumber (by rw [hL_M_behindNumber]; exact Nat.le_of_ble_eq_true rfl) (Nat.le_of_ble_eq_true rfl) hE ?_
        refine aw_istore_n k155_11 (Nat.le_of_ble_eq_true rfl) rfl ?_
        refine aw_iload_n k155_12 rfl ?_
        refine aw_iload_n k155_13 rfl ?_
        refine aw_iconst (v := 1) k155_14 (by decide) ?_
        refine aw_iadd k155_15 ?_
        rw [nI_1 p]
        refine aw_icmp_eq 39 k155_16 (by decide) (fun c_16 => ?_) (fun c_16 => ?_)
        · exact absurd (nI_eq_of c_16) gA
        · refine aw_aload_n k155_19 rfl ?_
          refine aw_iload_n k155_20 rfl ?_
          refine aw_callV1 k155_21 hC_M_behindLeg ok_M_charAt sv_M_125 hH_M_charAt ⟨rfl, rfl⟩ (by decide) hN_M_charAt (by rw [hL_M_charAt]; exact Nat.le_of_ble_eq_true rfl) (Nat.le_of_ble_eq_true rfl) hcE ?_
          refine aw_bipush (v := 110) k155_24 (by decide) ?_
          refine aw_icmp_eq 43 k155_26 (by decide) (fun c_26 => ?_) (fun c_26 => ?_)
          · exact s43
          · exact absurd gB1 c_26
      · refine aw_aload_n k155_0 rfl ?_
        refine aw_iload_n k155_1 rfl ?_
        refine aw_iconst (v := 1) k155_2 (by decide) ?_
        refine aw_iadd k155_3 ?_
        rw [nI_1 p]
        refine aw_iconst (v := 0) k155_4 (by decide) ?_
        refine aw_sipush (v := 9999) k155_5 (by decide) ?_
        refine aw_callV3 k155_8 hC_M_behindLeg ok_M_behindNumber sv_M_128 hH_M_behindNumber ⟨rfl, rfl⟩ (by decide) hN_M_behindNumber (by rw [hL_M_behindNumber]; exact Nat.le_of_ble_eq_true rfl) (Nat.le_of_ble_eq_true rfl) hE ?_
        refine aw_istore_n k155_11 (Nat.le_of_ble_eq_true rfl) rfl ?_
        refine aw_iload_n k155_12 rfl ?_
        refine aw_iload_n k155_13 rfl ?_
        refine aw_iconst (v := 1) k155_14 (by decide) ?_
        refine aw_iadd k155_15 ?_
        rw [nI_1 p]
        refine aw_icmp_eq 39 k155_16 (by decide) (fun c_16 => ?_) (fun c_16 => ?_)
        · exact absurd (nI_eq_of c_16) gA
        · refine aw_aload_n k155_19 rfl ?_
          refine aw_iload_n k155_20 rfl ?_
          refine aw_callV1 k155_21 hC_M_behindLeg ok_M_charAt sv_M_125 hH_M_charAt ⟨rfl, rfl⟩ (by decide) hN_M_charAt (by rw [hL_M_charAt]; exact Nat.le_of_ble_eq_true rfl) (Nat.le_of_ble_eq_true rfl) hcE ?_
          refine aw_bipush (v := 110) k155_24 (by decide) ?_
          refine aw_icmp_eq 43 k155_26 (by decide) (fun c_26 => ?_) (fun c_26 => ?_)
          · exact s43
          · refine aw_aload_n k155_29 rfl ?_
            refine aw_iload_n k155_30 rfl ?_
            refine aw_callV1 k155_31 hC_M_behindLeg ok_M_charAt sv_M_125 hH_M_charAt ⟨rfl, rfl⟩ (by decide) hN_M_charAt (by rw [hL_M_charAt]; exact Nat.le_of_ble_eq_true rfl) (Nat.le_of_ble_eq_true rfl) hcE ?_
            refine aw_bipush (v := 115) k155_34 (by decide) ?_
            refine aw_icmp_eq 43 k155_36 (by decide) (fun c_36 => ?_) (fun c_36 => ?_)
            · exact s43
            · exact absurd gB1 c_36
    · have hr : bo (oneLeg (tx t L) p) = -1 - nI (legE (tx t L) p).1 := by
        unfold oneLeg
        rw [if_pos (Or.inr gB)]
        rfl
      rw [hr]
      refine aw_aload_n k155_0 rfl ?_
      refine aw_iload_n k155_1 rfl ?_
      refine aw_iconst (v := 1) k155_2 (by decide) ?_
      refine aw_iadd k155_3 ?_
      rw [nI_1 p]
      refine aw_iconst (v := 0) k155_4 (by decide) ?_
      refine aw_sipush (v := 9999) k155_5 (by decide) ?_
      refine aw_callV3 k155_8 hC_M_behindLeg ok_M_behindNumber sv_M_128 hH_M_behindNumber ⟨rfl, rfl⟩ (by decide) hN_M_behindNumber (by rw [hL_M_behindNumber]; exact Nat.le_of_ble_eq_true rfl) (Nat.le_of_ble_eq_true rfl) hE ?_
      refine aw_istore_n k155_11 (Nat.le_of_ble_eq_true rfl) rfl ?_
      refine aw_iload_n k155_12 rfl ?_
      refine aw_iload_n k155_13 rfl ?_
      refine aw_iconst (v := 1) k155_14 (by decide) ?_
      refine aw_iadd k155_15 ?_
      rw [nI_1 p]
      refine aw_icmp_eq 39 k155_16 (by decide) (fun c_16 => ?_) (fun c_16 => ?_)
      · exact absurd (nI_eq_of c_16) gA
      · refine aw_aload_n k155_19 rfl ?_
        refine aw_iload_n k155_20 rfl ?_
        refine aw_callV1 k155_21 hC_M_behindLeg ok_M_charAt sv_M_125 hH_M_charAt ⟨rfl, rfl⟩ (by decide) hN_M_charAt (by rw [hL_M_charAt]; exact Nat.le_of_ble_eq_true rfl) (Nat.le_of_ble_eq_true rfl) hcE ?_
        refine aw_bipush (v := 110) k155_24 (by decide) ?_
        refine aw_icmp_eq 43 k155_26 (by decide) (fun c_26 => ?_) (fun c_26 => ?_)
        · exact absurd (Or.inl c_26) gB
        · refine aw_aload_n k155_29 rfl ?_
          refine aw_iload_n k155_30 rfl ?_
          refine aw_callV1 k155_31 hC_M_behindLeg ok_M_charAt sv_M_125 hH_M_charAt ⟨rfl, rfl⟩ (by decide) hN_M_charAt (by rw [hL_M_charAt]; exact Nat.le_of_ble_eq_true rfl) (Nat.le_of_ble_eq_true rfl) hcE ?_
          refine aw_bipush (v := 115) k155_34 (by decide) ?_
          refine aw_icmp_eq 43 k155_36 (by decide) (fun c_36 => ?_) (fun c_36 => ?_)
          · exact absurd (Or.inr c_36) gB
          · refine aw_iconst (v := (-1)) k155_39 (by decide) ?_
            refine aw_iload_n k155_40 rfl ?_
            refine aw_isub k155_41 ?_
            refine aw_ireturn k155_42 hR_M_behindLeg ?_ ?_
            all_goals first | rfl | exact Or.inl rfl | exact Or.inr rfl | assumption | (simp_all; done) | ((repeat' split) <;> first | rfl | (simp only [Int32.lt_iff_toInt_lt, Int32.le_iff_toInt_le, Int64.lt_iff_toInt_lt, Int64.le_iff_toInt_le] at *; omega) | (simp_all; done))
theorem bo_g (p : Nat) : (-2 : Int32) - nI p = -1 - nI (p + 1) := by
  rw [← nI_1 p]
  grind
theorem s_M_behindOrder {d L p : Nat} {M : mM} {t : Nat → Int32} (h : TxM M t L) (hp : p ≤ L) : CT iM_behindOrder (d + 3) [vR 6 0 0, vI (nI p)] M (.inl (some (vI (bo (one (tx t L) p))))) M 0 := by
  have h80 := h.1
  have hc := s_M_charAt (d := d + 2) (p := p) h (by omega)
  have hc1 := s_M_charAt (d := d + 2) (p := p + 1) h (by omega)
  refine ct_go hL_M_behindOrder rfl ?_
  unfold one
  by_cases g1 : tx t L p = 101 ∨ tx t L p = 119
  · rw [if_pos g1]
    have hpL : p < L := tx_lt (fun e => by rw [e] at g1; exact absurd g1 (by decide))
    have hB := s_M_behindLeg (d := d) h hpL
    rcases g1 with g | g
    · refine aw_aload_n k156_0 rfl ?_
      refine aw_iload_n k156_1 rfl ?_
      refine aw_callV1 k156_2 hC_M_behindOrder ok_M_charAt sv_M_125 hH_M_charAt ⟨rfl, rfl⟩ (by decide) hN_M_charAt (by rw [hL_M_charAt]; exact Nat.le_of_ble_eq_true rfl) (Nat.le_of_ble_eq_true rfl) hc ?_
      refine aw_istore_n k156_5 (Nat.le_of_ble_eq_true rfl) rfl ?_
      refine aw_iload_n k156_6 rfl ?_
      refine aw_bipush (v := 101) k156_7 (by decide) ?_
      refine aw_icmp_eq 18 k156_9 (by decide) (fun c_9 => ?_) (fun c_9 => ?_)
      · refine aw_aload_n k156_18 rfl ?_
        refine aw_iload_n k156_19 rfl ?_
        refine aw_callV1 k156_20 hC_M_behindOrder ok_M_behindLeg sv_M_131 hH_M_behindLeg ⟨rfl, rfl⟩ (by decide) hN_M_behindLeg (by rw [hL_M_behindLeg]; exact Nat.le_of_ble_eq_true rfl) (Nat.le_of_ble_eq_true rfl) hB ?_
        refine aw_ireturn k156_23 hR_M_behindOrder ?_ ?_
        all_goals first | rfl | exact Or.inl rfl | exact Or.inr rfl | assumption | (simp_all; done) | ((repeat' split) <;> first | rfl | (simp only [Int32.lt_iff_toInt_lt, Int32.le_iff_toInt_le, Int64.lt_iff_toInt_lt, Int64.le_iff_toInt_le] at *; omega) | (simp_all; done))
      · exact absurd g c_9
    · refine aw_aload_n k156_0 rfl ?_
      refine aw_iload_n k156_1 rfl ?_
      refine aw_callV1 k156_2 hC_M_behindOrder ok_M_charAt sv_M_125 hH_M_charAt ⟨rfl, rfl⟩ (by decide) hN_M_charAt (by rw [hL_M_charAt]; exact Nat.le_of_ble_eq_true rfl) (Nat.le_of_ble_eq_true rfl) hc ?_
      refine aw_istore_n k156_5 (Nat.le_of_ble_eq_true rfl) rfl ?_
      refine aw_iload_n k156_6 rfl ?_
      refine aw_bipush (v := 101) k156_7 (by decide) ?_
      refine aw_icmp_eq 18 k156_9 (by decide) (fun c_9 => ?_) (fun c_9 => ?_)
      · refine aw_aload_n k156_18 rfl ?_
        refine aw_iload_n k156_19 rfl ?_
        refine aw_callV1 k156_20 hC_M_behindOrder ok_M_behindLeg sv_M_131 hH_M_behindLeg ⟨rfl, rfl⟩ (by decide) hN_M_behindLeg (by rw [hL_M_behindLeg]; exact Nat.le_of_ble_eq_true rfl) (Nat.le_of_ble_eq_true rfl) hB ?_
        refine aw_ireturn k156_23 hR_M_behindOrder ?_ ?_
        all_goals first | rfl | exact Or.inl rfl | exact Or.inr rfl | assumption | (simp_all; done) | ((repeat' split) <;> first | rfl | (simp only [Int32.lt_iff_toInt_lt, Int32.le_iff_toInt_le, Int64.lt_iff_toInt_lt, Int64.le_iff_toInt_le] at *; omega) | (simp_all; done))
      · refine aw_iload_n k156_12 rfl ?_
        refine aw_bipush (v := 119) k156_13 (by decide) ?_
        refine aw_icmp_ne 24 k156_15 (by decide) (fun c_15 => ?_) (fun c_15 => ?_)
        · exact absurd g c_15
        · refine aw_aload_n k156_18 rfl ?_
          refine aw_iload_n k156_19 rfl ?_
          refine aw_callV1 k156_20 hC_M_behindOrder ok_M_behindLeg sv_M_131 hH_M_behindLeg ⟨rfl, rfl⟩ (by decide) hN_M_behindLeg (by rw [hL_M_behindLeg]; exact Nat.le_of_ble_eq_true rfl) (Nat.le_of_ble_eq_true rfl) hB ?_
          refine aw_ireturn k156_23 hR_M_behindOrder ?_ ?_
          all_goals first | rfl | exact Or.inl rfl | exact Or.inr rfl | assumption | (simp_all; done) | ((repeat' split) <;> first | rfl | (simp only [Int32.lt_iff_toInt_lt, Int32.le_iff_toInt_le, Int64.lt_iff_toInt_lt, Int64.le_iff_toInt_le] at *; omega) | (simp_all; done))
  · rw [if_neg g1]
    by_cases g2 : tx t L p = 103
    · rw [if_pos g2]
      by_cases g3 : 48 ≤ tx t L (p + 1) ∧ tx t L (p + 1) ≤ 53
      · rw [if_pos g3]
        show AW _ _ _ _ _ _ (.inl (some (vI (nI (p + 2))))) _ _
        refine aw_aload_n k156_0 rfl ?_
        refine aw_iload_n k156_1 rfl ?_
        refine aw_callV1 k156_2 hC_M_behindOrder ok_M_charAt sv_M_125 hH_M_charAt ⟨rfl, rfl⟩ (by decide) hN_M_charAt (by rw [hL_M_charAt]; exact Nat.le_of_ble_eq_true rfl) (Nat.le_of_ble_eq_true rfl) hc ?_
        refine aw_istore_n k156_5 (Nat.le_of_ble_eq_true rfl) rfl ?_
        refine aw_iload_n k156_6 rfl ?_
        refine aw_bipush (v := 101) k156_7 (by decide) ?_
        refine aw_icmp_eq 18 k156_9 (by decide) (fun c_9 => ?_) (fun c_9 => ?_)
        · exact absurd (Or.inl c_9) g1
        · refine aw_iload_n k156_12 rfl ?_
          refine aw_bipush (v := 119) k156_13 (by decide) ?_
          refine aw_icmp_ne 24 k156_15 (by decide) (fun c_15 => ?_) (fun c_15 => ?_)
          · refine aw_iload_n k156_24 rfl ?_
            refine aw_bipush (v := 103) k156_25 (by decide) ?_
            refine aw_icmp_ne 58 k156_27 (by decide) (fun c_27 => ?_) (fun c_27 => ?_)
            · exact absurd g2 c_27
            · refine aw_aload_n k156_30 rfl ?_
              refine aw_iload_n k156_31 rfl ?_
              refine aw_iconst (v := 1) k156_32 (by decide) ?_
              refine aw_iadd k156_33 ?_
              rw [nI_1 p]
              refine aw_callV1 k156_34 hC_M_behindOrder ok_M_charAt sv_M_125 hH_M_charAt ⟨rfl, rfl⟩ (by decide) hN_M_charAt (by rw [hL_M_charAt]; exact Nat.le_of_ble_eq_true rfl) (Nat.le_of_ble_eq_true rfl) hc1 ?_
              refine aw_bipush (v := 48) k156_37 (by decide) ?_
              refine aw_bipush (v := 53) k156_39 (by decide) ?_
              refine aw_callS3 k156_41 hC_M_behindOrder ok_M_in ss_M_29 hH_M_in (by rw [hL_M_in]; exact Nat.le_of_ble_eq_true rfl) (Nat.le_of_ble_eq_true rfl) (in_t g3) ?_
              refine aw_if_eq 53 k156_44 (by decide) (fun c_44 => ?_) (fun c_44 => ?_)
              · exact absurd (show (1 : Int32) = 0 from c_44) (by decide)
              · refine aw_iload_n k156_47 rfl ?_
                refine aw_iconst (v := 2) k156_48 (by decide) ?_
                refine aw_iadd k156_49 ?_
                rw [nI_2 p]
                refine aw_goto (t := 57) k156_50 (by decide) ?_
                refine aw_ireturn k156_57 hR_M_behindOrder ?_ ?_
                all_goals first | rfl | exact Or.inl rfl | exact Or.inr rfl | assumption | (simp_all; done) | ((repeat' split) <;> first | rfl | (simp only [Int32.lt_iff_toInt_lt, Int32.le_iff_toInt_le, Int64.lt_iff_toInt_lt, Int64.le_iff_toInt_le] at *; omega) | (simp_all; done))
          · exact absurd (Or.inr c_15) g1
      · rw [if_neg g3]
        show AW _ _ _ _ _ _ (.inl (some (vI (-1 - nI (p + 1))))) _ _
        refine aw_aload_n k156_0 rfl ?_
        refine aw_iload_n k156_1 rfl ?_
        refine aw_callV1 k156_2 hC_M_behindOrder ok_M_charAt sv_M_125 hH_M_charAt ⟨rfl, rfl⟩ (by decide) hN_M_charAt (by rw [hL_M_charAt]; exact Nat.le_of_ble_eq_true rfl) (Nat.le_of_ble_eq_true rfl) hc ?_
        refine aw_istore_n k156_5 (Nat.le_of_ble_eq_true rfl) rfl ?_
        refine aw_iload_n k156_6 rfl ?_
        refine aw_bipush (v := 101) k156_7 (by decide) ?_
        refine aw_icmp_eq 18 k156_9 (by decide) (fun c_9 => ?_) (fun c_9 => ?_)
        · exact absurd (Or.inl c_9) g1
        · refine aw_iload_n k156_12 rfl ?_
          refine aw_bipush (v := 119) k156_13 (by decide) ?_
          refine aw_icmp_ne 24 k156_15 (by decide) (fun c_15 => ?_) (fun c_15 => ?_)
          · refine aw_iload_n k156_24 rfl ?_
            refine aw_bipush (v := 103) k156_25 (by decide) ?_
            refine aw_icmp_ne 58 k156_27 (by decide) (fun c_27 => ?_) (fun c_27 => ?_)
            · exact absurd g2 c_27
            · refine aw_aload_n k156_30 rfl ?_
              refine aw_iload_n k156_31 rfl ?_
              refine aw_iconst (v := 1) k156_32 (by decide) ?_
              refine aw_iadd k156_33 ?_
              rw [nI_1 p]
              refine aw_callV1 k156_34 hC_M_behindOrder ok_M_charAt sv_M_125 hH_M_charAt ⟨rfl, rfl⟩ (by decide) hN_M_charAt (by rw [hL_M_charAt]; exact Nat.le_of_ble_eq_true rfl) (Nat.le_of_ble_eq_true rfl) hc1 ?_
              refine aw_bipush (v := 48) k156_37 (by decide) ?_
              refine aw_bipush (v := 53) k156_39 (by decide) ?_
              refine aw_callS3 k156_41 hC_M_behindOrder ok_M_in ss_M_29 hH_M_in (by rw [hL_M_in]; exact Nat.le_of_ble_eq_true rfl) (Nat.le_of_ble_eq_true rfl) (in_f g3) ?_
              refine aw_if_eq 53 k156_44 (by decide) (fun c_44 => ?_) (fun c_44 => ?_)
              · refine aw_bipush (v := (-2)) k156_53 (by decide) ?_
                refine aw_iload_n k156_55 rfl ?_
                refine aw_isub k156_56 ?_
                rw [bo_g p]
                refine aw_ireturn k156_57 hR_M_behindOrder ?_ ?_
                all_goals first | rfl | exact Or.inl rfl | exact Or.inr rfl | assumption | (simp_all; done) | ((repeat' split) <;> first | rfl | (simp only [Int32.lt_iff_toInt_lt, Int32.le_iff_toInt_le, Int64.lt_iff_toInt_lt, Int64.le_iff_toInt_le] at *; omega) | (simp_all; done))
              · exact absurd rfl c_44
          · exact absurd (Or.inr c_15) g1
    · rw [if_neg g2]
      by_cases g3 : tx t L p = 98
      · rw [if_pos g3]
        show AW _ _ _ _ _ _ (.inl (some (vI (nI (p + 1))))) _ _
        refine aw_aload_n k156_0 rfl ?_
        refine aw_iload_n k156_1 rfl ?_
        refine aw_callV1 k156_2 hC_M_behindOrder ok_M_charAt sv_M_125 hH_M_charAt ⟨rfl, rfl⟩ (by decide) hN_M_charAt (by rw [hL_M_charAt]; exact Nat.le_of_ble_eq_true rfl) (Nat.le_of_ble_eq_true rfl) hc ?_
        refine aw_istore_n k156_5 (Nat.le_of_ble_eq_true rfl) rfl ?_
        refine aw_iload_n k156_6 rfl ?_
        refine aw_bipush (v := 101) k156_7 (by decide) ?_
        refine aw_icmp_eq 18 k156_9 (by decide) (fun c_9 => ?_) (fun c_9 => ?_)
        · exact absurd (Or.inl c_9) g1
        · refine aw_iload_n k156_12 rfl ?_
          refine aw_bipush (v := 119) k156_13 (by decide) ?_
          refine aw_icmp_ne 24 k156_15 (by decide) (fun c_15 => ?_) (fun c_15 => ?_)
          · refine aw_iload_n k156_24 rfl ?_
            refine aw_bipush (v := 103) k156_25 (by decide) ?_
            refine aw_icmp_ne 58 k156_27 (by decide) (fun c_27 => ?_) (fun c_27 => ?_)
            · refine aw_iload_n k156_58 rfl ?_
              refine aw_bipush (v := 98) k156_59 (by decide) ?_
              refine aw_icmp_eq 70 k156_61 (by decide) (fun c_61 => ?_) (fun c_61 => ?_)
              · refine aw_iload_n k156_70 rfl ?_
                refine aw_iconst (v := 1) k156_71 (by decide) ?_
                refine aw_iadd k156_72 ?_
                rw [nI_1 p]
                refine aw_goto (t := 79) k156_73 (by decide) ?_
                refine aw_ireturn k156_79 hR_M_behindOrder ?_ ?_
                all_goals first | rfl | exact Or.inl rfl | exact Or.inr rfl | assumption | (simp_all; done) | ((repeat' split) <;> first | rfl | (simp only [Int32.lt_iff_toInt_lt, Int32.le_iff_toInt_le, Int64.lt_iff_toInt_lt, Int64.le_iff_toInt_le] at *; omega) | (simp_all; done))
              · exact absurd g3 c_61
            · exact absurd c_27 g2
          · exact absurd (Or.inr c_15) g1
      · rw [if_neg g3]
        by_cases g4 : tx t L p = 107
        · rw [if_pos g4]
          show AW _ _ _ _ _ _ (.inl (some (vI (nI (p + 1))))) _ _
          refine aw_aload_n k156_0 rfl ?_
          refine aw_iload_n k156_1 rfl ?_
          refine aw_callV1 k156_2 hC_M_behindOrder ok_M_charAt sv_M_125 hH_M_charAt ⟨rfl, rfl⟩ (by decide) hN_M_charAt (by rw [hL_M_charAt]; exact Nat.le_of_ble_eq_true rfl) (Nat.le_of_ble_eq_true rfl) hc ?_
          refine aw_istore_n k156_5 (Nat.le_of_ble_eq_true rfl) rfl ?_
          refine aw_iload_n k156_6 rfl ?_
          refine aw_bipush (v := 101) k156_7 (by decide) ?_
          refine aw_icmp_eq 18 k156_9 (by decide) (fun c_9 => ?_) (fun c_9 => ?_)
          · exact absurd (Or.inl c_9) g1
          · refine aw_iload_n k156_12 rfl ?_
            refine aw_bipush (v := 119) k156_13 (by decide) ?_
            refine aw_icmp_ne 24 k156_15 (by decide) (fun c_15 => ?_) (fun c_15 => ?_)
            · refine aw_iload_n k156_24 rfl ?_
              refine aw_bipush (v := 103) k156_25 (by decide) ?_
              refine aw_icmp_ne 58 k156_27 (by decide) (fun c_27 => ?_) (fun c_27 => ?_)
              · refine aw_iload_n k156_58 rfl ?_
                refine aw_bipush (v := 98) k156_59 (by decide) ?_
                refine aw_icmp_eq 70 k156_61 (by decide) (fun c_61 => ?_) (fun c_61 => ?_)
                · exact absurd c_61 g3
                · refine aw_iload_n k156_64 rfl ?_
                  refine aw_bipush (v := 107) k156_65 (by decide) ?_
                  refine aw_icmp_ne 76 k156_67 (by decide) (fun c_67 => ?_) (fun c_67 => ?_)
                  · exact absurd g4 c_67
                  · refine aw_iload_n k156_70 rfl ?_
                    refine aw_iconst (v := 1) k156_71 (by decide) ?_
                    refine aw_iadd k156_72 ?_
                    rw [nI_1 p]
                    refine aw_goto (t := 79) k156_73 (by decide) ?_
                    refine aw_ireturn k156_79 hR_M_behindOrder ?_ ?_
                    all_goals first | rfl | exact Or.inl rfl | exact Or.inr rfl | assumption | (simp_all; done) | ((repeat' split) <;> first | rfl | (simp only [Int32.lt_iff_toInt_lt, Int32.le_iff_toInt_le, Int64.lt_iff_toInt_lt, Int64.le_iff_toInt_le] at *; omega) | (simp_all; done))
              · exact absurd c_27 g2
            · exact absurd (Or.inr c_15) g1
        · rw [if_neg g4]
          show AW _ _ _ _ _ _ (.inl (some (vI (-1 - nI p)))) _ _
          refine aw_aload_n k156_0 rfl ?_
          refine aw_iload_n k156_1 rfl ?_
          refine aw_callV1 k156_2 hC_M_behindOrder ok_M_charAt sv_M_125 hH_M_charAt ⟨rfl, rfl⟩ (by decide) hN_M_charAt (by rw [hL_M_charAt]; exact Nat.le_of_ble_eq_true rfl) (Nat.le_of_ble_eq_true rfl) hc ?_
          refine aw_istore_n k156_5 (Nat.le_of_ble_eq_true rfl) rfl ?_
          refine aw_iload_n k156_6 rfl ?_
          refine aw_bipush (v := 101) k156_7 (by decide) ?_
          refine aw_icmp_eq 18 k156_9 (by decide) (fun c_9 => ?_) (fun c_9 => ?_)
          · exact absurd (Or.inl c_9) g1
          · refine aw_iload_n k156_12 rfl ?_
            refine aw_bipush (v := 119) k156_13 (by decide) ?_
            refine aw_icmp_ne 24 k156_15 (by decide) (fun c_15 => ?_) (fun c_15 => ?_)
            · refine aw_iload_n k156_24 rfl ?_
              refine aw_bipush (v := 103) k156_25 (by decide) ?_
              refine aw_icmp_ne 58 k156_27 (by decide) (fun c_27 => ?_) (fun c_27 => ?_)
              · refine aw_iload_n k156_58 rfl ?_
                refine aw_bipush (v := 98) k156_59 (by decide) ?_
                refine aw_icmp_eq 70 k156_61 (by decide) (fun c_61 => ?_) (fun c_61 => ?_)
                · exact absurd c_61 g3
                · refine aw_iload_n k156_64 rfl ?_
                  refine aw_bipush (v := 107) k156_65 (by decide) ?_
                  refine aw_icmp_ne 76 k156_67 (by decide) (fun c_67 => ?_) (fun c_67 => ?_)
                  · refine aw_iconst (v := (-1)) k156_76 (by decide) ?_
                    refine aw_iload_n k156_77 rfl ?_
                    refine aw_isub k156_78 ?_
                    refine aw_ireturn k156_79 hR_M_behindOrder ?_ ?_
                    all_goals first | rfl | exact Or.inl rfl | exact Or.inr rfl | assumption | (simp_all; done) | ((repeat' split) <;> first | rfl | (simp only [Int32.lt_iff_toInt_lt, Int32.le_iff_toInt_le, Int64.lt_iff_toInt_lt, Int64.le_iff_toInt_le] at *; omega) | (simp_all; done))
                  · exact absurd c_67 g4
              · exact absurd c_27 g2
            · exact absurd (Or.inr c_15) g1
