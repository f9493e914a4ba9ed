/-! THE MODEL: an order is done, of every kind -/
theorem s_M_does {d L p q : Nat} {M : mM} {t f : Nat → Int32} {o : mOrd} (h : TxM M t L) (hS : ShF f) (hB : BdF f) (ho : one (tx t L) p = .inr (q, o)) : CT iM_does (d + 5) [vR 6 0 0, vI (nI p)] (mS M f) (.inl (some (vI (bI (doO f o).isSome)))) (mS M ((doO f o).getD f)) 0 := by
  have h80 := h.1
  have hpL := (one_ok ho).2
  have hs : TxM (mS M f) t L := h.s
  have hf0 := hS.1
  have h12 := hS.2.1
  have hcP := s_M_charAt (d := d + 4) (p := p) hs (by omega)
  have hcP1 := s_M_charAt (d := d + 4) (p := p + 1) hs (by omega)
  have hzz := bI01 (doO f o).isSome
  refine ct_go hL_M_does rfl ?_
  unfold one at ho
  by_cases g1 : tx t L p = 101 ∨ tx t L p = 119
  · rw [if_pos g1] at ho
    have hA := s_M_doesLeg (d := d + 1) h hS hpL g1 ho
    rcases g1 with g | g
    · refine aw_aload_n k160_0 rfl ?_
      refine aw_iload_n k160_1 rfl ?_
      refine aw_callV1 k160_2 hC_M_does ok_M_charAt sv_M_125 hH_M_charAt ⟨rfl, rfl⟩ (by decide) hN_M_charAt (by rw [hL_M_charAt]; exact Nat.le_of_ble_eq_true rfl) (Nat.le_of_ble_eq_true rfl) hcP ?_
      refine aw_istore_n k160_5 (Nat.le_of_ble_eq_true rfl) rfl ?_
      refine aw_iload_n k160_6 rfl ?_
      refine aw_bipush (v := 101) k160_7 (by decide) ?_
      refine aw_icmp_eq 18 k160_9 (by decide) (fun c_9 => ?_) (fun c_9 => ?_)
      · refine aw_aload_n k160_18 rfl ?_
        refine aw_iload_n k160_19 rfl ?_
        refine aw_callV1 k160_20 hC_M_does ok_M_doesLeg sv_M_143 hH_M_doesLeg ⟨rfl, rfl⟩ (by decide) hN_M_doesLeg (by rw [hL_M_doesLeg]; exact Nat.le_of_ble_eq_true rfl) (Nat.le_of_ble_eq_true rfl) hA ?_
        refine aw_zreturn k160_23 hR_M_does ?_ ?_ ?_
        all_goals first | rfl | exact Or.inl rfl | exact Or.inr rfl | assumption | (simp_all; done) | ((repeat' split) <;> first | rfl | (simp only [Int32.lt_iff_toInt_lt, Int32.le_iff_toInt_le, Int64.lt_iff_toInt_lt, Int64.le_iff_toInt_le] at *; omega) | (simp_all; done))
      · exact absurd g c_9
    · refine aw_aload_n k160_0 rfl ?_
      refine aw_iload_n k160_1 rfl ?_
      refine aw_callV1 k160_2 hC_M_does ok_M_charAt sv_M_125 hH_M_charAt ⟨rfl, rfl⟩ (by decide) hN_M_charAt (by rw [hL_M_charAt]; exact Nat.le_of_ble_eq_true rfl) (Nat.le_of_ble_eq_true rfl) hcP ?_
      refine aw_istore_n k160_5 (Nat.le_of_ble_eq_true rfl) rfl ?_
      refine aw_iload_n k160_6 rfl ?_
      refine aw_bipush (v := 101) k160_7 (by decide) ?_
      refine aw_icmp_eq 18 k160_9 (by decide) (fun c_9 => ?_) (fun c_9 => ?_)
      · refine aw_aload_n k160_18 rfl ?_
        refine aw_iload_n k160_19 rfl ?_
        refine aw_callV1 k160_20 hC_M_does ok_M_doesLeg sv_M_143 hH_M_doesLeg ⟨rfl, rfl⟩ (by decide) hN_M_doesLeg (by rw [hL_M_doesLeg]; exact Nat.le_of_ble_eq_true rfl) (Nat.le_of_ble_eq_true rfl) hA ?_
        refine aw_zreturn k160_23 hR_M_does ?_ ?_ ?_
        all_goals first | rfl | exact Or.inl rfl | exact Or.inr rfl | assumption | (simp_all; done) | ((repeat' split) <;> first | rfl | (simp only [Int32.lt_iff_toInt_lt, Int32.le_iff_toInt_le, Int64.lt_iff_toInt_lt, Int64.le_iff_toInt_le] at *; omega) | (simp_all; done))
      · refine aw_iload_n k160_12 rfl ?_
        refine aw_bipush (v := 119) k160_13 (by decide) ?_
        refine aw_icmp_ne 24 k160_15 (by decide) (fun c_15 => ?_) (fun c_15 => ?_)
        · exact absurd g c_15
        · refine aw_aload_n k160_18 rfl ?_
          refine aw_iload_n k160_19 rfl ?_
          refine aw_callV1 k160_20 hC_M_does ok_M_doesLeg sv_M_143 hH_M_doesLeg ⟨rfl, rfl⟩ (by decide) hN_M_doesLeg (by rw [hL_M_doesLeg]; exact Nat.le_of_ble_eq_true rfl) (Nat.le_of_ble_eq_true rfl) hA ?_
          refine aw_zreturn k160_23 hR_M_does ?_ ?_ ?_
          all_goals first | rfl | exact Or.inl rfl | exact Or.inr rfl | assumption | (simp_all; done) | ((repeat' split) <;> first | rfl | (simp only [Int32.lt_iff_toInt_lt, Int32.le_iff_toInt_le, Int64.lt_iff_toInt_lt, Int64.le_iff_toInt_le] at *; omega) | (simp_all; done))
  · rw [if_neg g1] at ho
    by_cases g2 : tx t L p = 103
    · rw [if_pos g2] at ho
      have n98 : ¬ tx t L p = 98 := by rw [g2]; decide
      have n107 : ¬ tx t L p = 107 := by rw [g2]; decide
      by_cases g3 : 48 ≤ tx t L (p + 1) ∧ tx t L (p + 1) ≤ 53
      · rw [if_pos g3] at ho
        simp only [Sum.inr.injEq, Prod.mk.injEq] at ho
        obtain ⟨-, rfl⟩ := ho
        have hd : doO f (3, tx t L (p + 1) - 48, 0, 0) = if hasF f (tx t L (p + 1) - 48) = true then some (fGive f (tx t L (p + 1) - 48).toNatClampNeg) else none := by unfold doO; rfl
        rw [hd]
        have hI := s_M_isField (d := d + 3) (M := mS M f) (x := tx t L (p + 1) - 48) (by rw [mS_at]; exact hS)
        rw [mS_at] at hI
        by_cases g : hasF f (tx t L (p + 1) - 48) = true
        · rw [if_pos g]
          rw [g] at hI
          obtain ⟨ex, hlt⟩ := hasF_at g hS.2.2.1 hS.2.2.2.1
          have hk := s_M_gives (d := d + 3) (M := M) hS hlt
          rw [← ex] at hk
          show AW _ _ _ _ _ _ (.inl (some (vI 1))) (mS M (fGive f (tx t L (p + 1) - 48).toNatClampNeg)) _
          refine aw_aload_n k160_0 rfl ?_
          refine aw_iload_n k160_1 rfl ?_
          refine aw_callV1 k160_2 hC_M_does ok_M_charAt sv_M_125 hH_M_charAt ⟨rfl, rfl⟩ (by decide) hN_M_charAt (by rw [hL_M_charAt]; exact Nat.le_of_ble_eq_true rfl) (Nat.le_of_ble_eq_true rfl) hcP ?_
          refine aw_istore_n k160_5 (Nat.le_of_ble_eq_true rfl) rfl ?_
          refine aw_iload_n k160_6 rfl ?_
          refine aw_bipush (v := 101) k160_7 (by decide) ?_
          refine aw_icmp_eq 18 k160_9 (by decide) (fun c_9 => ?_) (fun c_9 => ?_)
          · exact absurd (Or.inl c_9) g1
          · refine aw_iload_n k160_12 rfl ?_
            refine aw_bipush (v := 119) k160_13 (by decide) ?_
            refine aw_icmp_ne 24 k160_15 (by decide) (fun c_15 => ?_) (fun c_15 => ?_)
            · refine aw_aload_n k160_24 rfl ?_
              refine aw_iload_n k160_25 rfl ?_
              refine aw_iconst (v := 1) k160_26 (by decide) ?_
              refine aw_iadd k160_27 ?_
              rw [nI_1 p]
              refine aw_callV1 k160_28 hC_M_does ok_M_charAt sv_M_125 hH_M_charAt ⟨rfl, rfl⟩ (by decide) hN_M_charAt (by rw [hL_M_charAt]; exact Nat.le_of_ble_eq_true rfl) (Nat.le_of_ble_eq_true rfl) hcP1 ?_
              refine aw_bipush (v := 48) k160_31 (by decide) ?_
              refine aw_isub k160_33 ?_
              refine aw_istore_n k160_34 (Nat.le_of_ble_eq_true rfl) rfl ?_
              refine aw_iload_n k160_35 rfl ?_
              refine aw_bipush (v := 98) k160_36 (by decide) ?_
              refine aw_icmp_ne 58 k160_38 (by decide) (fun c_38 => ?_) (fun c_38 => ?_)
              · refine aw_iload_n k160_58 rfl ?_
                refine aw_bipush (v := 107) k160_59 (by decide) ?_
                refine aw_icmp_ne 71 k160_61 (by decide) (fun c_61 => ?_) (fun c_61 => ?_)
                · refine aw_aload_n k160_71 rfl ?_
                  refine aw_iload_n k160_72 rfl ?_
                  refine aw_callV1 k160_73 hC_M_does ok_M_isField sv_M_33 hH_M_isField ⟨rfl, rfl⟩ (by decide) hN_M_isField (by rw [hL_M_isField]; exact Nat.le_of_ble_eq_true rfl) (Nat.le_of_ble_eq_true rfl) hI ?_
                  refine aw_istore k160_76 (Nat.le_of_ble_eq_true rfl) rfl ?_
                  refine aw_iload k160_78 rfl ?_
                  refine aw_if_ne 87 k160_80 (by decide) (fun c_80 => ?_) (fun c_80 => ?_)
                  · refine aw_iload_n k160_87 rfl ?_
                    refine aw_bipush (v := 98) k160_88 (by decide) ?_
                    refine aw_icmp_ne 100 k160_90 (by decide) (fun c_90 => ?_) (fun c_90 => ?_)
                    · refine aw_iload_n k160_100 rfl ?_
                      refine aw_bipush (v := 107) k160_101 (by decide) ?_
                      refine aw_icmp_ne 113 k160_103 (by decide) (fun c_103 => ?_) (fun c_103 => ?_)
                      · refine aw_aload_n k160_113 rfl ?_
                        refine aw_iload_n k160_114 rfl ?_
                        refine aw_callV1 k160_115 hC_M_does ok_M_gives sv_M_119 hH_M_gives ⟨rfl, rfl⟩ (by decide) hN_M_gives (by rw [hL_M_gives]; exact Nat.le_of_ble_eq_true rfl) (Nat.le_of_ble_eq_true rfl) hk ?_
                        refine aw_istore k160_118 (Nat.le_of_ble_eq_true rfl) rfl ?_
                        refine aw_iload k160_120 rfl ?_
                        refine aw_zreturn k160_122 hR_M_does ?_ ?_ ?_
                        all_goals first | rfl | exact Or.inl rfl | exact Or.inr rfl | assumption | (simp_all; done) | ((repeat' split) <;> first | rfl | (simp only [Int32.lt_iff_toInt_lt, Int32.le_iff_toInt_le, Int64.lt_iff_toInt_lt, Int64.le_iff_toInt_le] at *; omega) | (simp_all; done))
                      · exact absurd c_103 n107
                    · exact absurd c_90 n98
                  · exact absurd (show (1 : Int32) = 0 from c_80) (by decide)
                · exact absurd c_61 n107
              · exact absurd c_38 n98
            · exact absurd (Or.inr c_15) g1
        · rw [if_neg g]
          rw [Bool.not_eq_true] at g
          rw [g] at hI
          show AW _ _ _ _ _ _ (.inl (some (vI 0))) (mS M f) _
          refine aw_aload_n k160_0 rfl ?_
          refine aw_iload_n k160_1 rfl ?_
          refine aw_callV1 k160_2 hC_M_does ok_M_charAt sv_M_125 hH_M_charAt ⟨rfl, rfl⟩ (by decide) hN_M_charAt (by rw [hL_M_charAt]; exact Nat.le_of_ble_eq_true rfl) (Nat.le_of_ble_eq_true rfl) hcP ?_
          refine aw_istore_n k160_5 (Nat.le_of_ble_eq_true rfl) rfl ?_
          refine aw_iload_n k160_6 rfl ?_
          refine aw_bipush (v := 101) k160_7 (by decide) ?_
          refine aw_icmp_eq 18 k160_9 (by decide) (fun c_9 => ?_) (fun c_9 => ?_)
          · exact absurd (Or.inl c_9) g1
          · refine aw_iload_n k160_12 rfl ?_
            refine aw_bipush (v := 119) k160_13 (by decide) ?_
            refine aw_icmp_ne 24 k160_15 (by decide) (fun c_15 => ?_) (fun c_15 => ?_)
            · refine aw_aload_n k160_24 rfl ?_
              refine aw_iload_n k160_25 rfl ?_
              refine aw_iconst (v := 1) k160_26 (by decide) ?_
              refine aw_iadd k160_27 ?_
              rw [nI_1 p]
              refine aw_callV1 k160_28 hC_M_does ok_M_charAt sv_M_125 hH_M_charAt ⟨rfl, rfl⟩ (by decide) hN_M_charAt (by rw [hL_M_charAt]; exact Nat.le_of_ble_eq_true rfl) (Nat.le_of_ble_eq_true rfl) hcP1 ?_
              refine aw_bipush (v := 48) k160_31 (by decide) ?_
              refine aw_isub k160_33 ?_
              refine aw_istore_n k160_34 (Nat.le_of_ble_eq_true rfl) rfl ?_
              refine aw_iload_n k160_35 rfl ?_
              refine aw_bipush (v := 98) k160_36 (by decide) ?_
              refine aw_icmp_ne 58 k160_38 (by decide) (fun c_38 => ?_) (fun c_38 => ?_)
              · refine aw_iload_n k160_58 rfl ?_
                refine aw_bipush (v := 107) k160_59 (by decide) ?_
                refine aw_icmp_ne 71 k160_61 (by decide) (fun c_61 => ?_) (fun c_61 => ?_)
                · refine aw_aload_n k160_71 rfl ?_
                  refine aw_iload_n k160_72 rfl ?_
                  refine aw_callV1 k160_73 hC_M_does ok_M_isField sv_M_33 hH_M_isField ⟨rfl, rfl⟩ (by decide) hN_M_isField (by rw [hL_M_isField]; exact Nat.le_of_ble_eq_true rfl) (Nat.le_of_ble_eq_true rfl) hI ?_
                  refine aw_istore k160_76 (Nat.le_of_ble_eq_true rfl) rfl ?_
                  refine aw_iload k160_78 rfl ?_
                  refine aw_if_ne 87 k160_80 (by decide) (fun c_80 => ?_) (fun c_80 => ?_)
                  · exact absurd rfl c_80
                  · refine aw_iconst (v := 0) k160_83 (by decide) ?_
                    refine aw_goto (t := 118) k160_84 (by decide) ?_
                    refine aw_istore k160_118 (Nat.le_of_ble_eq_true rfl) rfl ?_
                    refine aw_iload k160_120 rfl ?_
                    refine aw_zreturn k160_122 hR_M_does ?_ ?_ ?_
                    all_goals first | rfl | exact Or.inl rfl | exact Or.inr rfl | assumption | (simp_all; done) | ((repeat' split) <;> first | rfl | (simp only [Int32.lt_iff_toInt_lt, Int32.le_iff_toInt_le, Int64.lt_iff_toInt_lt, Int64.le_iff_toInt_le] at *; omega) | (simp_all; done))
                · exact absurd c_61 n107
              · exact absurd c_38 n98
            · exact absurd (Or.inr c_15) g1
      · rw [if_neg g3] at ho
        exact absurd ho (by simp)
    · rw [if_neg g2] at ho
      by_cases g3 : tx t L p = 98
      · rw [if_pos g3] at ho
        simp only [Sum.inr.injEq, Prod.mk.injEq] at ho
        obtain ⟨-, rfl⟩ := ho
        have hd : doO f (1, 0, 0, 0) = if 0 < fN f then some (fTake f) else none := by unfold doO; rfl
        rw [hd]
        by_cases g : 0 < fN f
        · rw [if_pos g]
          obtain ⟨z, hz⟩ : ∃ z, fN f = z + 1 := ⟨fN f - 1, by omega⟩
          have hf1 := hf0
          rw [hz] at hf1
          have ht := s_M_takes (d := d + 4) (M := M) hf1 (by omega)
          show AW _ _ _ _ _ _ (.inl (some (vI 1))) (mS M (fTake f)) _
          refine aw_aload_n k160_0 rfl ?_
          refine aw_iload_n k160_1 rfl ?_
          refine aw_callV1 k160_2 hC_M_does ok_M_charAt sv_M_125 hH_M_charAt ⟨rfl, rfl⟩ (by decide) hN_M_charAt (by rw [hL_M_charAt]; exact Nat.le_of_ble_eq_true rfl) (Nat.le_of_ble_eq_true rfl) hcP ?_
          refine aw_istore_n k160_5 (Nat.le_of_ble_eq_true rfl) rfl ?_
          refine aw_iload_n k160_6 rfl ?_
          refine aw_bipush (v := 101) k160_7 (by decide) ?_
          refine aw_icmp_eq 18 k160_9 (by decide) (fun c_9 => ?_) (fun c_9 => ?_)
          · exact absurd (Or.inl c_9) g1
          · refine aw_iload_n k160_12 rfl ?_
            refine aw_bipush (v := 119) k160_13 (by decide) ?_
            refine aw_icmp_ne 24 k160_15 (by decide) (fun c_15 => ?_) (fun c_15 => ?_)
            · refine aw_aload_n k160_24 rfl ?_
              refine aw_iload_n k160_25 rfl ?_
              refine aw_iconst (v := 1) k160_26 (by decide) ?_
              refine aw_iadd k160_27 ?_
              rw [nI_1 p]
              refine aw_callV1 k160_28 hC_M_does ok_M_charAt sv_M_125 hH_M_charAt ⟨rfl, rfl⟩ (by decide) hN_M_charAt (by rw [hL_M_charAt]; exact Nat.le_of_ble_eq_true rfl) (Nat.le_of_ble_eq_true rfl) hcP1 ?_
              refine aw_bipush (v := 48) k160_31 (by decide) ?_
              refine aw_isub k160_33 ?_
              refine aw_istore_n k160_34 (Nat.le_of_ble_eq_true rfl) rfl ?_
              refine aw_iload_n k160_35 rfl ?_
              refine aw_bipush (v := 98) k160_36 (by decide) ?_
              refine aw_icmp_ne 58 k160_38 (by decide) (fun c_38 => ?_) (fun c_38 => ?_)
              · exact absurd g3 c_38
              · refine aw_aload_n k160_41 rfl ?_
                refine aw_getR k160_42 hC_M_does fs_M_7 (by decide) ⟨rfl, rfl⟩ rfl ?_
                try simp only [tn0, mS_at, hf1]
                refine aw_iconst (v := 0) k160_45 (by decide) ?_
                refine aw_iaload k160_46 (by first | exact ⟨rfl, rfl⟩ | exact ⟨by assumption, rfl⟩ | exact ⟨by assumption, by assumption⟩ | exact ⟨rfl, by decide⟩ | exact ⟨by assumption, by decide⟩ | exact ⟨by decide, rfl⟩ | exact ⟨by decide, by decide⟩ | exact ⟨by decide, by assumption⟩ | assumption) (by first | rfl | assumption) (by first | rfl | assumption) (vp_in_nI (n := 0) (by decide) (by decide)) ?_
                try simp only [tn0, mS_at, hf1]
                refine aw_if_le 54 k160_47 (by decide) (fun c_47 => ?_) (fun c_47 => ?_)
                · exact absurd (nI_le_of (b := 0) c_47) (by omega)
                · refine aw_iconst (v := 1) k160_50 (by decide) ?_
                  refine aw_goto (t := 76) k160_51 (by decide) ?_
                  refine aw_istore k160_76 (Nat.le_of_ble_eq_true rfl) rfl ?_
                  refine aw_iload k160_78 rfl ?_
                  refine aw_if_ne 87 k160_80 (by decide) (fun c_80 => ?_) (fun c_80 => ?_)
                  · refine aw_iload_n k160_87 rfl ?_
                    refine aw_bipush (v := 98) k160_88 (by decide) ?_
                    refine aw_icmp_ne 100 k160_90 (by decide) (fun c_90 => ?_) (fun c_90 => ?_)
                    · exact absurd g3 c_90
                    · refine aw_aload_n k160_93 rfl ?_
                      refine aw_callV0 k160_94 hC_M_does ok_M_takes sv_M_95 hH_M_takes ⟨rfl, rfl⟩ (by decide) hN_M_takes (by rw [hL_M_takes]; exact Nat.le_of_ble_eq_true rfl) (Nat.le_of_ble_eq_true rfl) ht ?_
                      refine aw_goto (t := 118) k160_97 (by decide) ?_
                      refine aw_istore k160_118 (Nat.le_of_ble_eq_true rfl) rfl ?_
                      refine aw_iload k160_120 rfl ?_
                      refine aw_zreturn k160_122 hR_M_does ?_ ?_ ?_
                      all_goals first | rfl | exact Or.inl rfl | exact Or.inr rfl | assumption | (simp_all; done) | ((repeat' split) <;> first | rfl | (simp only [Int32.lt_iff_toInt_lt, Int32.le_iff_toInt_le, Int64.lt_iff_toInt_lt, Int64.le_iff_toInt_le] at *; omega) | (simp_all; done))
                  · exact absurd (show (1 : Int32) = 0 from c_80) (by decide)
            · exact absurd (Or.inr c_15) g1
        · rw [if_neg g]
          have hf1 : f 0 = nI 0 := by rw [hf0, show fN f = 0 by omega]
          show AW _ _ _ _ _ _ (.inl (some (vI 0))) (mS M f) _
          refine aw_aload_n k160_0 rfl ?_
          refine aw_iload_n k160_1 rfl ?_
          refine aw_callV1 k160_2 hC_M_does ok_M_charAt sv_M_125 hH_M_charAt ⟨rfl, rfl⟩ (by decide) hN_M_charAt (by rw [hL_M_charAt]; exact Nat.le_of_ble_eq_true rfl) (Nat.le_of_ble_eq_true rfl) hcP ?_
          refine aw_istore_n k160_5 (Nat.le_of_ble_eq_true rfl) rfl ?_
          refine aw_iload_n k160_6 rfl ?_
          refine aw_bipush (v := 101) k160_7 (by decide) ?_
          refine aw_icmp_eq 18 k160_9 (by decide) (fun c_9 => ?_) (fun c_9 => ?_)
          · exact absurd (Or.inl c_9) g1
          · refine aw_iload_n k160_12 rfl ?_
            refine aw_bipush (v := 119) k160_13 (by decide) ?_
            refine aw_icmp_ne 24 k160_15 (by decide) (fun c_15 => ?_) (fun c_15 => ?_)
            · refine aw_aload_n k160_24 rfl ?_
              refine aw_iload_n k160_25 rfl ?_
              refine aw_iconst (v := 1) k160_26 (by decide) ?_
              refine aw_iadd k160_27 ?_
              rw [nI_1 p]
              refine aw_callV1 k160_28 hC_M_does ok_M_charAt sv_M_125 hH_M_charAt ⟨rfl, rfl⟩ (by decide) hN_M_charAt (by rw [hL_M_charAt]; exact Nat.le_of_ble_eq_true rfl) (Nat.le_of_ble_eq_true rfl) hcP1 ?_
              refine aw_bipush (v := 48) k160_31 (by decide) ?_
              refine aw_isub k160_33 ?_
              refine aw_istore_n k160_34 (Nat.le_of_ble_eq_true rfl) rfl ?_
              refine aw_iload_n k160_35 rfl ?_
              refine aw_bipush (v := 98) k160_36 (by decide) ?_
              refine aw_icmp_ne 58 k160_38 (by decide) (fun c_38 => ?_) (fun c_38 => ?_)
              · exact absurd g3 c_38
              · refine aw_aload_n k160_41 rfl ?_
                refine aw_getR k160_42 hC_M_does fs_M_7 (by decide) ⟨rfl, rfl⟩ rfl ?_
                try simp only [tn0, mS_at, hf1]
                refine aw_iconst (v := 0) k160_45 (by decide) ?_
                refine aw_iaload k160_46 (by first | exact ⟨rfl, rfl⟩ | exact ⟨by assumption, rfl⟩ | exact ⟨by assumption, by assumption⟩ | exact ⟨rfl, by decide⟩ | exact ⟨by assumption, by decide⟩ | exact ⟨by decide, rfl⟩ | exact ⟨by decide, by decide⟩ | exact ⟨by decide, by assumption⟩ | assumption) (by first | rfl | assumption) (by first | rfl | assumption) (vp_in_nI (n := 0) (by decide) (by decide)) ?_
                try simp only [tn0, mS_at, hf1]
                refine aw_if_le 54 k160_47 (by decide) (fun c_47 => ?_) (fun c_47 => ?_)
                · refine aw_iconst (v := 0) k160_54 (by decide) ?_
                  refine aw_goto (t := 76) k160_55 (by decide) ?_
                  refine aw_istore k160_76 (Nat.le_of_ble_eq_true rfl) rfl ?_
                  refine aw_iload k160_78 rfl ?_
                  refine aw_if_ne 87 k160_80 (by decide) (fun c_80 => ?_) (fun c_80 => ?_)
                  · exact absurd rfl c_80
                  · refine aw_iconst (v := 0) k160_83 (by decide) ?_
                    refine aw_goto (t := 118) k160_84 (by decide) ?_
                    refine aw_istore k160_118 (Nat.le_of_ble_eq_true rfl) rfl ?_
                    refine aw_iload k160_120 rfl ?_
                    refine aw_zreturn k160_122 hR_M_does ?_ ?_ ?_
                    all_goals first | rfl | exact Or.inl rfl | exact Or.inr rfl | assumption | (simp_all; done) | ((repeat' split) <;> first | rfl | (simp only [Int32.lt_iff_toInt_lt, Int32.le_iff_toInt_le, Int64.lt_iff_toInt_lt, Int64.le_iff_toInt_le] at *; omega) | (simp_all; done))
                · exact absurd (Int32.le_refl 0) c_47
            · exact absurd (Or.inr c_15) g1
      · rw [if_neg g3] at ho
        by_cases g4 : tx t L p = 107
        · rw [if_pos g4] at ho
          simp only [Sum.inr.injEq, Prod.mk.injEq] at ho
          obtain ⟨-, rfl⟩ := ho
          have hd : doO f (2, 0, 0, 0) = if canKeepF f = true then some (fKeep f) else none := by unfold doO; rfl
          rw [hd]
          have hI := s_M_canKeep (d := d) (M := M) hS hB
          by_cases g : canKeepF f = true
          · rw [if_pos g]
            rw [g] at hI
            have hk := s_M_keeps (d := d) (M := M) hS hB (can_c g)
            show AW _ _ _ _ _ _ (.inl (some (vI 1))) (mS M (fKeep f)) _
            refine aw_aload_n k160_0 rfl ?_
            refine aw_iload_n k160_1 rfl ?_
            refine aw_callV1 k160_2 hC_M_does ok_M_charAt sv_M_125 hH_M_charAt ⟨rfl, rfl⟩ (by decide) hN_M_charAt (by rw [hL_M_charAt]; exact Nat.le_of_ble_eq_true rfl) (Nat.le_of_ble_eq_true rfl) hcP ?_
            refine aw_istore_n k160_5 (Nat.le_of_ble_eq_true rfl) rfl ?_
            refine aw_iload_n k160_6 rfl ?_
            refine aw_bipush (v := 101) k160_7 (by decide) ?_
            refine aw_icmp_eq 18 k160_9 (by decide) (fun c_9 => ?_) (fun c_9 => ?_)
            · exact absurd (Or.inl c_9) g1
            · refine aw_iload_n k160_12 rfl ?_
              refine aw_bipush (v := 119) k160_13 (by decide) ?_
              refine aw_icmp_ne 24 k160_15 (by decide) (fun c_15 => ?_) (fun c_15 => ?_)
              · refine aw_aload_n k160_24 rfl ?_
                refine aw_iload_n k160_25 rfl ?_
                refine aw_iconst (v := 1) k160_26 (by decide) ?_
                refine aw_iadd k160_27 ?_
                rw [nI_1 p]
                refine aw_callV1 k160_28 hC_M_does ok_M_charAt sv_M_125 hH_M_charAt ⟨rfl, rfl⟩ (by decide) hN_M_charAt (by rw [hL_M_charAt]; exact Nat.le_of_ble_eq_true rfl) (Nat.le_of_ble_eq_true rfl) hcP1 ?_
                refine aw_bipush (v := 48) k160_31 (by decide) ?_
                refine aw_isub k160_33 ?_
                refine aw_istore_n k160_34 (Nat.le_of_ble_eq_true rfl) rfl ?_
                refine aw_iload_n k160_35 rfl ?_
                refine aw_bipush (v := 98) k160_36 (by decide) ?_
                refine aw_icmp_ne 58 k160_38 (by decide) (fun c_38 => ?_) (fun c_38 => ?_)
                · refine aw_iload_n k160_58 rfl ?_
                  refine aw_bipush (v := 107) k160_59 (by decide) ?_
                  refine aw_icmp_ne 71 k160_61 (by decide) (fun c_61 => ?_) (fun c_61 => ?_)
                  · exact absurd g4 c_61
                  · refine aw_aload_n k160_64 rfl ?_
                    refine aw_callV0 k160_65 hC_M_does ok_M_canKeep sv_M_113 hH_M_canKeep ⟨rfl, rfl⟩ (by decide) hN_M_canKeep (by rw [hL_M_canKeep]; exact Nat.le_of_ble_eq_true rfl) (Nat.le_of_ble_eq_true rfl) hI ?_
                    refine aw_goto (t := 76) k160_68 (by decide) ?_
                    refine aw_istore k160_76 (Nat.le_of_ble_eq_true rfl) rfl ?_
                    refine aw_iload k160_78 rfl ?_
                    refine aw_if_ne 87 k160_80 (by decide) (fun c_80 => ?_) (fun c_80 => ?_)
                    · refine aw_iload_n k160_87 rfl ?_
                      refine aw_bipush (v := 98) k160_88 (by decide) ?_
                      refine aw_icmp_ne 100 k160_90 (by decide) (fun c_90 => ?_) (fun c_90 => ?_)
                      · refine aw_iload_n k160_100 rfl ?_
                        refine aw_bipush (v := 107) k160_101 (by decide) ?_
                        refine aw_icmp_ne 113 k160_103 (by decide) (fun c_103 => ?_) (fun c_103 => ?_)
                        · exact absurd g4 c_103
                        · refine aw_aload_n k160_106 rfl ?_
                          refine aw_callV0 k160_107 hC_M_does ok_M_keeps sv_M_116 hH_M_keeps ⟨rfl, rfl⟩ (by decide) hN_M_keeps (by rw [hL_M_keeps]; exact Nat.le_of_ble_eq_true rfl) (Nat.le_of_ble_eq_true rfl) hk ?_
                          refine aw_goto (t := 118) k160_110 (by decide) ?_
                          refine aw_istore k160_118 (Nat.le_of_ble_eq_true rfl) rfl ?_
                          refine aw_iload k160_120 rfl ?_
                          refine aw_zreturn k160_122 hR_M_does ?_ ?_ ?_
                          all_goals first | rfl | exact Or.inl rfl | exact Or.inr rfl | assumption | (simp_all; done) | ((repeat' split) <;> first | rfl | (simp only [Int32.lt_iff_toInt_lt, Int32.le_iff_toInt_le, Int64.lt_iff_toInt_lt, Int64.le_iff_toInt_le] at *; omega) | (simp_all; done))
                      · exact absurd c_90 g3
                    · exact absurd (show (1 : Int32) = 0 from c_80) (by decide)
                · exact absurd c_38 g3
              · exact absurd (Or.inr c_15) g1
          · rw [if_neg g]
            rw [Bool.not_eq_true] at g
            rw [g] at hI
            show AW _ _ _ _ _ _ (.inl (some (vI 0))) (mS M f) _
            refine aw_aload_n k160_0 rfl ?_
            refine aw_iload_n k160_1 rfl ?_
            refine aw_callV1 k160_2 hC_M_does ok_M_charAt sv_M_125 hH_M_charAt ⟨rfl, rfl⟩ (by decide) hN_M_charAt (by rw [hL_M_charAt]; exact Nat.le_of_ble_eq_true rfl) (Nat.le_of_ble_eq_true rfl) hcP ?_
            refine aw_istore_n k160_5 (Nat.le_of_ble_eq_true rfl) rfl ?_
            refine aw_iload_n k160_6 rfl ?_
            refine aw_bipush (v := 101) k160_7 (by decide) ?_
            refine aw_icmp_eq 18 k160_9 (by decide) (fun c_9 => ?_) (fun c_9 => ?_)
            · exact absurd (Or.inl c_9) g1
            · refine aw_iload_n k160_12 rfl ?_
              refine aw_bipush (v := 119) k160_13 (by decide) ?_
              refine aw_icmp_ne 24 k160_15 (by decide) (fun c_15 => ?_) (fun c_15 => ?_)
              · refine aw_aload_n k160_24 rfl ?_
                refine aw_iload_n k160_25 rfl ?_
                refine aw_iconst (v := 1) k160_26 (by decide) ?_
                refine aw_iadd k160_27 ?_
                rw [nI_1 p]
                refine aw_callV1 k160_28 hC_M_does ok_M_charAt sv_M_125 hH_M_charAt ⟨rfl, rfl⟩ (by decide) hN_M_charAt (by rw [hL_M_charAt]; exact Nat.le_of_ble_eq_true rfl) (Nat.le_of_ble_eq_true rfl) hcP1 ?_
                refine aw_bipush (v := 48) k160_31 (by decide) ?_
                refine aw_isub k160_33 ?_
                refine aw_istore_n k160_34 (Nat.le_of_ble_eq_true rfl) rfl ?_
                refine aw_iload_n k160_35 rfl ?_
                refine aw_bipush (v := 98) k160_36 (by decide) ?_
                refine aw_icmp_ne 58 k160_38 (by decide) (fun c_38 => ?_) (fun c_38 => ?_)
                · refine aw_iload_n k160_58 rfl ?_
                  refine aw_bipush (v := 107) k160_59 (by decide) ?_
                  refine aw_icmp_ne 71 k160_61 (by decide) (fun c_61 => ?_) (fun c_61 => ?_)
                  · exact absurd g4 c_61
                  · refine aw_aload_n k160_64 rfl ?_
                    refine aw_callV0 k160_65 hC_M_does ok_M_canKeep sv_M_113 hH_M_canKeep ⟨rfl, rfl⟩ (by decide) hN_M_canKeep (by rw [hL_M_canKeep]; exact Nat.le_of_ble_eq_true rfl) (Nat.le_of_ble_eq_true rfl) hI ?_
                    refine aw_goto (t := 76) k160_68 (by decide) ?_
                    refine aw_istore k160_76 (Nat.le_of_ble_eq_true rfl) rfl ?_
                    refine aw_iload k160_78 rfl ?_
                    refine aw_if_ne 87 k160_80 (by decide) (fun c_80 => ?_) (fun c_80 => ?_)
                    · exact absurd rfl c_80
                    · refine aw_iconst (v := 0) k160_83 (by decide) ?_
                      refine aw_goto (t := 118) k160_84 (by decide) ?_
                      refine aw_istore k160_118 (Nat.le_of_ble_eq_true rfl) rfl ?_
                      refine aw_iload k160_120 rfl ?_
                      refine aw_zreturn k160_122 hR_M_does ?_ ?_ ?_
                      all_goals first | rfl | exact Or.inl rfl | exact Or.inr rfl | assumption | (simp_all; done) | ((repeat' split) <;> first | rfl | (simp only [Int32.lt_iff_toInt_lt, Int32.le_iff_toInt_le, Int64.lt_iff_toInt_lt, Int64.le_iff_toInt_le] at *; omega) | (simp_all; done))
                · exact absurd c_38 g3
              · exact absurd (Or.inr c_15) g1
        · rw [if_neg g4] at ho
          exact absurd ho (by simp)
