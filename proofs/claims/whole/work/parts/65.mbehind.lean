/-! THE MODEL: behind a number of the text -/
theorem s_M_behindNumber {d L p : Nat} {M : mM} {t : Nat → Int32} {least lo most : Int32} (h : TxM M t L) (hp : p ≤ 200) (hl : (48 : Int32) + lo = least) (hl48 : 48 ≤ least) (hm : most.toInt ≤ 20000) (hm9 : 9 ≤ most.toInt) : CT iM_behindNumber (d + 1) [vR 6 0 0, vI (nI p), vI lo, vI most] M (.inl (some (vI (nI (num (tx t L) most least p).1)))) M 0 := by
  have h80 := h.1
  have loop : ∀ (k a : Nat) (v : Int32), L < a + k → p < a → a ≤ L → 0 ≤ v.toInt → v.toInt ≤ 20000 → AW iM_behindNumber (d + 1) 6 [some (vR 6 0 0), some (vI (nI p)), some (vI lo), some (vI most), some (vI (nI a)), some (vI v)] [] M (.inl (some (vI (nI (numG (tx t L) most k a v).1)))) M 0 := by
    intro k
    induction k with
    | zero => intro a v hk hpa haL; omega
    | succ k ih =>
      intro a v hk hpa haL hv0 hv1
      have hca := s_M_charAt (d := d) (p := a) h (by omega)
      have hne : ¬ nI a = nI p := fun e => by have := nI_eq_of e; omega
      unfold numG
      by_cases g : grows (tx t L a) v most
      · rw [if_pos g]
        have haL2 : a < L := tx_lt (ge_ne0 g.1.1)
        obtain ⟨d1, d2, d3⟩ := dig_rng g.1
        have z : (10 : Int32).toInt = 10 := rfl
        have e1 : (v * 10).toInt = v.toInt * 10 := by rw [Int32.toInt_mul, z, bm32 (by omega) (by omega)]
        have e2 : (v * 10 + (tx t L a - 48)).toInt = v.toInt * 10 + ((tx t L a).toInt - 48) := by
          rw [i_add (A := 200000) (B := 9) ⟨by omega, by omega⟩ ⟨by omega, by omega⟩ (by decide), e1, d1]
        have g3 := g.2.2
        rw [Int32.le_iff_toInt_le] at g3
        have hv9 : ¬ v ≤ 0 := fun e => by
          rw [Int32.le_iff_toInt_le] at e
          have z0 : (0 : Int32).toInt = 0 := rfl
          exact g.2.1 (Int32.toInt_inj.mp (by omega))
        have i9 := ih (a + 1) (v * 10 + (tx t L a - 48)) (by omega) (by omega) (by omega) (by omega) (by omega)
        refine aw_aload_n k153_6 rfl ?_
        refine aw_iload k153_7 rfl ?_
        refine aw_callV1 k153_9 hC_M_behindNumber ok_M_charAt sv_M_125 hH_M_charAt ⟨rfl, rfl⟩ (by decide) hN_M_charAt (by rw [hL_M_charAt]; exact Nat.le_of_ble_eq_true rfl) (Nat.le_of_ble_eq_true rfl) hca ?_
        refine aw_iload k153_12 rfl ?_
        refine aw_iload_n k153_14 rfl ?_
        refine aw_icmp_ne 25 k153_15 (by decide) (fun c_15 => ?_) (fun c_15 => ?_)
        · refine aw_bipush (v := 48) k153_25 (by decide) ?_
          refine aw_bipush (v := 57) k153_27 (by decide) ?_
          refine aw_callS3 k153_29 hC_M_behindNumber ok_M_in ss_M_29 hH_M_in (by rw [hL_M_in]; exact Nat.le_of_ble_eq_true rfl) (Nat.le_of_ble_eq_true rfl) (in_t g.1) ?_
          refine aw_if_eq 88 k153_32 (by decide) (fun c_32 => ?_) (fun c_32 => ?_)
          · exact absurd (show (1 : Int32) = 0 from c_32) (by decide)
          · refine aw_bipush (v := 10) k153_35 (by decide) ?_
            refine aw_iload k153_37 rfl ?_
            refine aw_imul k153_39 ?_
            refine aw_aload_n k153_40 rfl ?_
            refine aw_iload k153_41 rfl ?_
            refine aw_callV1 k153_43 hC_M_behindNumber ok_M_charAt sv_M_125 hH_M_charAt ⟨rfl, rfl⟩ (by decide) hN_M_charAt (by rw [hL_M_charAt]; exact Nat.le_of_ble_eq_true rfl) (Nat.le_of_ble_eq_true rfl) hca ?_
            refine aw_iadd k153_46 ?_
            refine aw_bipush (v := 48) k153_47 (by decide) ?_
            refine aw_isub k153_49 ?_
            rw [dg_eq]
            refine aw_iload_n k153_50 rfl ?_
            refine aw_icmp_gt 88 k153_51 (by decide) (fun c_51 => ?_) (fun c_51 => ?_)
            · exact absurd c_51 (Int32.not_lt.mpr g.2.2)
            · refine aw_iload k153_54 rfl ?_
              refine aw_iload_n k153_56 rfl ?_
              refine aw_icmp_eq 65 k153_57 (by decide) (fun c_57 => ?_) (fun c_57 => ?_)
              · exact absurd c_57 hne
              · refine aw_iload k153_60 rfl ?_
                refine aw_if_le 88 k153_62 (by decide) (fun c_62 => ?_) (fun c_62 => ?_)
                · exact absurd c_62 hv9
                · refine aw_bipush (v := 10) k153_65 (by decide) ?_
                  refine aw_iload k153_67 rfl ?_
                  refine aw_imul k153_69 ?_
                  refine aw_aload_n k153_70 rfl ?_
                  refine aw_iload k153_71 rfl ?_
                  refine aw_callV1 k153_73 hC_M_behindNumber ok_M_charAt sv_M_125 hH_M_charAt ⟨rfl, rfl⟩ (by decide) hN_M_charAt (by rw [hL_M_charAt]; exact Nat.le_of_ble_eq_true rfl) (Nat.le_of_ble_eq_true rfl) hca ?_
                  refine aw_iadd k153_76 ?_
                  refine aw_bipush (v := 48) k153_77 (by decide) ?_
                  refine aw_isub k153_79 ?_
                  rw [dg_eq]
                  refine aw_istore k153_80 (Nat.le_of_ble_eq_true rfl) rfl ?_
                  refine aw_iinc (y := 1) k153_82 rfl (by decide) rfl ?_
                  rw [nI_1 a]
                  refine aw_goto (t := 6) k153_85 (by decide) ?_
                  exact i9
        · exact absurd c_15 hne
      · rw [if_neg g]
        by_cases g1 : 48 ≤ tx t L a ∧ tx t L a ≤ 57
        · by_cases g2 : v * 10 + (tx t L a - 48) ≤ most
          · have hv9 : v ≤ 0 := by
              by_cases e : v = 0
              · rw [e]
                exact Int32.le_refl 0
              · exact absurd ⟨g1, e, g2⟩ g
            refine aw_aload_n k153_6 rfl ?_
            refine aw_iload k153_7 rfl ?_
            refine aw_callV1 k153_9 hC_M_behindNumber ok_M_charAt sv_M_125 hH_M_charAt ⟨rfl, rfl⟩ (by decide) hN_M_charAt (by rw [hL_M_charAt]; exact Nat.le_of_ble_eq_true rfl) (Nat.le_of_ble_eq_true rfl) hca ?_
            refine aw_iload k153_12 rfl ?_
            refine aw_iload_n k153_14 rfl ?_
            refine aw_icmp_ne 25 k153_15 (by decide) (fun c_15 => ?_) (fun c_15 => ?_)
            · refine aw_bipush (v := 48) k153_25 (by decide) ?_
              refine aw_bipush (v := 57) k153_27 (by decide) ?_
              refine aw_callS3 k153_29 hC_M_behindNumber ok_M_in ss_M_29 hH_M_in (by rw [hL_M_in]; exact Nat.le_of_ble_eq_true rfl) (Nat.le_of_ble_eq_true rfl) (in_t g1) ?_
              refine aw_if_eq 88 k153_32 (by decide) (fun c_32 => ?_) (fun c_32 => ?_)
              · exact absurd (show (1 : Int32) = 0 from c_32) (by decide)
              · refine aw_bipush (v := 10) k153_35 (by decide) ?_
                refine aw_iload k153_37 rfl ?_
                refine aw_imul k153_39 ?_
                refine aw_aload_n k153_40 rfl ?_
                refine aw_iload k153_41 rfl ?_
                refine aw_callV1 k153_43 hC_M_behindNumber ok_M_charAt sv_M_125 hH_M_charAt ⟨rfl, rfl⟩ (by decide) hN_M_charAt (by rw [hL_M_charAt]; exact Nat.le_of_ble_eq_true rfl) (Nat.le_of_ble_eq_true rfl) hca ?_
                refine aw_iadd k153_46 ?_
                refine aw_bipush (v := 48) k153_47 (by decide) ?_
                refine aw_isub k153_49 ?_
                rw [dg_eq]
                refine aw_iload_n k153_50 rfl ?_
                refine aw_icmp_gt 88 k153_51 (by decide) (fun c_51 => ?_) (fun c_51 => ?_)
                · exact absurd c_51 (Int32.not_lt.mpr g2)
                · refine aw_iload k153_54 rfl ?_
                  refine aw_iload_n k153_56 rfl ?_
                  refine aw_icmp_eq 65 k153_57 (by decide) (fun c_57 => ?_) (fun c_57 => ?_)
                  · exact absurd c_57 hne
                  · refine aw_iload k153_60 rfl ?_
                    refine aw_if_le 88 k153_62 (by decide) (fun c_62 => ?_) (fun c_62 => ?_)
                    · refine aw_iload k153_88 rfl ?_
                      refine aw_ireturn k153_90 hR_M_behindNumber ?_ ?_
                      all_goals first | rfl | exact Or.inl rfl | exact Or.inr rfl | assumption | (simp_all; done) | ((repeat' split) <;> first | rfl | (simp only [Int32.lt_iff_toInt_lt, Int32.le_iff_toInt_le, Int64.lt_iff_toInt_lt, Int64.le_iff_toInt_le] at *; omega) | (simp_all; done))
                    · exact absurd hv9 c_62
            · exact absurd c_15 hne
          · refine aw_aload_n k153_6 rfl ?_
            refine aw_iload k153_7 rfl ?_
            refine aw_callV1 k153_9 hC_M_behindNumber ok_M_charAt sv_M_125 hH_M_charAt ⟨rfl, rfl⟩ (by decide) hN_M_charAt (by rw [hL_M_charAt]; exact Nat.le_of_ble_eq_true rfl) (Nat.le_of_ble_eq_true rfl) hca ?_
            refine aw_iload k153_12 rfl ?_
            refine aw_iload_n k153_14 rfl ?_
            refine aw_icmp_ne 25 k153_15 (by decide) (fun c_15 => ?_) (fun c_15 => ?_)
            · refine aw_bipush (v := 48) k153_25 (by decide) ?_
              refine aw_bipush (v := 57) k153_27 (by decide) ?_
              refine aw_callS3 k153_29 hC_M_behindNumber ok_M_in ss_M_29 hH_M_in (by rw [hL_M_in]; exact Nat.le_of_ble_eq_true rfl) (Nat.le_of_ble_eq_true rfl) (in_t g1) ?_
              refine aw_if_eq 88 k153_32 (by decide) (fun c_32 => ?_) (fun c_32 => ?_)
              · exact absurd (show (1 : Int32) = 0 from c_32) (by decide)
              · refine aw_bipush (v := 10) k153_35 (by decide) ?_
                refine aw_iload k153_37 rfl ?_
                refine aw_imul k153_39 ?_
                refine aw_aload_n k153_40 rfl ?_
                refine aw_iload k153_41 rfl ?_
                refine aw_callV1 k153_43 hC_M_behindNumber ok_M_charAt sv_M_125 hH_M_charAt ⟨rfl, rfl⟩ (by decide) hN_M_charAt (by rw [hL_M_charAt]; exact Nat.le_of_ble_eq_true rfl) (Nat.le_of_ble_eq_true rfl) hca ?_
                refine aw_iadd k153_46 ?_
                refine aw_bipush (v := 48) k153_47 (by decide) ?_
                refine aw_isub k153_49 ?_
                rw [dg_eq]
                refine aw_iload_n k153_50 rfl ?_
                refine aw_icmp_gt 88 k153_51 (by decide) (fun c_51 => ?_) (fun c_51 => ?_)
                · refine aw_iload k153_88 rfl ?_
                  refine aw_ireturn k153_90 hR_M_behindNumber ?_ ?_
                  all_goals first | rfl | exact Or.inl rfl | exact Or.inr rfl | assumption | (simp_all; done) | ((repeat' split) <;> first | rfl | (simp only [Int32.lt_iff_toInt_lt, Int32.le_iff_toInt_le, Int64.lt_iff_toInt_lt, Int64.le_iff_toInt_le] at *; omega) | (simp_all; done))
                · exact absurd (Int32.not_lt.mp c_51) g2
            · exact absurd c_15 hne
        · refine aw_aload_n k153_6 rfl ?_
          refine aw_iload k153_7 rfl ?_
          refine aw_callV1 k153_9 hC_M_behindNumber ok_M_charAt sv_M_125 hH_M_charAt ⟨rfl, rfl⟩ (by decide) hN_M_charAt (by rw [hL_M_charAt]; exact Nat.le_of_ble_eq_true rfl) (Nat.le_of_ble_eq_true rfl) hca ?_
          refine aw_iload k153_12 rfl ?_
          refine aw_iload_n k153_14 rfl ?_
          refine aw_icmp_ne 25 k153_15 (by decide) (fun c_15 => ?_) (fun c_15 => ?_)
          · refine aw_bipush (v := 48) k153_25 (by decide) ?_
            refine aw_bipush (v := 57) k153_27 (by decide) ?_
            refine aw_callS3 k153_29 hC_M_behindNumber ok_M_in ss_M_29 hH_M_in (by rw [hL_M_in]; exact Nat.le_of_ble_eq_true rfl) (Nat.le_of_ble_eq_true rfl) (in_f g1) ?_
            refine aw_if_eq 88 k153_32 (by decide) (fun c_32 => ?_) (fun c_32 => ?_)
            · refine aw_iload k153_88 rfl ?_
              refine aw_ireturn k153_90 hR_M_behindNumber ?_ ?_
              all_goals first | rfl | exact Or.inl rfl | exact Or.inr rfl | assumption | (simp_all; done) | ((repeat' split) <;> first | rfl | (simp only [Int32.lt_iff_toInt_lt, Int32.le_iff_toInt_le, Int64.lt_iff_toInt_lt, Int64.le_iff_toInt_le] at *; omega) | (simp_all; done))
            · exact absurd rfl c_32
          · exact absurd c_15 hne
  have hcp := s_M_charAt (d := d) (p := p) h (by omega)
  have first : AW iM_behindNumber (d + 1) 6 [some (vR 6 0 0), some (vI (nI p)), some (vI lo), some (vI most), some (vI (nI p)), some (vI 0)] [] M (.inl (some (vI (nI (num (tx t L) most least p).1)))) M 0 := by
    unfold num
    by_cases g : least ≤ tx t L p ∧ tx t L p ≤ 57
    · rw [if_pos g]
      have g48 : 48 ≤ tx t L p ∧ tx t L p ≤ 57 := ⟨Int32.le_trans hl48 g.1, g.2⟩
      have hpL : p < L := tx_lt (ge_ne0 g48.1)
      obtain ⟨d1, d2, d3⟩ := dig_rng g48
      have hz : 10 * (0 : Int32) + tx t L p - 48 = tx t L p - 48 := by grind
      have hcm : tx t L p - 48 ≤ most := by
        rw [Int32.le_iff_toInt_le]
        omega
      have i9 := loop 80 (p + 1) (tx t L p - 48) (by omega) (by omega) (by omega) (by omega) (by omega)
      refine aw_aload_n k153_6 rfl ?_
      refine aw_iload k153_7 rfl ?_
      refine aw_callV1 k153_9 hC_M_behindNumber ok_M_charAt sv_M_125 hH_M_charAt ⟨rfl, rfl⟩ (by decide) hN_M_charAt (by rw [hL_M_charAt]; exact Nat.le_of_ble_eq_true rfl) (Nat.le_of_ble_eq_true rfl) hcp ?_
      refine aw_iload k153_12 rfl ?_
      refine aw_iload_n k153_14 rfl ?_
      refine aw_icmp_ne 25 k153_15 (by decide) (fun c_15 => ?_) (fun c_15 => ?_)
      · exact absurd rfl c_15
      · refine aw_bipush (v := 48) k153_18 (by decide) ?_
        refine aw_iload_n k153_20 rfl ?_
        refine aw_iadd k153_21 ?_
        rw [hl]
        refine aw_goto (t := 27) k153_22 (by decide) ?_
        refine aw_bipush (v := 57) k153_27 (by decide) ?_
        refine aw_callS3 k153_29 hC_M_behindNumber ok_M_in ss_M_29 hH_M_in (by rw [hL_M_in]; exact Nat.le_of_ble_eq_true rfl) (Nat.le_of_ble_eq_true rfl) (in_t g) ?_
        refine aw_if_eq 88 k153_32 (by decide) (fun c_32 => ?_) (fun c_32 => ?_)
        · exact absurd (show (1 : Int32) = 0 from c_32) (by decide)
        · refine aw_bipush (v := 10) k153_35 (by decide) ?_
          refine aw_iload k153_37 rfl ?_
          refine aw_imul k153_39 ?_
          refine aw_aload_n k153_40 rfl ?_
          refine aw_iload k153_41 rfl ?_
          refine aw_callV1 k153_43 hC_M_behindNumber ok_M_charAt sv_M_125 hH_M_charAt ⟨rfl, rfl⟩ (by decide) hN_M_charAt (by rw [hL_M_charAt]; exact Nat.le_of_ble_eq_true rfl) (Nat.le_of_ble_eq_true rfl) hcp ?_
          refine aw_iadd k153_46 ?_
          refine aw_bipush (v := 48) k153_47 (by decide) ?_
          refine aw_isub k153_49 ?_
          rw [hz]
          refine aw_iload_n k153_50 rfl ?_
          refine aw_icmp_gt 88 k153_51 (by decide) (fun c_51 => ?_) (fun c_51 => ?_)
          · exact absurd c_51 (Int32.not_lt.mpr hcm)
          · refine aw_iload k153_54 rfl ?_
            refine aw_iload_n k153_56 rfl ?_
            refine aw_icmp_eq 65 k153_57 (by decide) (fun c_57 => ?_) (fun c_57 => ?_)
            · refine aw_bipush (v := 10) k153_65 (by decide) ?_
              refine aw_iload k153_67 rfl ?_
              refine aw_imul k153_69 ?_
              refine aw_aload_n k153_70 rfl ?_
              refine aw_iload k153_71 rfl ?_
              refine aw_callV1 k153_73 hC_M_behindNumber ok_M_charAt sv_M_125 hH_M_charAt ⟨rfl, rfl⟩ (by decide) hN_M_charAt (by rw [hL_M_charAt]; exact Nat.le_of_ble_eq_true rfl) (Nat.le_of_ble_eq_true rfl) hcp ?_
              refine aw_iadd k153_76 ?_
              refine aw_bipush (v := 48) k153_77 (by decide) ?_
              refine aw_isub k153_79 ?_
              rw [hz]
              refine aw_istore k153_80 (Nat.le_of_ble_eq_true rfl) rfl ?_
              refine aw_iinc (y := 1) k153_82 rfl (by decide) rfl ?_
              rw [nI_1 p]
              refine aw_goto (t := 6) k153_85 (by decide) ?_
              exact i9
            · exact absurd rfl c_57
    · rw [if_neg g]
      refine aw_aload_n k153_6 rfl ?_
      refine aw_iload k153_7 rfl ?_
      refine aw_callV1 k153_9 hC_M_behindNumber ok_M_charAt sv_M_125 hH_M_charAt ⟨rfl, rfl⟩ (by decide) hN_M_charAt (by rw [hL_M_charAt]; exact Nat.le_of_ble_eq_true rfl) (Nat.le_of_ble_eq_true rfl) hcp ?_
      refine aw_iload k153_12 rfl ?_
      refine aw_iload_n k153_14 rfl ?_
      refine aw_icmp_ne 25 k153_15 (by decide) (fun c_15 => ?_) (fun c_15 => ?_)
      · exact absurd rfl c_15
      · refine aw_bipush (v := 48) k153_18 (by decide) ?_
        refine aw_iload_n k153_20 rfl ?_
        refine aw_iadd k153_21 ?_
        rw [hl]
        refine aw_goto (t := 27) k153_22 (by decide) ?_
        refine aw_bipush (v := 57) k153_27 (by decide) ?_
        refine aw_callS3 k153_29 hC_M_behindNumber ok_M_in ss_M_29 hH_M_in (by rw [hL_M_in]; exact Nat.le_of_ble_eq_true rfl) (Nat.le_of_ble_eq_true rfl) (in_f g) ?_
        refine aw_if_eq 88 k153_32 (by decide) (fun c_32 => ?_) (fun c_32 => ?_)
        · refine aw_iload k153_88 rfl ?_
          refine aw_ireturn k153_90 hR_M_behindNumber ?_ ?_
          all_goals first | rfl | exact Or.inl rfl | exact Or.inr rfl | assumption | (simp_all; done) | ((repeat' split) <;> first | rfl | (simp only [Int32.lt_iff_toInt_lt, Int32.le_iff_toInt_le, Int64.lt_iff_toInt_lt, Int64.le_iff_toInt_le] at *; omega) | (simp_all; done))
        · exact absurd rfl c_32
  refine ct_go hL_M_behindNumber rfl ?_
  refine aw_iload_n k153_0 rfl ?_
  refine aw_istore k153_1 (Nat.le_of_ble_eq_true rfl) rfl ?_
  refine aw_iconst (v := 0) k153_3 (by decide) ?_
  refine aw_istore k153_4 (Nat.le_of_ble_eq_true rfl) rfl ?_
  exact first
