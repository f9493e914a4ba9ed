/-! THE MODEL: the place of the text's first error -/
theorem bo_neg {e : Nat} (he : e ≤ 1000) : ¬ (0 : Int32) ≤ -1 - nI e := by
  intro q
  have e1 : nI e = nI (e + 1) - 1 := (nI_pred e).symm
  have e2 : (-1 : Int32) - nI e = -(nI (e + 1)) := by
    rw [e1]
    grind
  rw [e2, Int32.le_iff_toInt_le] at q
  have z : (0 : Int32).toInt = 0 := rfl
  have h3 : (nI (e + 1)).toInt = (e : Int) + 1 := by
    have a := nI_pos' (n := e + 1) (by omega)
    have b := nI_clamp (n := e + 1) (by omega)
    have c : (nI (e + 1)).toInt.toNat = e + 1 := b
    rw [Int32.le_iff_toInt_le] at a
    omega
  have h4 : (-(nI (e + 1))).toInt = -((e : Int) + 1) := by
    rw [Int32.toInt_neg, h3, bm32 (by omega) (by omega)]
  omega
theorem bo_bo (x : Int32) : (-1 : Int32) - (-1 - x) = x := by grind
theorem s_M_wrong {d L : Nat} {M : mM} {t : Nat → Int32} (h : TxM M t L) : CT iM_wrong (d + 4) [vR 6 0 0] M (.inl (some (vI (resF (pars t L))))) M 0 := by
  have h80 := h.1
  have h8 := h.2.1
  have fin : ∀ x : Int32, AW iM_wrong (d + 4) 4 [some (vR 6 0 0), some (vI x), some (vI 0)] [] M (.inl (some (vI (-1)))) M 0 := by
    intro x
    refine aw_iload_n k157_4 rfl ?_
    refine aw_if_eq 68 k157_5 (by decide) (fun c_5 => ?_) (fun c_5 => ?_)
    · refine aw_iconst (v := (-1)) k157_68 (by decide) ?_
      refine aw_ireturn k157_69 hR_M_wrong ?_ ?_
      all_goals first | rfl | exact Or.inl rfl | exact Or.inr rfl | assumption | (simp_all; done) | ((repeat' split) <;> first | rfl | (simp only [Int32.lt_iff_toInt_lt, Int32.le_iff_toInt_le, Int64.lt_iff_toInt_lt, Int64.le_iff_toInt_le] at *; omega) | (simp_all; done))
    · exact absurd rfl c_5
  have loop : ∀ (k p : Nat), p ≤ L → L < p + k → AW iM_wrong (d + 4) 4 [some (vR 6 0 0), some (vI (nI p)), some (vI 1)] [] M (.inl (some (vI (resF (ords (tx t L) L k p))))) M 0 := by
    intro k
    induction k with
    | zero => intro p hp hk; omega
    | succ k ih =>
      intro p hp hk
      have hB := s_M_behindOrder (d := d) h hp
      have hle := one_le (t := t) hp
      unfold ords
      cases h1 : one (tx t L) p with
      | inl e =>
        rw [h1] at hB
        have heL := hle.1 e h1
        have hB2 : CT iM_behindOrder (d + 3) [vR 6 0 0, vI (nI p)] M (.inl (some (vI (-1 - nI e)))) M 0 := hB
        show AW _ _ _ _ _ _ (.inl (some (vI (nI e)))) _ _
        refine aw_iload_n k157_4 rfl ?_
        refine aw_if_eq 68 k157_5 (by decide) (fun c_5 => ?_) (fun c_5 => ?_)
        · exact absurd (show (1 : Int32) = 0 from c_5) (by decide)
        · refine aw_aload_n k157_8 rfl ?_
          refine aw_iload_n k157_9 rfl ?_
          refine aw_callV1 k157_10 hC_M_wrong ok_M_behindOrder sv_M_134 hH_M_behindOrder ⟨rfl, rfl⟩ (by decide) hN_M_behindOrder (by rw [hL_M_behindOrder]; exact Nat.le_of_ble_eq_true rfl) (Nat.le_of_ble_eq_true rfl) hB2 ?_
          refine aw_istore_n k157_13 (Nat.le_of_ble_eq_true rfl) rfl ?_
          refine aw_iload_n k157_14 rfl ?_
          refine aw_if_ge 22 k157_15 (by decide) (fun c_15 => ?_) (fun c_15 => ?_)
          · exact absurd c_15 (bo_neg (by omega))
          · refine aw_iconst (v := (-1)) k157_18 (by decide) ?_
            refine aw_iload_n k157_19 rfl ?_
            refine aw_isub k157_20 ?_
            rw [bo_bo]
            refine aw_ireturn k157_21 hR_M_wrong ?_ ?_
            all_goals first | rfl | exact Or.inl rfl | exact Or.inr rfl | assumption | (simp_all; done) | ((repeat' split) <;> first | rfl | (simp only [Int32.lt_iff_toInt_lt, Int32.le_iff_toInt_le, Int64.lt_iff_toInt_lt, Int64.le_iff_toInt_le] at *; omega) | (simp_all; done))
      | inr qo =>
        obtain ⟨q, o⟩ := qo
        rw [h1] at hB
        have hqL := hle.2 q o h1
        have hpq := one_lt h1
        have hB2 : CT iM_behindOrder (d + 3) [vR 6 0 0, vI (nI p)] M (.inl (some (vI (nI q)))) M 0 := hB
        have hq0 : 0 ≤ nI q := nI_pos' (by omega)
        have hcc : (nI q).toNatClampNeg = q := nI_clamp (by omega)
        simp only
        by_cases e : q < L
        · rw [if_pos e]
          have hv : M (13, 0, 4) q = tx t L q := by rw [h.2.2 q e, tx_at e]
          have hin : vp_in (nI q) 80 := vp_in_nI (by omega) (by decide)
          by_cases g : tx t L q = 59
          · rw [if_pos g]
            have i9 := ih (q + 1) (by omega) (by omega)
            cases h2 : ords (tx t L) L k (q + 1) with
            | inl e9 =>
              rw [h2] at i9
              show AW _ _ _ _ _ _ (.inl (some (vI (nI e9)))) _ _
              refine aw_iload_n k157_4 rfl ?_
              refine aw_if_eq 68 k157_5 (by decide) (fun c_5 => ?_) (fun c_5 => ?_)
              · exact absurd (show (1 : Int32) = 0 from c_5) (by decide)
              · refine aw_aload_n k157_8 rfl ?_
                refine aw_iload_n k157_9 rfl ?_
                refine aw_callV1 k157_10 hC_M_wrong ok_M_behindOrder sv_M_134 hH_M_behindOrder ⟨rfl, rfl⟩ (by decide) hN_M_behindOrder (by rw [hL_M_behindOrder]; exact Nat.le_of_ble_eq_true rfl) (Nat.le_of_ble_eq_true rfl) hB2 ?_
                refine aw_istore_n k157_13 (Nat.le_of_ble_eq_true rfl) rfl ?_
                refine aw_iload_n k157_14 rfl ?_
                refine aw_if_ge 22 k157_15 (by decide) (fun c_15 => ?_) (fun c_15 => ?_)
                · refine aw_iload_n k157_22 rfl ?_
                  refine aw_aload_n k157_23 rfl ?_
                  refine aw_getI k157_24 hC_M_wrong fs_M_122 (by decide) ⟨rfl, rfl⟩ rfl ?_
                  try simp only [h8, hcc, hv]
                  refine aw_icmp_ge 34 k157_27 (by decide) (fun c_27 => ?_) (fun c_27 => ?_)
                  · exact absurd (nI_le_of c_27) (by omega)
                  · refine aw_iconst (v := 1) k157_30 (by decide) ?_
                    refine aw_goto (t := 35) k157_31 (by decide) ?_
                    refine aw_istore_n k157_35 (Nat.le_of_ble_eq_true rfl) rfl ?_
                    refine aw_iload_n k157_36 rfl ?_
                    refine aw_if_eq 53 k157_37 (by decide) (fun c_37 => ?_) (fun c_37 => ?_)
                    · exact absurd (show (1 : Int32) = 0 from c_37) (by decide)
                    · refine aw_aload_n k157_40 rfl ?_
                      refine aw_getR k157_41 hC_M_wrong fs_M_22 (by decide) ⟨rfl, rfl⟩ rfl ?_
                      try simp only [h8, hcc, hv]
                      refine aw_iload_n k157_44 rfl ?_
                      refine aw_iaload k157_45 (by first | exact ⟨rfl, rfl⟩ | exact ⟨by assumption, rfl⟩ | exact ⟨by assumption, by assumption⟩ | exact ⟨rfl, by decide⟩ | exact ⟨by assumption, by decide⟩ | exact ⟨by decide, rfl⟩ | exact ⟨by decide, by decide⟩ | exact ⟨by decide, by assumption⟩ | assumption) (by first | rfl | assumption) (by first | rfl | assumption) hin ?_
                      try simp only [h8, hcc, hv]
                      refine aw_bipush (v := 59) k157_46 (by decide) ?_
                      refine aw_icmp_eq 53 k157_48 (by decide) (fun c_48 => ?_) (fun c_48 => ?_)
                      · refine aw_iload_n k157_53 rfl ?_
                        refine aw_iload_n k157_54 rfl ?_
                        refine aw_if_eq 62 k157_55 (by decide) (fun c_55 => ?_) (fun c_55 => ?_)
                        · exact absurd (show (1 : Int32) = 0 from c_55) (by decide)
                        · refine aw_iconst (v := 1) k157_58 (by decide) ?_
                          refine aw_goto (t := 63) k157_59 (by decide) ?_
                          refine aw_iadd k157_63 ?_
                          refine aw_istore_n k157_64 (Nat.le_of_ble_eq_true rfl) rfl ?_
                          rw [nI_1 q]
                          refine aw_goto (t := 4) k157_65 (by decide) ?_
                          exact i9
                      · exact absurd g c_48
                · exact absurd hq0 c_15
            | inr l9 =>
              rw [h2] at i9
              show AW _ _ _ _ _ _ (.inl (some (vI (-1)))) _ _
              refine aw_iload_n k157_4 rfl ?_
              refine aw_if_eq 68 k157_5 (by decide) (fun c_5 => ?_) (fun c_5 => ?_)
              · exact absurd (show (1 : Int32) = 0 from c_5) (by decide)
              · refine aw_aload_n k157_8 rfl ?_
                refine aw_iload_n k157_9 rfl ?_
                refine aw_callV1 k157_10 hC_M_wrong ok_M_behindOrder sv_M_134 hH_M_behindOrder ⟨rfl, rfl⟩ (by decide) hN_M_behindOrder (by rw [hL_M_behindOrder]; exact Nat.le_of_ble_eq_true rfl) (Nat.le_of_ble_eq_true rfl) hB2 ?_
                refine aw_istore_n k157_13 (Nat.le_of_ble_eq_true rfl) rfl ?_
                refine aw_iload_n k157_14 rfl ?_
                refine aw_if_ge 22 k157_15 (by decide) (fun c_15 => ?_) (fun c_15 => ?_)
                · refine aw_iload_n k157_22 rfl ?_
                  refine aw_aload_n k157_23 rfl ?_
                  refine aw_getI k157_24 hC_M_wrong fs_M_122 (by decide) ⟨rfl, rfl⟩ rfl ?_
                  try simp only [h8, hcc, hv]
                  refine aw_icmp_ge 34 k157_27 (by decide) (fun c_27 => ?_) (fun c_27 => ?_)
                  · exact absurd (nI_le_of c_27) (by omega)
                  · refine aw_iconst (v := 1) k157_30 (by decide) ?_
                    refine aw_goto (t := 35) k157_31 (by decide) ?_
                    refine aw_istore_n k157_35 (Nat.le_of_ble_eq_true rfl) rfl ?_
                    refine aw_iload_n k157_36 rfl ?_
                    refine aw_if_eq 53 k157_37 (by decide) (fun c_37 => ?_) (fun c_37 => ?_)
                    · exact absurd (show (1 : Int32) = 0 from c_37) (by decide)
                    · refine aw_aload_n k157_40 rfl ?_
                      refine aw_getR k157_41 hC_M_wrong fs_M_22 (by decide) ⟨rfl, rfl⟩ rfl ?_
                      try simp only [h8, hcc, hv]
                      refine aw_iload_n k157_44 rfl ?_
                      refine aw_iaload k157_45 (by first | exact ⟨rfl, rfl⟩ | exact ⟨by assumption, rfl⟩ | exact ⟨by assumption, by assumption⟩ | exact ⟨rfl, by decide⟩ | exact ⟨by assumption, by decide⟩ | exact ⟨by decide, rfl⟩ | exact ⟨by decide, by decide⟩ | exact ⟨by decide, by assumption⟩ | assumption) (by first | rfl | assumption) (by first | rfl | assumption) hin ?_
                      try simp only [h8, hcc, hv]
                      refine aw_bipush (v := 59) k157_46 (by decide) ?_
                      refine aw_icmp_eq 53 k157_48 (by decide) (fun c_48 => ?_) (fun c_48 => ?_)
                      · refine aw_iload_n k157_53 rfl ?_
                        refine aw_iload_n k157_54 rfl ?_
                        refine aw_if_eq 62 k157_55 (by decide) (fun c_55 => ?_) (fun c_55 => ?_)
                        · exact absurd (show (1 : Int32) = 0 from c_55) (by decide)
                        · refine aw_iconst (v := 1) k157_58 (by decide) ?_
                          refine aw_goto (t := 63) k157_59 (by decide) ?_
                          refine aw_iadd k157_63 ?_
                          refine aw_istore_n k157_64 (Nat.le_of_ble_eq_true rfl) rfl ?_
                          rw [nI_1 q]
                          refine aw_goto (t := 4) k157_65 (by decide) ?_
                          exact i9
                      · exact absurd g c_48
                · exact absurd hq0 c_15
          · rw [if_neg g]
            show AW _ _ _ _ _ _ (.inl (some (vI (nI q)))) _ _
            refine aw_iload_n k157_4 rfl ?_
            refine aw_if_eq 68 k157_5 (by decide) (fun c_5 => ?_) (fun c_5 => ?_)
            · exact absurd (show (1 : Int32) = 0 from c_5) (by decide)
            · refine aw_aload_n k157_8 rfl ?_
              refine aw_iload_n k157_9 rfl ?_
              refine aw_callV1 k157_10 hC_M_wrong ok_M_behindOrder sv_M_134 hH_M_behindOrder ⟨rfl, rfl⟩ (by decide) hN_M_behindOrder (by rw [hL_M_behindOrder]; exact Nat.le_of_ble_eq_true rfl) (Nat.le_of_ble_eq_true rfl) hB2 ?_
              refine aw_istore_n k157_13 (Nat.le_of_ble_eq_true rfl) rfl ?_
              refine aw_iload_n k157_14 rfl ?_
              refine aw_if_ge 22 k157_15 (by decide) (fun c_15 => ?_) (fun c_15 => ?_)
              · refine aw_iload_n k157_22 rfl ?_
                refine aw_aload_n k157_23 rfl ?_
                refine aw_getI k157_24 hC_M_wrong fs_M_122 (by decide) ⟨rfl, rfl⟩ rfl ?_
                try simp only [h8, hcc, hv]
                refine aw_icmp_ge 34 k157_27 (by decide) (fun c_27 => ?_) (fun c_27 => ?_)
                · exact absurd (nI_le_of c_27) (by omega)
                · refine aw_iconst (v := 1) k157_30 (by decide) ?_
                  refine aw_goto (t := 35) k157_31 (by decide) ?_
                  refine aw_istore_n k157_35 (Nat.le_of_ble_eq_true rfl) rfl ?_
                  refine aw_iload_n k157_36 rfl ?_
                  refine aw_if_eq 53 k157_37 (by decide) (fun c_37 => ?_) (fun c_37 => ?_)
                  · exact absurd (show (1 : Int32) = 0 from c_37) (by decide)
                  · refine aw_aload_n k157_40 rfl ?_
                    refine aw_getR k157_41 hC_M_wrong fs_M_22 (by decide) ⟨rfl, rfl⟩ rfl ?_
                    try simp only [h8, hcc, hv]
                    refine aw_iload_n k157_44 rfl ?_
                    refine aw_iaload k157_45 (by first | exact ⟨rfl, rfl⟩ | exact ⟨by assumption, rfl⟩ | exact ⟨by assumption, by assumption⟩ | exact ⟨rfl, by decide⟩ | exact ⟨by assumption, by decide⟩ | exact ⟨by decide, rfl⟩ | exact ⟨by decide, by decide⟩ | exact ⟨by decide, by assumption⟩ | assumption) (by first | rfl | assumption) (by first | rfl | assumption) hin ?_
                    try simp only [h8, hcc, hv]
                    refine aw_bipush (v := 59) k157_46 (by decide) ?_
                    refine aw_icmp_eq 53 k157_48 (by decide) (fun c_48 => ?_) (fun c_48 => ?_)
                    · exact absurd c_48 g
                    · refine aw_iload_n k157_51 rfl ?_
                      refine aw_ireturn k157_52 hR_M_wrong ?_ ?_
                      all_goals first | rfl | exact Or.inl rfl | exact Or.inr rfl | assumption | (simp_all; done) | ((repeat' split) <;> first | rfl | (simp only [Int32.lt_iff_toInt_lt, Int32.le_iff_toInt_le, Int64.lt_iff_toInt_lt, Int64.le_iff_toInt_le] at *; omega) | (simp_all; done))
              · exact absurd hq0 c_15
        · rw [if_neg e]
          show AW _ _ _ _ _ _ (.inl (some (vI (-1)))) _ _
          refine aw_iload_n k157_4 rfl ?_
          refine aw_if_eq 68 k157_5 (by decide) (fun c_5 => ?_) (fun c_5 => ?_)
          · exact absurd (show (1 : Int32) = 0 from c_5) (by decide)
          · refine aw_aload_n k157_8 rfl ?_
            refine aw_iload_n k157_9 rfl ?_
            refine aw_callV1 k157_10 hC_M_wrong ok_M_behindOrder sv_M_134 hH_M_behindOrder ⟨rfl, rfl⟩ (by decide) hN_M_behindOrder (by rw [hL_M_behindOrder]; exact Nat.le_of_ble_eq_true rfl) (Nat.le_of_ble_eq_true rfl) hB2 ?_
            refine aw_istore_n k157_13 (Nat.le_of_ble_eq_true rfl) rfl ?_
            refine aw_iload_n k157_14 rfl ?_
            refine aw_if_ge 22 k157_15 (by decide) (fun c_15 => ?_) (fun c_15 => ?_)
            · refine aw_iload_n k157_22 rfl ?_
              refine aw_aload_n k157_23 rfl ?_
              refine aw_getI k157_24 hC_M_wrong fs_M_122 (by decide) ⟨rfl, rfl⟩ rfl ?_
              try simp only [h8]
              refine aw_icmp_ge 34 k157_27 (by decide) (fun c_27 => ?_) (fun c_27 => ?_)
              · refine aw_iconst (v := 0) k157_34 (by decide) ?_
                refine aw_istore_n k157_35 (Nat.le_of_ble_eq_true rfl) rfl ?_
                refine aw_iload_n k157_36 rfl ?_
                refine aw_if_eq 53 k157_37 (by decide) (fun c_37 => ?_) (fun c_37 => ?_)
                · refine aw_iload_n k157_53 rfl ?_
                  refine aw_iload_n k157_54 rfl ?_
                  refine aw_if_eq 62 k157_55 (by decide) (fun c_55 => ?_) (fun c_55 => ?_)
                  · refine aw_iconst (v := 0) k157_62 (by decide) ?_
                    refine aw_iadd k157_63 ?_
                    refine aw_istore_n k157_64 (Nat.le_of_ble_eq_true rfl) rfl ?_
                    refine aw_goto (t := 4) k157_65 (by decide) ?_
                    exact fin _
                  · exact absurd rfl c_55
                · exact absurd rfl c_37
              · exact absurd (nI_nle_of c_27) (by omega)
            · exact absurd hq0 c_15
  have i9 := loop 81 0 (Nat.zero_le L) (by omega)
  refine ct_go hL_M_wrong rfl ?_
  refine aw_iconst (v := 0) k157_0 (by decide) ?_
  refine aw_istore_n k157_1 (Nat.le_of_ble_eq_true rfl) rfl ?_
  refine aw_iconst (v := 1) k157_2 (by decide) ?_
  refine aw_istore_n k157_3 (Nat.le_of_ble_eq_true rfl) rfl ?_
  exact i9
