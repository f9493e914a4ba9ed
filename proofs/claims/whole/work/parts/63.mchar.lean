/-! THE MODEL: the text's signs and numbers -/
def TxM (M : mM) (t : Nat → Int32) (L : Nat) : Prop := L ≤ 80 ∧ M (6, 0, 0) 8 = nI L ∧ ∀ j, j < L → M (13, 0, 4) j = t j
theorem MR.tx {M : mM} {f t : Nat → Int32} {hs : List (Nat → Int32)} {sn : Option (Nat → Int32)} {L : Nat} (h : MR M f hs sn t L) : TxM M t L := ⟨h.2.2.2.1, h.2.2.2.2.1, h.2.2.2.2.2⟩
theorem s_M_charAt {d L p : Nat} {M : mM} {t : Nat → Int32} (h : TxM M t L) (hp : p < 1000) : CT iM_charAt d [vR 6 0 0, vI (nI p)] M (.inl (some (vI (tx t L p)))) M 0 := by
  obtain ⟨h80, h8, ht⟩ := h
  refine ct_go hL_M_charAt rfl ?_
  by_cases e : p < L
  · have hc : (nI p).toNatClampNeg = p := nI_clamp (by omega)
    have hin : vp_in (nI p) 80 := vp_in_nI (by omega) (by decide)
    have hv : M (13, 0, 4) p = tx t L p := by rw [ht p e, tx_at e]
    refine aw_iload_n k152_0 rfl ?_
    refine aw_aload_n k152_1 rfl ?_
    refine aw_getI k152_2 hC_M_charAt fs_M_122 (by decide) ⟨rfl, rfl⟩ rfl ?_
    try simp only [h8, hc, hv]
    refine aw_icmp_ge 17 k152_5 (by decide) (fun c_5 => ?_) (fun c_5 => ?_)
    · exact absurd (nI_le_of c_5) (by omega)
    · refine aw_aload_n k152_8 rfl ?_
      refine aw_getR k152_9 hC_M_charAt fs_M_22 (by decide) ⟨rfl, rfl⟩ rfl ?_
      try simp only [h8, hc, hv]
      refine aw_iload_n k152_12 rfl ?_
      refine aw_iaload k152_13 (by first | exact ⟨rfl, rfl⟩ | exact ⟨by assumption, rfl⟩ | exact ⟨by assumption, by assumption⟩ | exact ⟨rfl, by decide⟩ | exact ⟨by assumption, by decide⟩ | exact ⟨by decide, rfl⟩ | exact ⟨by decide, by decide⟩ | exact ⟨by decide, by assumption⟩ | assumption) (by first | rfl | assumption) (by first | rfl | assumption) hin ?_
      try simp only [h8, hc, hv]
      refine aw_goto (t := 18) k152_14 (by decide) ?_
      refine aw_ireturn k152_18 hR_M_charAt ?_ ?_
      all_goals first | rfl | exact Or.inl rfl | exact Or.inr rfl | assumption | (simp_all; done) | ((repeat' split) <;> first | rfl | (simp only [Int32.lt_iff_toInt_lt, Int32.le_iff_toInt_le, Int64.lt_iff_toInt_lt, Int64.le_iff_toInt_le] at *; omega) | (simp_all; done))
  · have hv : tx t L p = 0 := tx_end (by omega)
    rw [hv]
    refine aw_iload_n k152_0 rfl ?_
    refine aw_aload_n k152_1 rfl ?_
    refine aw_getI k152_2 hC_M_charAt fs_M_122 (by decide) ⟨rfl, rfl⟩ rfl ?_
    try simp only [h8]
    refine aw_icmp_ge 17 k152_5 (by decide) (fun c_5 => ?_) (fun c_5 => ?_)
    · refine aw_iconst (v := 0) k152_17 (by decide) ?_
      refine aw_ireturn k152_18 hR_M_charAt ?_ ?_
      all_goals first | rfl | exact Or.inl rfl | exact Or.inr rfl | assumption | (simp_all; done) | ((repeat' split) <;> first | rfl | (simp only [Int32.lt_iff_toInt_lt, Int32.le_iff_toInt_le, Int64.lt_iff_toInt_lt, Int64.le_iff_toInt_le] at *; omega) | (simp_all; done))
    · exact absurd (nI_nle_of c_5) e
