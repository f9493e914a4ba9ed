/-! THE MODEL: an order is done -/
theorem TxM.s {M : mM} {t g : Nat → Int32} {L : Nat} (h : TxM M t L) : TxM (mS M g) t L := by
  obtain ⟨a, b, c⟩ := h
  refine ⟨a, by rw [mS_ne (by simp)]; exact b, fun j hj => by rw [mS_ne (by simp)]; exact c j hj⟩
theorem nv_of {T : Nat → Int32} {most least : Int32} {p : Nat} (h : ¬ (num T most least p).1 = p) : nv T ((num T most least p).1 - p) p 0 = (num T most least p).2 := by
  unfold num at h ⊢
  by_cases g : least ≤ T p ∧ T p ≤ 57
  · rw [if_pos g]
    have hge := numG_ge (T := T) (most := most) (k := 80) (a := p + 1) (v := T p - 48)
    have hn := nv_num (T := T) (most := most) (k := 80) (a := p + 1) (v := T p - 48)
    obtain ⟨z, hz⟩ : ∃ z, (numG T most 80 (p + 1) (T p - 48)).1 - p = z + 1 := ⟨(numG T most 80 (p + 1) (T p - 48)).1 - p - 1, by omega⟩
    rw [hz]
    show nv T z (p + 1) (0 * 10 + (T p - 48)) = _
    have e0 : (0 : Int32) * 10 + (T p - 48) = T p - 48 := by grind
    rw [e0, ← hn]
    congr 1
    omega
  · rw [if_neg g] at h
    exact absurd rfl h
theorem oneLeg_inv {T : Nat → Int32} {p q : Nat} {o : mOrd} (h : oneLeg T p = .inr (q, o)) : ¬ (legE T p).1 = p + 1 ∧ (T (legE T p).1 = 110 ∨ T (legE T p).1 = 115) ∧ ¬ (legN T p).1 = (legE T p).1 + 1 ∧ T (legN T p).1 = 108 ∧ ¬ (legL T p).1 = (legN T p).1 + 1 ∧ q = (legL T p).1 ∧ o = (0, (if T p = 101 then 1 else -1) * (legE T p).2, (if T (legE T p).1 = 110 then 1 else -1) * (legN T p).2, (legL T p).2) := by
  unfold oneLeg at h
  split at h
  · exact absurd h (by simp)
  · rename_i g1
    split at h
    · exact absurd h (by simp)
    · rename_i g2
      split at h
      · exact absurd h (by simp)
      · rename_i g3
        simp only [Sum.inr.injEq, Prod.mk.injEq] at h
        refine ⟨fun e => g1 (Or.inl e), Decidable.byContradiction (fun e => g1 (Or.inr e)), fun e => g2 (Or.inl e), Decidable.byContradiction (fun e => g2 (Or.inr e)), g3, h.1.symm, ?_⟩
        rw [← h.2]
theorem sgm (x : Int32) : (-1 : Int32) * x = -x := by grind
theorem sgp (x : Int32) : (1 : Int32) * x = x := by grind
theorem dl_tail {d p e : Nat} {M : mM} {f : Nat → Int32} {E N G a b n : Int32} (hf0 : f 0 = nI (fN f)) (gn : fN f < 12) (hcP : CT iM_charAt (d + 2) [vR 6 0 0, vI (nI p)] (mS M f) (.inl (some (vI a))) (mS M f) 0) (hcE : CT iM_charAt (d + 2) [vR 6 0 0, vI (nI e)] (mS M f) (.inl (some (vI b))) (mS M f) 0) : AW iM_doesLeg (d + 3) 58 [some (vR 6 0 0), some (vI (nI p)), some (vI (nI e)), some (vI n), some (vI E), some (vI N), some (vI G), none, none] [] (mS M f) (.inl (some (vI 1))) (mS M (fAdd f (if a = 119 then -E else E) (if b = 115 then -N else N) G)) 0 := by
  have hadd : ∀ x y, CT iM_adds (d + 2) [vR 6 0 0, vI x, vI y, vI G] (mS M f) (.inl (some (vI (fAdd f x y G 0)))) (mS M (fAdd f x y G)) 0 := fun x y => s_M_adds hf0 gn
  by_cases ga : a = 119
  · rw [if_pos ga]
    by_cases gb : b = 115
    · rw [if_pos gb]
      refine aw_aload_n k159_58 rfl ?_
      refine aw_getR k159_59 hC_M_doesLeg fs_M_7 (by decide) ⟨rfl, rfl⟩ rfl ?_
      try simp only [tn0, mS_at, hf0]
      refine aw_iconst (v := 0) k159_62 (by decide) ?_
      refine aw_iaload k159_63 (by first | exact ⟨rfl, rfl⟩ | exact ⟨by assumption, rfl⟩ | exact ⟨by assumption, by assumption⟩ | exact ⟨rfl, by decide⟩ | exact ⟨by assumption, by decide⟩ | exact ⟨by decide, rfl⟩ | exact ⟨by decide, by decide⟩ | exact ⟨by decide, by assumption⟩ | assumption) (by first | rfl | assumption) (by first | rfl | assumption) (vp_in_nI (n := 0) (by decide) (by decide)) ?_
      try simp only [tn0, mS_at, hf0]
      refine aw_bipush (v := 12) k159_64 (by decide) ?_
      refine aw_icmp_ge 73 k159_66 (by decide) (fun c_66 => ?_) (fun c_66 => ?_)
      · exact absurd (nI_le_of (a := 12) c_66) (by omega)
      · refine aw_iconst (v := 1) k159_69 (by decide) ?_
        refine aw_goto (t := 74) k159_70 (by decide) ?_
        refine aw_istore k159_74 (Nat.le_of_ble_eq_true rfl) rfl ?_
        refine aw_iload k159_76 rfl ?_
        refine aw_if_eq 126 k159_78 (by decide) (fun c_78 => ?_) (fun c_78 => ?_)
        · exact absurd (show (1 : Int32) = 0 from c_78) (by decide)
        · refine aw_aload_n k159_81 rfl ?_
          refine aw_aload_n k159_82 rfl ?_
          refine aw_iload_n k159_83 rfl ?_
          refine aw_callV1 k159_84 hC_M_doesLeg ok_M_charAt sv_M_125 hH_M_charAt ⟨rfl, rfl⟩ (by decide) hN_M_charAt (by rw [hL_M_charAt]; exact Nat.le_of_ble_eq_true rfl) (Nat.le_of_ble_eq_true rfl) hcP ?_
          refine aw_bipush (v := 119) k159_87 (by decide) ?_
          refine aw_icmp_ne 98 k159_89 (by decide) (fun c_89 => ?_) (fun c_89 => ?_)
          · exact absurd ga c_89
          · refine aw_iload k159_92 rfl ?_
            refine aw_ineg k159_94 ?_
            refine aw_goto (t := 100) k159_95 (by decide) ?_
            refine aw_aload_n k159_100 rfl ?_
            refine aw_iload_n k159_101 rfl ?_
            refine aw_callV1 k159_102 hC_M_doesLeg ok_M_charAt sv_M_125 hH_M_charAt ⟨rfl, rfl⟩ (by decide) hN_M_charAt (by rw [hL_M_charAt]; exact Nat.le_of_ble_eq_true rfl) (Nat.le_of_ble_eq_true rfl) hcE ?_
            refine aw_bipush (v := 115) k159_105 (by decide) ?_
            refine aw_icmp_ne 116 k159_107 (by decide) (fun c_107 => ?_) (fun c_107 => ?_)
            · exact absurd gb c_107
            · refine aw_iload k159_110 rfl ?_
              refine aw_ineg k159_112 ?_
              refine aw_goto (t := 118) k159_113 (by decide) ?_
              refine aw_iload k159_118 rfl ?_
              refine aw_callV3 k159_120 hC_M_doesLeg ok_M_adds sv_M_108 hH_M_adds ⟨rfl, rfl⟩ (by decide) hN_M_adds (by rw [hL_M_adds]; exact Nat.le_of_ble_eq_true rfl) (Nat.le_of_ble_eq_true rfl) (hadd _ _) ?_
              refine aw_goto (t := 127) k159_123 (by decide) ?_
              refine aw_istore k159_127 (Nat.le_of_ble_eq_true rfl) rfl ?_
              refine aw_iload k159_129 rfl ?_
              refine aw_zreturn k159_131 hR_M_doesLeg ?_ ?_ ?_
              all_goals first | rfl | exact Or.inl rfl | exact Or.inr rfl | assumption | (simp_all; done) | ((repeat' split) <;> first | rfl | (simp only [Int32.lt_iff_toInt_lt, Int32.le_iff_toInt_le, Int64.lt_iff_toInt_lt, Int64.le_iff_toInt_le] at *; omega) | (simp_all; done))
    · rw [if_neg gb]
      refine aw_aload_n k159_58 rfl ?_
      refine aw_getR k159_59 hC_M_doesLeg fs_M_7 (by decide) ⟨rfl, rfl⟩ rfl ?_
      try simp only [tn0, mS_at, hf0]
      refine aw_iconst (v := 0) k159_62 (by decide) ?_
      refine aw_iaload k159_63 (by first | exact ⟨rfl, rfl⟩ | exact ⟨by assumption, rfl⟩ | exact ⟨by assumption, by assumption⟩ | exact ⟨rfl, by decide⟩ | exact ⟨by assumption, by decide⟩ | exact ⟨by decide, rfl⟩ | exact ⟨by decide, by decide⟩ | exact ⟨by decide, by assumption⟩ | assumption) (by first | rfl | assumption) (by first | rfl | assumption) (vp_in_nI (n := 0) (by decide) (by decide)) ?_
      try simp only [tn0, mS_at, hf0]
      refine aw_bipush (v := 12) k159_64 (by decide) ?_
      refine aw_icmp_ge 73 k159_66 (by decide) (fun c_66 => ?_) (fun c_66 => ?_)
      · exact absurd (nI_le_of (a := 12) c_66) (by omega)
      · refine aw_iconst (v := 1) k159_69 (by decide) ?_
        refine aw_goto (t := 74) k159_70 (by decide) ?_
        refine aw_istore k159_74 (Nat.le_of_ble_eq_true rfl) rfl ?_
        refine aw_iload k159_76 rfl ?_
        refine aw_if_eq 126 k159_78 (by decide) (fun c_78 => ?_) (fun c_78 => ?_)
        · exact absurd (show (1 : Int32) = 0 from c_78) (by decide)
        · refine aw_aload_n k159_81 rfl ?_
          refine aw_aload_n k159_82 rfl ?_
          refine aw_iload_n k159_83 rfl ?_
          refine aw_callV1 k159_84 hC_M_doesLeg ok_M_charAt sv_M_125 hH_M_charAt ⟨rfl, rfl⟩ (by decide) hN_M_charAt (by rw [hL_M_charAt]; exact Nat.le_of_ble_eq_true rfl) (Nat.le_of_ble_eq_true rfl) hcP ?_
          refine aw_bipush (v := 119) k159_87 (by decide) ?_
          refine aw_icmp_ne 98 k159_89 (by decide) (fun c_89 => ?_) (fun c_89 => ?_)
          · exact absurd ga c_89
          · refine aw_iload k159_92 rfl ?_
            refine aw_ineg k159_94 ?_
            refine aw_goto (t := 100) k159_95 (by decide) ?_
            refine aw_aload_n k159_100 rfl ?_
            refine aw_iload_n k159_101 rfl ?_
            refine aw_callV1 k159_102 hC_M_doesLeg ok_M_charAt sv_M_125 hH_M_charAt ⟨rfl, rfl⟩ (by decide) hN_M_charAt (by rw [hL_M_charAt]; exact Nat.le_of_ble_eq_true rfl) (Nat.le_of_ble_eq_true rfl) hcE ?_
            refine aw_bipush (v := 115) k159_105 (by decide) ?_
            refine aw_icmp_ne 116 k159_107 (by decide) (fun c_107 => ?_) (fun c_107 => ?_)
            · refine aw_iload k159_116 rfl ?_
              refine aw_iload k159_118 rfl ?_
              refine aw_callV3 k159_120 hC_M_doesLeg ok_M_adds sv_M_108 hH_M_adds ⟨rfl, rfl⟩ (by decide) hN_M_adds (by rw [hL_M_adds]; exact Nat.le_of_ble_eq_true rfl) (Nat.le_of_ble_eq_true rfl) (hadd _ _) ?_
              refine aw_goto (t := 127) k159_123 (by decide) ?_
              refine aw_istore k159_127 (Nat.le_of_ble_eq_true rfl) rfl ?_
              refine aw_iload k159_129 rfl ?_
              refine aw_zreturn k159_131 hR_M_doesLeg ?_ ?_ ?_
              all_goals first | rfl | exact Or.inl rfl | exact Or.inr rfl | assumption | (simp_all; done) | ((repeat' split) <;> first | rfl | (simp only [Int32.lt_iff_toInt_lt, Int32.le_iff_toInt_le, Int64.lt_iff_toInt_lt, Int64.le_iff_toInt_le] at *; omega) | (simp_all; done))
            · exact absurd c_107 gb
  · rw [if_neg ga]
    by_cases gb : b = 115
    · rw [if_pos gb]
      refine aw_aload_n k159_58 rfl ?_
      refine aw_getR k159_59 hC_M_doesLeg fs_M_7 (by decide) ⟨rfl, rfl⟩ rfl ?_
      try simp only [tn0, mS_at, hf0]
      refine aw_iconst (v := 0) k159_62 (by decide) ?_
      refine aw_iaload k159_63 (by first | exact ⟨rfl, rfl⟩ | exact ⟨by assumption, rfl⟩ | exact ⟨by assumption, by assumption⟩ | exact ⟨rfl, by decide⟩ | exact ⟨by assumption, by decide⟩ | exact ⟨by decide, rfl⟩ | exact ⟨by decide, by decide⟩ | exact ⟨by decide, by assumption⟩ | assumption) (by first | rfl | assumption) (by first | rfl | assumption) (vp_in_nI (n := 0) (by decide) (by decide)) ?_
      try simp only [tn0, mS_at, hf0]
      refine aw_bipush (v := 12) k159_64 (by decide) ?_
      refine aw_icmp_ge 73 k159_66 (by decide) (fun c_66 => ?_) (fun c_66 => ?_)
      · exact absurd (nI_le_of (a := 12) c_66) (by omega)
      · refine aw_iconst (v := 1) k159_69 (by decide) ?_
        refine aw_goto (t := 74) k159_70 (by decide) ?_
        refine aw_istore k159_74 (Nat.le_of_ble_eq_true rfl) rfl ?_
        refine aw_iload k159_76 rfl ?_
        refine aw_if_eq 126 k159_78 (by decide) (fun c_78 => ?_) (fun c_78 => ?_)
        · exact absurd (show (1 : Int32) = 0 from c_78) (by decide)
        · refine aw_aload_n k159_81 rfl ?_
          refine aw_aload_n k159_82 rfl ?_
          refine aw_iload_n k159_83 rfl ?_
          refine aw_callV1 k159_84 hC_M_doesLeg ok_M_charAt sv_M_125 hH_M_charAt ⟨rfl, rfl⟩ (by decide) hN_M_charAt (by rw [hL_M_charAt]; exact Nat.le_of_ble_eq_true rfl) (Nat.le_of_ble_eq_true rfl) hcP ?_
          refine aw_bipush (v := 119) k159_87 (by decide) ?_
          refine aw_icmp_ne 98 k159_89 (by decide) (fun c_89 => ?_) (fun c_89 => ?_)
          · refine aw_iload k159_98 rfl ?_
            refine aw_aload_n k159_100 rfl ?_
            refine aw_iload_n k159_101 rfl ?_
            refine aw_callV1 k159_102 hC_M_doesLeg ok_M_charAt sv_M_125 hH_M_charAt ⟨rfl, rfl⟩ (by decide) hN_M_charAt (by rw [hL_M_charAt]; exact Nat.le_of_ble_eq_true rfl) (Nat.le_of_ble_eq_true rfl) hcE ?_
            refine aw_bipush (v := 115) k159_105 (by decide) ?_
            refine aw_icmp_ne 116 k159_107 (by decide) (fun c_107 => ?_) (fun c_107 => ?_)
            · exact absurd gb c_107
            · refine aw_iload k159_110 rfl ?_
              refine aw_ineg k159_112 ?_
              refine aw_goto (t := 118) k159_113 (by decide) ?_
              refine aw_iload k159_118 rfl ?_
              refine aw_callV3 k159_120 hC_M_doesLeg ok_M_adds sv_M_108 hH_M_adds ⟨rfl, rfl⟩ (by decide) hN_M_adds (by rw [hL_M_adds]; exact Nat.le_of_ble_eq_true rfl) (Nat.le_of_ble_eq_true rfl) (hadd _ _) ?_
              refine aw_goto (t := 127) k159_123 (by decide) ?_
              refine aw_istore k159_127 (Nat.le_of_ble_eq_true rfl) rfl ?_
              refine aw_iload k159_129 rfl ?_
              refine aw_zreturn k159_131 hR_M_doesLeg ?_ ?_ ?_
              all_goals first | rfl | exact Or.inl rfl | exact Or.inr rfl | assumption | (simp_all; done) | ((repeat' split) <;> first | rfl | (simp only [Int32.lt_iff_toInt_lt, Int32.le_iff_toInt_le, Int64.lt_iff_toInt_lt, Int64.le_iff_toInt_le] at *; omega) | (simp_all; done))
          · exact absurd c_89 ga
    · rw [if_neg gb]
      refine aw_aload_n k159_58 rfl ?_
      refine aw_getR k159_59 hC_M_doesLeg fs_M_7 (by decide) ⟨rfl, rfl⟩ rfl ?_
      try simp only [tn0, mS_at, hf0]
      refine aw_iconst (v := 0) k159_62 (by decide) ?_
      refine aw_iaload k159_63 (by first | exact ⟨rfl, rfl⟩ | exact ⟨by assumption, rfl⟩ | exact ⟨by assumption, by assumption⟩ | exact ⟨rfl, by decide⟩ | exact ⟨by assumption, by decide⟩ | exact ⟨by decide, rfl⟩ | exact ⟨by decide, by decide⟩ | exact ⟨by decide, by assumption⟩ | assumption) (by first | rfl | assumption) (by first | rfl | assumption) (vp_in_nI (n := 0) (by decide) (by decide)) ?_
      try simp only [tn0, mS_at, hf0]
      refine aw_bipush (v := 12) k159_64 (by decide) ?_
      refine aw_icmp_ge 73 k159_66 (by decide) (fun c_66 => ?_) (fun c_66 => ?_)
      · exact absurd (nI_le_of (a := 12) c_66) (by omega)
      · refine aw_iconst (v := 1) k159_69 (by decide) ?_
        refine aw_goto (t := 74) k159_70 (by decide) ?_
        refine aw_istore k159_74 (Nat.le_of_ble_eq_true rfl) rfl ?_
        refine aw_iload k159_76 rfl ?_
        refine aw_if_eq 126 k159_78 (by decide) (fun c_78 => ?_) (fun c_78 => ?_)
        · exact absurd (show (1 : Int32) = 0 from c_78) (by decide)
        · refine aw_aload_n k159_81 rfl ?_
          refine aw_aload_n k159_82 rfl ?_
          refine aw_iload_n k159_83 rfl ?_
          refine aw_callV1 k159_84 hC_M_doesLeg ok_M_charAt sv_M_125 hH_M_charAt ⟨rfl, rfl⟩ (by decide) hN_M_charAt (by rw [hL_M_charAt]; exact Nat.le_of_ble_eq_true rfl) (Nat.le_of_ble_eq_true rfl) hcP ?_
          refine aw_bipush (v := 119) k159_87 (by decide) ?_
          refine aw_icmp_ne 98 k159_89 (by decide) (fun c_89 => ?_) (fun c_89 => ?_)
          · refine aw_iload k159_98 rfl ?_
            refine aw_aload_n k159_100 rfl ?_
            refine aw_iload_n k159_101 rfl ?_
            refine aw_callV1 k159_102 hC_M_doesLeg ok_M_charAt sv_M_125 hH_M_charAt ⟨rfl, rfl⟩ (by decide) hN_M_charAt (by rw [hL_M_charAt]; exact Nat.le_of_ble_eq_true rfl) (Nat.le_of_ble_eq_true rfl) hcE ?_
            refine aw_bipush (v := 115) k159_105 (by decide) ?_
            refine aw_icmp_ne 116 k159_107 (by decide) (fun c_107 => ?_) (fun c_107 => ?_)
            · refine aw_iload k159_116 rfl ?_
              refine aw_iload k159_118 rfl ?_
              refine aw_callV3 k159_120 hC_M_doesLeg ok_M_adds sv_M_108 hH_M_adds ⟨rfl, rfl⟩ (by decide) hN_M_adds (by rw [hL_M_adds]; exact Nat.le_of_ble_eq_true rfl) (Nat.le_of_ble_eq_true rfl) (hadd _ _) ?_
              refine aw_goto (t := 127) k159_123 (by decide) ?_
              refine aw_istore k159_127 (Nat.le_of_ble_eq_true rfl) rfl ?_
              refine aw_iload k159_129 rfl ?_
              refine aw_zreturn k159_131 hR_M_doesLeg ?_ ?_ ?_
              all_goals first | rfl | exact Or.inl rfl | exact Or.inr rfl | assumption | (simp_all; done) | ((repeat' split) <;> first | rfl | (simp only [Int32.lt_iff_toInt_lt, Int32.le_iff_toInt_le, Int64.lt_iff_toInt_lt, Int64.le_iff_toInt_le] at *; omega) | (simp_all; done))
            · exact absurd c_107 gb
          · exact absurd c_89 ga
theorem dl_full {d : Nat} {M : mM} {f : Nat → Int32} {E N G p e n : Int32} (hf0 : f 0 = nI (fN f)) (h12 : fN f ≤ 12) (gn : ¬ fN f < 12) : AW iM_doesLeg (d + 3) 58 [some (vR 6 0 0), some (vI p), some (vI e), some (vI n), some (vI E), some (vI N), some (vI G), none, none] [] (mS M f) (.inl (some (vI 0))) (mS M f) 0 := by
  refine aw_aload_n k159_58 rfl ?_
  refine aw_getR k159_59 hC_M_doesLeg fs_M_7 (by decide) ⟨rfl, rfl⟩ rfl ?_
  try simp only [tn0, mS_at, hf0]
  refine aw_iconst (v := 0) k159_62 (by decide) ?_
  refine aw_iaload k159_63 (by first | exact ⟨rfl, rfl⟩ | exact ⟨by assumption, rfl⟩ | exact ⟨by assumption, by assumption⟩ | exact ⟨rfl, by decide⟩ | exact ⟨by assumption, by decide⟩ | exact ⟨by decide, rfl⟩ | exact ⟨by decide, by decide⟩ | exact ⟨by decide, by assumption⟩ | assumption) (by first | rfl | assumption) (by first | rfl | assumption) (vp_in_nI (n := 0) (by decide) (by decide)) ?_
  try simp only [tn0, mS_at, hf0]
  refine aw_bipush (v := 12) k159_64 (by decide) ?_
  refine aw_icmp_ge 73 k159_66 (by decide) (fun c_66 => ?_) (fun c_66 => ?_)
  · refine aw_iconst (v := 0) k159_73 (by decide) ?_
    refine aw_istore k159_74 (Nat.le_of_ble_eq_true rfl) rfl ?_
    refine aw_iload k159_76 rfl ?_
    refine aw_if_eq 126 k159_78 (by decide) (fun c_78 => ?_) (fun c_78 => ?_)
    · refine aw_iconst (v := 0) k159_126 (by decide) ?_
      refine aw_istore k159_127 (Nat.le_of_ble_eq_true rfl) rfl ?_
      refine aw_iload k159_129 rfl ?_
      refine aw_zreturn k159_131 hR_M_doesLeg ?_ ?_ ?_
      all_goals first | rfl | exact Or.inl rfl | exact Or.inr rfl | assumption | (simp_all; done) | ((repeat' split) <;> first | rfl | (simp only [Int32.lt_iff_toInt_lt, Int32.le_iff_toInt_le, Int64.lt_iff_toInt_lt, Int64.le_iff_toInt_le] at *; omega) | (simp_all; done))
    · exact absurd rfl c_78
  · exact absurd (nI_nle_of (a := 12) c_66) (by omega)
theorem s_M_doesLeg {d L p q : Nat} {M : mM} {t f : Nat → Int32} {o : mOrd} (h : TxM M t L) (hS : ShF f) (hp : p < L) (gp : tx t L p = 101 ∨ tx t L p = 119) (ho : oneLeg (tx t L) p = .inr (q, o)) : CT iM_doesLeg (d + 3) [vR 6 0 0, vI (nI p)] (mS M f) (.inl (some (vI (bI (doO f o).isSome)))) (mS M ((doO f o).getD f)) 0 := by
  have h80 := h.1
  have hs : TxM (mS M f) t L := h.s
  obtain ⟨gA, gB, gC, gD, gE, hq, hoo⟩ := oneLeg_inv ho
  have hf0 := hS.1
  have h12 := hS.2.1
  have hE : CT iM_behindNumber (d + 2) [vR 6 0 0, vI (nI (p + 1)), vI 0, vI 9999] (mS M f) (.inl (some (vI (nI (legE (tx t L) p).1)))) (mS M f) 0 := s_M_behindNumber hs (by omega) (by decide) (by decide) (by decide) (by decide)
  have hEL : (legE (tx t L) p).1 ≤ L := num_le (by decide) (by omega)
  have hEl : (legE (tx t L) p).1 < L := tx_lt (fun e => by rw [e] at gB; exact absurd gB (by decide))
  have hN : CT iM_behindNumber (d + 2) [vR 6 0 0, vI (nI ((legE (tx t L) p).1 + 1)), vI 0, vI 9999] (mS M f) (.inl (some (vI (nI (legN (tx t L) p).1)))) (mS M f) 0 := s_M_behindNumber hs (by omega) (by decide) (by decide) (by decide) (by decide)
  have hNL : (legN (tx t L) p).1 ≤ L := num_le (by decide) (by omega)
  have hNl : (legN (tx t L) p).1 < L := tx_lt (fun e => by rw [e] at gD; exact absurd gD (by decide))
  have hGL : (legL (tx t L) p).1 ≤ L := num_le (by decide) (by omega)
  have kE : p + 1 ≤ (legE (tx t L) p).1 := by
    unfold legE num
    split
    · exact Nat.le_trans (Nat.le_succ _) numG_ge
    · exact Nat.le_refl _
  have kN : (legE (tx t L) p).1 + 1 ≤ (legN (tx t L) p).1 := by
    unfold legN num
    split
    · exact Nat.le_trans (Nat.le_succ _) numG_ge
    · exact Nat.le_refl _
  have kL : (legN (tx t L) p).1 + 1 ≤ (legL (tx t L) p).1 := by
    unfold legL num
    split
    · exact Nat.le_trans (Nat.le_succ _) numG_ge
    · exact Nat.le_refl _
  have vE : nv (tx t L) ((legE (tx t L) p).1 - (p + 1)) (p + 1) 0 = (legE (tx t L) p).2 := nv_of gA
  have vN : nv (tx t L) ((legN (tx t L) p).1 - ((legE (tx t L) p).1 + 1)) ((legE (tx t L) p).1 + 1) 0 = (legN (tx t L) p).2 := nv_of gC
  have vG : nv (tx t L) ((legL (tx t L) p).1 - ((legN (tx t L) p).1 + 1)) ((legN (tx t L) p).1 + 1) 0 = (legL (tx t L) p).2 := nv_of gE
  have nE := s_M_numberIn (d := d + 1) hs kE (by omega)
  have nN := s_M_numberIn (d := d + 1) hs kN (by omega)
  have nG := s_M_numberIn (d := d + 1) hs kL (by omega)
  rw [vE] at nE
  rw [vN] at nN
  rw [vG] at nG
  have hBL := s_M_behindLeg (d := d) hs hp
  have hbo : bo (oneLeg (tx t L) p) = nI (legL (tx t L) p).1 := by rw [ho, hq]; rfl
  rw [hbo] at hBL
  have hcP := s_M_charAt (d := d + 2) (p := p) hs (by omega)
  have hcE := s_M_charAt (d := d + 2) (p := (legE (tx t L) p).1) hs (by omega)
  have hdo : doO f o = if fN f < 12 then some (fAdd f o.2.1 o.2.2.1 o.2.2.2) else none := by
    unfold doO
    rw [hoo]
    rfl
  have sa : (if tx t L p = 119 then -(legE (tx t L) p).2 else (legE (tx t L) p).2) = (if tx t L p = 101 then 1 else -1) * (legE (tx t L) p).2 := by
    rcases gp with g | g
    · rw [if_neg (by rw [g]; decide), if_pos g, sgp]
    · rw [if_pos g, if_neg (by rw [g]; decide), sgm]
  have sb : (if tx t L (legE (tx t L) p).1 = 115 then -(legN (tx t L) p).2 else (legN (tx t L) p).2) = (if tx t L (legE (tx t L) p).1 = 110 then 1 else -1) * (legN (tx t L) p).2 := by
    rcases gB with g | g
    · rw [if_neg (by rw [g]; decide), if_pos g, sgp]
    · rw [if_pos g, if_neg (by rw [g]; decide), sgm]
  have k58 : AW iM_doesLeg (d + 3) 58 [some (vR 6 0 0), some (vI (nI p)), some (vI (nI (legE (tx t L) p).1)), some (vI (nI (legN (tx t L) p).1)), some (vI (legE (tx t L) p).2), some (vI (legN (tx t L) p).2), some (vI (legL (tx t L) p).2), none, none] [] (mS M f) (.inl (some (vI (bI (doO f o).isSome)))) (mS M ((doO f o).getD f)) 0 := by
    by_cases gn : fN f < 12
    · have h9 := dl_tail (E := (legE (tx t L) p).2) (N := (legN (tx t L) p).2) (G := (legL (tx t L) p).2) (n := nI (legN (tx t L) p).1) hf0 gn hcP hcE
      rw [sa, sb] at h9
      rw [hdo, if_pos gn, hoo]
      exact h9
    · rw [hdo, if_neg gn]
      exact dl_full hf0 h12 gn
  refine ct_go hL_M_doesLeg rfl ?_
  refine aw_aload_n k159_0 rfl ?_
  refine aw_iload_n k159_1 rfl ?_
  refine aw_iconst (v := 1) k159_2 (by decide) ?_
  refine aw_iadd k159_3 ?_
  rw [nI_1 p]
  refine aw_iconst (v := 0) k159_4 (by decide) ?_
  refine aw_sipush (v := 9999) k159_5 (by decide) ?_
  refine aw_callV3 k159_8 hC_M_doesLeg ok_M_behindNumber sv_M_128 hH_M_behindNumber ⟨rfl, rfl⟩ (by decide) hN_M_behindNumber (by rw [hL_M_behindNumber]; exact Nat.le_of_ble_eq_true rfl) (Nat.le_of_ble_eq_true rfl) hE ?_
  refine aw_istore_n k159_11 (Nat.le_of_ble_eq_true rfl) rfl ?_
  refine aw_aload_n k159_12 rfl ?_
  refine aw_iload_n k159_13 rfl ?_
  refine aw_iconst (v := 1) k159_14 (by decide) ?_
  refine aw_iadd k159_15 ?_
  rw [nI_1 (legE (tx t L) p).1]
  refine aw_iconst (v := 0) k159_16 (by decide) ?_
  refine aw_sipush (v := 9999) k159_17 (by decide) ?_
  refine aw_callV3 k159_20 hC_M_doesLeg ok_M_behindNumber sv_M_128 hH_M_behindNumber ⟨rfl, rfl⟩ (by decide) hN_M_behindNumber (by rw [hL_M_behindNumber]; exact Nat.le_of_ble_eq_true rfl) (Nat.le_of_ble_eq_true rfl) hN ?_
  refine aw_istore_n k159_23 (Nat.le_of_ble_eq_true rfl) rfl ?_
  refine aw_aload_n k159_24 rfl ?_
  refine aw_iload_n k159_25 rfl ?_
  refine aw_iconst (v := 1) k159_26 (by decide) ?_
  refine aw_iadd k159_27 ?_
  rw [nI_1 p]
  refine aw_iload_n k159_28 rfl ?_
  refine aw_callV2 k159_29 hC_M_doesLeg ok_M_numberIn sv_M_140 hH_M_numberIn ⟨rfl, rfl⟩ (by decide) hN_M_numberIn (by rw [hL_M_numberIn]; exact Nat.le_of_ble_eq_true rfl) (Nat.le_of_ble_eq_true rfl) nE ?_
  refine aw_istore k159_32 (Nat.le_of_ble_eq_true rfl) rfl ?_
  refine aw_aload_n k159_34 rfl ?_
  refine aw_iload_n k159_35 rfl ?_
  refine aw_iconst (v := 1) k159_36 (by decide) ?_
  refine aw_iadd k159_37 ?_
  rw [nI_1 (legE (tx t L) p).1]
  refine aw_iload_n k159_38 rfl ?_
  refine aw_callV2 k159_39 hC_M_doesLeg ok_M_numberIn sv_M_140 hH_M_numberIn ⟨rfl, rfl⟩ (by decide) hN_M_numberIn (by rw [hL_M_numberIn]; exact Nat.le_of_ble_eq_true rfl) (Nat.le_of_ble_eq_true rfl) nN ?_
  refine aw_istore k159_42 (Nat.le_of_ble_eq_true rfl) rfl ?_
  refine aw_aload_n k159_44 rfl ?_
  refine aw_iload_n k159_45 rfl ?_
  refine aw_iconst (v := 1) k159_46 (by decide) ?_
  refine aw_iadd k159_47 ?_
  rw [nI_1 (legN (tx t L) p).1]
  refine aw_aload_n k159_48 rfl ?_
  refine aw_iload_n k159_49 rfl ?_
  refine aw_callV1 k159_50 hC_M_doesLeg ok_M_behindLeg sv_M_131 hH_M_behindLeg ⟨rfl, rfl⟩ (by decide) hN_M_behindLeg (by rw [hL_M_behindLeg]; exact Nat.le_of_ble_eq_true rfl) (Nat.le_of_ble_eq_true rfl) hBL ?_
  refine aw_callV2 k159_53 hC_M_doesLeg ok_M_numberIn sv_M_140 hH_M_numberIn ⟨rfl, rfl⟩ (by decide) hN_M_numberIn (by rw [hL_M_numberIn]; exact Nat.le_of_ble_eq_true rfl) (Nat.le_of_ble_eq_true rfl) nG ?_
  refine aw_istore k159_56 (Nat.le_of_ble_eq_true rfl) rfl ?_
  exact k58
