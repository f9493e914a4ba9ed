/-! PURE: the component's small methods -/
def cellV (M : mM) (r : mRef) (i : Int32) : Int32 := if 0 ≤ i ∧ i < nI (mLen r) then M r i.toNatClampNeg else 0
theorem s_A_isWithin {d : Nat} {M : mM} {x y : Int32} : CT iA_isWithin d [vI x, vI y] M (.inl (some (vI (if -y ≤ x ∧ x ≤ y then 1 else 0)))) M 0 := by
  refine ct_go hL_A_isWithin rfl ?_
  refine aw_iload_n k109_0 rfl ?_
  refine aw_iload_n k109_1 rfl ?_
  refine aw_ineg k109_2 ?_
  refine aw_icmp_lt 15 k109_3 (by decide) (fun c_3 => ?_) (fun c_3 => ?_)
  · refine aw_iconst (v := 0) k109_15 (by decide) ?_
    refine aw_zreturn k109_16 hR_A_isWithin ?_ ?_ ?_
    all_goals first | exact Or.inl rfl | exact Or.inr rfl | rfl | (simp_all; done)
  · refine aw_iload_n k109_6 rfl ?_
    refine aw_iload_n k109_7 rfl ?_
    refine aw_icmp_gt 15 k109_8 (by decide) (fun c_8 => ?_) (fun c_8 => ?_)
    · refine aw_iconst (v := 0) k109_15 (by decide) ?_
      refine aw_zreturn k109_16 hR_A_isWithin ?_ ?_ ?_
      all_goals first | exact Or.inl rfl | exact Or.inr rfl | rfl | (simp_all; done)
    · refine aw_iconst (v := 1) k109_11 (by decide) ?_
      refine aw_goto (t := 16) k109_12 (by decide) ?_
      refine aw_zreturn k109_16 hR_A_isWithin ?_ ?_ ?_
      all_goals first | exact Or.inl rfl | exact Or.inr rfl | rfl | (simp_all; done)
theorem s_A_cellOf {d a b c0 : Nat} {M : mM} {i : Int32} (ho : mOk (a, b, c0)) (hk : mIsI (a, b, c0) = true) (ht : mTy (a, b, c0) = .int) (hn : mLen (a, b, c0) < 2 ^ 31) : CT iA_cellOf d [vR a b c0, vI i] M (.inl (some (vI (cellV M (a, b, c0) i)))) M 0 := by
  refine ct_go hL_A_cellOf rfl ?_
  unfold cellV
  refine aw_iload_n k110_0 rfl ?_
  refine aw_if_lt 16 k110_1 (by decide) (fun c_1 => ?_) (fun c_1 => ?_)
  · refine aw_iconst (v := 0) k110_16 (by decide) ?_
    refine aw_ireturn k110_17 hR_A_cellOf ?_ ?_
    all_goals first | rfl | (simp_all; done)
  · refine aw_iload_n k110_4 rfl ?_
    refine aw_aload_n k110_5 rfl ?_
    refine aw_alen k110_6 (by first | exact ⟨rfl, rfl⟩ | exact ⟨by assumption, rfl⟩ | exact ⟨by assumption, by assumption⟩ | exact ⟨rfl, by decide⟩ | exact ⟨by assumption, by decide⟩ | exact ⟨by decide, rfl⟩ | exact ⟨by decide, by decide⟩ | exact ⟨by decide, by assumption⟩ | assumption) (by first | rfl | assumption) ?_
    refine aw_icmp_ge 16 k110_7 (by decide) (fun c_7 => ?_) (fun c_7 => ?_)
    · refine aw_iconst (v := 0) k110_16 (by decide) ?_
      refine aw_ireturn k110_17 hR_A_cellOf ?_ ?_
      all_goals first | rfl | (simp_all; done)
    · refine aw_aload_n k110_10 rfl ?_
      refine aw_iload_n k110_11 rfl ?_
      refine aw_iaload k110_12 (by first | exact ⟨rfl, rfl⟩ | exact ⟨by assumption, rfl⟩ | exact ⟨by assumption, by assumption⟩ | exact ⟨rfl, by decide⟩ | exact ⟨by assumption, by decide⟩ | exact ⟨by decide, rfl⟩ | exact ⟨by decide, by decide⟩ | exact ⟨by decide, by assumption⟩ | assumption) (by first | rfl | assumption) (by first | rfl | assumption) (by rw [vp_in_iff]; have h1 := Int32.not_lt.mp c_1; have h2 := Int32.not_le.mp c_7; rw [Int32.le_iff_toInt_le] at h1; rw [Int32.lt_iff_toInt_lt, nI_toInt hn] at h2; exact ⟨h1, h2⟩) ?_
      refine aw_goto (t := 17) k110_13 (by decide) ?_
      refine aw_ireturn k110_17 hR_A_cellOf ?_ ?_
      all_goals first | rfl | (simp_all; done)
