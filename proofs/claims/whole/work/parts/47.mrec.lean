/-! THE MODEL: what it records -/
def mW (M : mM) (r : mRef) (g : Nat → Int32) : mM := fun r' => if r' = r then g else M r'
theorem mW_at {M : mM} {r : mRef} {g : Nat → Int32} : mW M r g r = g := if_pos rfl
theorem mW_ne {M : mM} {r r' : mRef} {g : Nat → Int32} (h : r' ≠ r) : mW M r g r' = M r' := if_neg h
theorem mW_up {M : mM} {r : mRef} {g : Nat → Int32} {k : Nat} {v : Int32} : mUp (mW M r g) r k v = mW M r (up g k v) := by
  funext r' j
  unfold mUp mW up
  by_cases e : r' = r
  · subst e
    simp
  · rw [if_neg (fun q => e q.1), if_neg e, if_neg e]
theorem mW_self {M : mM} {r : mRef} : mW M r (M r) = M := by
  funext r'
  unfold mW
  split
  · rename_i e; rw [e]
  · rfl
/-- the row and the count -/
def mRC (M : mM) (R : Nat → Int32) (v : Int32) : mM := mUp (mW M (13, 0, 3) R) (6, 0, 0) 6 v
theorem mRC_r {M : mM} {R : Nat → Int32} {v : Int32} : mRC M R v (13, 0, 3) = R := by unfold mRC; rw [mUp_ne (by simp), mW_at]
theorem mRC_s {M : mM} {R : Nat → Int32} {v : Int32} : mRC M R v (13, 0, 0) = M (13, 0, 0) := by unfold mRC; rw [mUp_ne (by simp), mW_ne (by simp)]
theorem mRC_6 {M : mM} {R : Nat → Int32} {v : Int32} : mRC M R v (6, 0, 0) 6 = v := by unfold mRC; simp [mUp_at]
theorem mRC_up {M : mM} {R : Nat → Int32} {v w : Int32} {k : Nat} : mUp (mRC M R v) (13, 0, 3) k w = mRC M (up R k w) v := by
  funext r j
  unfold mRC mUp mW up
  by_cases e : r = (13, 0, 3)
  · subst e
    simp
  · simp [e]
theorem mRC_o {M : mM} {R : Nat → Int32} {v w : Int32} : mUp (mRC M R v) (6, 0, 0) 6 w = mRC M R w := by
  funext r j
  unfold mRC mUp
  by_cases e : r = (6, 0, 0) ∧ j = 6
  · rw [if_pos e, if_pos e]
  · rw [if_neg e, if_neg e, if_neg e]
theorem mRC_self {M : mM} {v : Int32} (h : M (6, 0, 0) 6 = v) : mRC M (M (13, 0, 3)) v = M := by
  funext r j
  unfold mRC mUp mW
  by_cases e : r = (6, 0, 0) ∧ j = 6
  · rw [if_pos e, e.1, e.2, h]
  · rw [if_neg e]
    split
    · rename_i q; rw [q]
    · rfl
def rcA (f R : Nat → Int32) (n k : Nat) : Nat → Int32 := fun j => if 190 * n ≤ j ∧ j < 190 * n + k then f (j - 190 * n) else R j
def rcS (R : Nat → Int32) (k : Nat) : Nat → Int32 := fun j => if j < k then R (190 + j) else R j
def rcF (f R : Nat → Int32) (n : Nat) : Nat → Int32 := if n < 4 then rcA f R n 190 else rcA f (rcS R 570) 3 190
theorem s_M_records {d n : Nat} {M : mM} (h6 : M (6, 0, 0) 6 = nI n) (hn : n ≤ 4) : CT iM_records d [vR 6 0 0] M (.inl none) (mRC M (rcF (M (13, 0, 0)) (M (13, 0, 3)) n) (nI (min (n + 1) 4))) 0 := by
  have fin : ∀ (m : Nat) (R : Nat → Int32) (z : Option mAV), m < 4 → AW iM_records d 49 [some (vR 6 0 0), z] [] (mRC M R (nI m)) (.inl none) (mRC M (rcA (M (13, 0, 0)) R m 190) (nI (m + 1))) 0 := by
    intro m R z hm
    have loop : ∀ (l k : Nat), k + l = 190 → AW iM_records d 51 [some (vR 6 0 0), some (vI (nI k))] [] (mRC M (rcA (M (13, 0, 0)) R m k) (nI m)) (.inl none) (mRC M (rcA (M (13, 0, 0)) R m 190) (nI (m + 1))) 0 := by
      intro l
      induction l with
      | zero =>
        intro k hk
        obtain rfl : k = 190 := by omega
        refine aw_iload_n k120_51 rfl ?_
        refine aw_sipush (v := 190) k120_52 (by decide) ?_
        refine aw_icmp_ge 85 k120_55 (by decide) (fun c_55 => ?_) (fun c_55 => ?_)
        · refine aw_aload_n k120_85 rfl ?_
          first | refine aw_dupI k120_86 ?_ | refine aw_dupR k120_86 ?_
          refine aw_getI k120_87 hC_M_records fs_M_41 (by decide) ⟨rfl, rfl⟩ rfl ?_
          try simp only [mRC_6, mRC_o]
          refine aw_iconst (v := 1) k120_90 (by decide) ?_
          refine aw_iadd k120_91 ?_
          rw [nI_1]
          refine aw_putI k120_92 hC_M_records fs_M_41 (by decide) ⟨rfl, rfl⟩ rfl po_6_6 ?_
          try simp only [mRC_6, mRC_o]
          refine aw_return k120_95 hR_M_records ?_
          all_goals first | rfl | exact Or.inl rfl | exact Or.inr rfl | assumption | (simp_all; done) | ((repeat' split) <;> first | rfl | (simp only [Int32.lt_iff_toInt_lt, Int32.le_iff_toInt_le, Int64.lt_iff_toInt_lt, Int64.le_iff_toInt_le] at *; omega) | (simp_all; done))
        · exact absurd (Int32.le_refl _) c_55
      | succ l ih =>
        intro k hk
        have x1 : (190 : Int32) * nI m + nI k = nI (190 * m + k) := by rw [show (190 : Int32) = nI 190 from rfl, nI_mul, nI_add]
        have k1 : (nI (190 * m + k)).toNatClampNeg = 190 * m + k := nI_clamp (by omega)
        have k2 : (nI k).toNatClampNeg = k := nI_clamp (by omega)
        have i1 : vp_in (nI (190 * m + k)) 760 := vp_in_nI (by omega) (by decide)
        have i2 : vp_in (nI k) 190 := vp_in_nI (by omega) (by decide)
        have hs : up (rcA (M (13, 0, 0)) R m k) (190 * m + k) (M (13, 0, 0) k) = rcA (M (13, 0, 0)) R m (k + 1) := by
          funext j
          unfold up rcA
          by_cases e : j = 190 * m + k
          · rw [if_pos e, if_pos (by omega), show j - 190 * m = k by omega]
          · rw [if_neg e]
            by_cases e2 : 190 * m ≤ j ∧ j < 190 * m + k
            · rw [if_pos e2, if_pos (by omega)]
            · rw [if_neg e2, if_neg (by omega)]
        refine aw_iload_n k120_51 rfl ?_
        refine aw_sipush (v := 190) k120_52 (by decide) ?_
        refine aw_icmp_ge 85 k120_55 (by decide) (fun c_55 => ?_) (fun c_55 => ?_)
        · exact absurd (nI_le_of (a := 190) c_55) (by omega)
        · refine aw_aload_n k120_58 rfl ?_
          refine aw_getR k120_59 hC_M_records fs_M_19 (by decide) ⟨rfl, rfl⟩ rfl ?_
          try simp only [mRC_6, mRC_s, mRC_up, k1, k2, hs]
          refine aw_sipush (v := 190) k120_62 (by decide) ?_
          refine aw_aload_n k120_65 rfl ?_
          refine aw_getI k120_66 hC_M_records fs_M_41 (by decide) ⟨rfl, rfl⟩ rfl ?_
          try simp only [mRC_6, mRC_s, mRC_up, k1, k2, hs]
          refine aw_imul k120_69 ?_
          refine aw_iload_n k120_70 rfl ?_
          refine aw_iadd k120_71 ?_
          rw [x1]
          refine aw_aload_n k120_72 rfl ?_
          refine aw_getR k120_73 hC_M_records fs_M_7 (by decide) ⟨rfl, rfl⟩ rfl ?_
          try simp only [mRC_6, mRC_s, mRC_up, k1, k2, hs]
          refine aw_iload_n k120_76 rfl ?_
          refine aw_iaload k120_77 (by first | exact ⟨rfl, rfl⟩ | exact ⟨by assumption, rfl⟩ | exact ⟨by assumption, by assumption⟩ | exact ⟨rfl, by decide⟩ | exact ⟨by assumption, by decide⟩ | exact ⟨by decide, rfl⟩ | exact ⟨by decide, by decide⟩ | exact ⟨by decide, by assumption⟩ | assumption) (by first | rfl | assumption) (by first | rfl | assumption) i2 ?_
          try simp only [mRC_6, mRC_s, mRC_up, k1, k2, hs]
          refine aw_iastore k120_78 (by first | exact ⟨rfl, rfl⟩ | exact ⟨by assumption, rfl⟩ | exact ⟨by assumption, by assumption⟩ | exact ⟨rfl, by decide⟩ | exact ⟨by assumption, by decide⟩ | exact ⟨by decide, rfl⟩ | exact ⟨by decide, by decide⟩ | exact ⟨by decide, by assumption⟩ | assumption) (by first | rfl | assumption) (by first | rfl | assumption) i1 ?_
          try simp only [mRC_6, mRC_s, mRC_up, k1, k2, hs]
          refine aw_iinc (y := 1) k120_79 rfl (by decide) rfl ?_
          try simp only [mRC_6, mRC_s, mRC_up, k1, k2, hs]
          rw [nI_1 k]
          refine aw_goto (t := 51) k120_82 (by decide) ?_
          exact ih (k + 1) (by omega)
    have e0 : rcA (M (13, 0, 0)) R m 0 = R := by
      funext j
      unfold rcA
      rw [if_neg (by omega)]
    have := loop 190 0 (by omega)
    rw [e0] at this
    refine aw_iconst (v := 0) k120_49 (by decide) ?_
    refine aw_istore_n k120_50 (Nat.le_of_ble_eq_true rfl) rfl ?_
    exact this
  refine ct_go hL_M_records rfl ?_
  by_cases h4 : n < 4
  · have hr : rcF (M (13, 0, 0)) (M (13, 0, 3)) n = rcA (M (13, 0, 0)) (M (13, 0, 3)) n 190 := if_pos h4
    rw [hr, show min (n + 1) 4 = n + 1 by omega]
    have := fin n (M (13, 0, 3)) none h4
    rw [mRC_self h6] at this
    refine aw_aload_n k120_0 rfl ?_
    refine aw_getI k120_1 hC_M_records fs_M_41 (by decide) ⟨rfl, rfl⟩ rfl ?_
    try simp only [h6]
    refine aw_iconst (v := 4) k120_4 (by decide) ?_
    refine aw_icmp_ne 49 k120_5 (by decide) (fun c_5 => ?_) (fun c_5 => ?_)
    · exact this
    · exact absurd (nI_eq_of (b := 4) c_5) (by omega)
  · obtain rfl : n = 4 := by omega
    have hr : rcF (M (13, 0, 0)) (M (13, 0, 3)) 4 = rcA (M (13, 0, 0)) (rcS (M (13, 0, 3)) 570) 3 190 := if_neg (by decide)
    rw [hr, show min (4 + 1) 4 = 3 + 1 by decide]
    have loop : ∀ (l k : Nat), k + l = 570 → AW iM_records d 10 [some (vR 6 0 0), some (vI (nI k))] [] (mRC M (rcS (M (13, 0, 3)) k) (nI 4)) (.inl none) (mRC M (rcA (M (13, 0, 0)) (rcS (M (13, 0, 3)) 570) 3 190) (nI (3 + 1))) 0 := by
      intro l
      induction l with
      | zero =>
        intro k hk
        obtain rfl : k = 570 := by omega
        have hp : nI 4 - 1 = nI 3 := nI_pred 3
        refine aw_iload_n k120_10 rfl ?_
        refine aw_sipush (v := 570) k120_11 (by decide) ?_
        refine aw_icmp_ge 39 k120_14 (by decide) (fun c_14 => ?_) (fun c_14 => ?_)
        · refine aw_aload_n k120_39 rfl ?_
          first | refine aw_dupI k120_40 ?_ | refine aw_dupR k120_40 ?_
          refine aw_getI k120_41 hC_M_records fs_M_41 (by decide) ⟨rfl, rfl⟩ rfl ?_
          try simp only [mRC_6, mRC_o]
          refine aw_iconst (v := 1) k120_44 (by decide) ?_
          refine aw_isub k120_45 ?_
          rw [hp]
          refine aw_putI k120_46 hC_M_records fs_M_41 (by decide) ⟨rfl, rfl⟩ rfl po_6_6 ?_
          try simp only [mRC_6, mRC_o]
          exact fin 3 _ _ (by decide)
        · exact absurd (Int32.le_refl _) c_14
      | succ l ih =>
        intro k hk
        have x1 : (190 : Int32) + nI k = nI (190 + k) := by rw [show (190 : Int32) = nI 190 from rfl, nI_add]
        have k1 : (nI (190 + k)).toNatClampNeg = 190 + k := nI_clamp (by omega)
        have k2 : (nI k).toNatClampNeg = k := nI_clamp (by omega)
        have i1 : vp_in (nI (190 + k)) 760 := vp_in_nI (by omega) (by decide)
        have i2 : vp_in (nI k) 760 := vp_in_nI (by omega) (by decide)
        have hs : up (rcS (M (13, 0, 3)) k) k (rcS (M (13, 0, 3)) k (190 + k)) = rcS (M (13, 0, 3)) (k + 1) := by
          funext j
          unfold up rcS
          by_cases e : j = k
          · rw [if_pos e, if_neg (by omega), if_pos (by omega), e]
          · rw [if_neg e]
            by_cases e2 : j < k
            · rw [if_pos e2, if_pos (by omega)]
            · rw [if_neg e2, if_neg (by omega)]
        refine aw_iload_n k120_10 rfl ?_
        refine aw_sipush (v := 570) k120_11 (by decide) ?_
        refine aw_icmp_ge 39 k120_14 (by decide) (fun c_14 => ?_) (fun c_14 => ?_)
        · exact absurd (nI_le_of (a := 570) c_14) (by omega)
        · refine aw_aload_n k120_17 rfl ?_
          refine aw_getR k120_18 hC_M_records fs_M_19 (by decide) ⟨rfl, rfl⟩ rfl ?_
          try simp only [mRC_r, mRC_up, k1, k2, hs]
          refine aw_iload_n k120_21 rfl ?_
          refine aw_aload_n k120_22 rfl ?_
          refine aw_getR k120_23 hC_M_records fs_M_19 (by decide) ⟨rfl, rfl⟩ rfl ?_
          try simp only [mRC_r, mRC_up, k1, k2, hs]
          refine aw_sipush (v := 190) k120_26 (by decide) ?_
          refine aw_iload_n k120_29 rfl ?_
          refine aw_iadd k120_30 ?_
          rw [x1]
          refine aw_iaload k120_31 (by first | exact ⟨rfl, rfl⟩ | exact ⟨by assumption, rfl⟩ | exact ⟨by assumption, by assumption⟩ | exact ⟨rfl, by decide⟩ | exact ⟨by assumption, by decide⟩ | exact ⟨by decide, rfl⟩ | exact ⟨by decide, by decide⟩ | exact ⟨by decide, by assumption⟩ | assumption) (by first | rfl | assumption) (by first | rfl | assumption) i1 ?_
          try simp only [mRC_r, mRC_up, k1, k2, hs]
          refine aw_iastore k120_32 (by first | exact ⟨rfl, rfl⟩ | exact ⟨by assumption, rfl⟩ | exact ⟨by assumption, by assumption⟩ | exact ⟨rfl, by decide⟩ | exact ⟨by assumption, by decide⟩ | exact ⟨by decide, rfl⟩ | exact ⟨by decide, by decide⟩ | exact ⟨by decide, by assumption⟩ | assumption) (by first | rfl | assumption) (by first | rfl | assumption) i2 ?_
          try simp only [mRC_r, mRC_up, k1, k2, hs]
          refine aw_iinc (y := 1) k120_33 rfl (by decide) rfl ?_
          try simp only [mRC_r, mRC_up, k1, k2, hs]
          rw [nI_1 k]
          refine aw_goto (t := 10) k120_36 (by decide) ?_
          exact ih (k + 1) (by omega)
    have e0 : rcS (M (13, 0, 3)) 0 = M (13, 0, 3) := by
      funext j
      unfold rcS
      rw [if_neg (by omega)]
    have := loop 570 0 (by omega)
    rw [e0, mRC_self h6] at this
    refine aw_aload_n k120_0 rfl ?_
    refine aw_getI k120_1 hC_M_records fs_M_41 (by decide) ⟨rfl, rfl⟩ rfl ?_
    try simp only [h6]
    refine aw_iconst (v := 4) k120_4 (by decide) ?_
    refine aw_icmp_ne 49 k120_5 (by decide) (fun c_5 => ?_) (fun c_5 => ?_)
    · exact absurd rfl c_5
    · refine aw_iconst (v := 0) k120_8 (by decide) ?_
      refine aw_istore_n k120_9 (Nat.le_of_ble_eq_true rfl) rfl ?_
      exact this
