/-! THE MODEL: what changes its row -/
def mS (M : mM) (f : Nat → Int32) : mM := fun r => if r = (13, 0, 0) then f else M r
def up (f : Nat → Int32) (k : Nat) (v : Int32) : Nat → Int32 := fun j => if j = k then v else f j
theorem mS_at {M : mM} {f : Nat → Int32} : mS M f (13, 0, 0) = f := if_pos rfl
theorem mS_ne {M : mM} {f : Nat → Int32} {r : mRef} (h : r ≠ (13, 0, 0)) : mS M f r = M r := if_neg h
theorem mS_up {M : mM} {f : Nat → Int32} {k : Nat} {v : Int32} : mUp (mS M f) (13, 0, 0) k v = mS M (up f k v) := by
  funext r j
  unfold mUp mS up
  by_cases e : r = (13, 0, 0)
  · subst e
    simp
  · rw [if_neg (fun q => e q.1), if_neg e, if_neg e]
theorem mS_self {M : mM} : mS M (M (13, 0, 0)) = M := by
  funext r
  unfold mS
  split
  · rename_i e; rw [e]
  · rfl
theorem mS_mS {M : mM} {f g : Nat → Int32} : mS (mS M f) g = mS M g := by
  funext r
  unfold mS
  split <;> rfl
theorem up_at {f : Nat → Int32} {k : Nat} {v : Int32} : up f k v k = v := if_pos rfl
theorem up_ne {f : Nat → Int32} {k j : Nat} {v : Int32} (h : j ≠ k) : up f k v j = f j := if_neg h
theorem ix_l (n : Nat) : (1 : Int32) + 3 * nI n = nI (1 + 3 * n) := by
  rw [show (1 : Int32) = nI 1 from rfl, show (3 : Int32) = nI 3 from rfl, nI_mul, nI_add]
theorem nI_2 (a : Nat) : nI a + 2 = nI (a + 2) := by rw [show (2 : Int32) = nI 2 from rfl, nI_add]
theorem s_M_adds {d : Nat} {M : mM} {f : Nat → Int32} {x y l : Int32} (hf : f 0 = nI (fN f)) (hn : fN f < 12) : CT iM_adds d [vR 6 0 0, vI x, vI y, vI l] (mS M f) (.inl (some (vI (fAdd f x y l 0)))) (mS M (fAdd f x y l)) 0 := by
  obtain ⟨n, hN⟩ : ∃ n, n = fN f := ⟨_, rfl⟩
  rw [← hN] at hf hn
  have c1 : (nI (1 + 3 * n)).toNatClampNeg = 1 + 3 * n := nI_clamp (by omega)
  have c2 : (nI (1 + 3 * n + 1)).toNatClampNeg = 1 + 3 * n + 1 := nI_clamp (by omega)
  have c3 : (nI (1 + 3 * n + 2)).toNatClampNeg = 1 + 3 * n + 2 := nI_clamp (by omega)
  have hz : up (up (up f (1 + 3 * n) x) (1 + 3 * n + 1) y) (1 + 3 * n + 2) l 0 = nI n := by
    rw [up_ne (by omega), up_ne (by omega), up_ne (by omega)]
    exact hf
  have hfin : up (up (up (up f (1 + 3 * n) x) (1 + 3 * n + 1) y) (1 + 3 * n + 2) l) 0 (nI n + 1) = fAdd f x y l := by
    funext j
    unfold up fAdd
    rw [← hN, hf]
    by_cases e0 : j = 0
    · rw [if_pos e0, if_pos e0]
    · rw [if_neg e0, if_neg e0]
      by_cases e1 : j = 1 + 3 * n
      · rw [if_neg (by omega), if_neg (by omega), if_pos e1, if_pos e1]
      · by_cases e2 : j = 2 + 3 * n
        · rw [if_neg (by omega), if_pos (by omega), if_neg e1, if_pos e2]
        · by_cases e3 : j = 3 + 3 * n
          · rw [if_pos (by omega), if_neg e1, if_neg e2, if_pos e3]
          · rw [if_neg (by omega), if_neg (by omega), if_neg e1, if_neg e1, if_neg e2, if_neg e3]
  have hin0 : vp_in (0 : Int32) 190 := vp_in_nI (n := 0) (by decide) (by decide)
  have hi1 : vp_in (nI (1 + 3 * n)) 190 := vp_in_nI (by omega) (by decide)
  have hi2 : vp_in (nI (1 + 3 * n + 1)) 190 := vp_in_nI (by omega) (by decide)
  have hi3 : vp_in (nI (1 + 3 * n + 2)) 190 := vp_in_nI (by omega) (by decide)
  refine ct_go hL_M_adds rfl ?_
  refine aw_iconst (v := 1) k138_0 (by decide) ?_
  refine aw_iconst (v := 3) k138_1 (by decide) ?_
  refine aw_aload_n k138_2 rfl ?_
  refine aw_getR k138_3 hC_M_adds fs_M_7 (by decide) ⟨rfl, rfl⟩ rfl ?_
  try simp only [mS_at, mS_up, tn0, hf, c1, c2, c3, hz, hfin]
  refine aw_iconst (v := 0) k138_6 (by decide) ?_
  refine aw_iaload k138_7 (by first | exact ⟨rfl, rfl⟩ | exact ⟨by assumption, rfl⟩ | exact ⟨by assumption, by assumption⟩ | exact ⟨rfl, by decide⟩ | exact ⟨by assumption, by decide⟩ | exact ⟨by decide, rfl⟩ | exact ⟨by decide, by decide⟩ | exact ⟨by decide, by assumption⟩ | assumption) (by first | rfl | assumption) (by first | rfl | assumption) hin0 ?_
  try simp only [mS_at, mS_up, tn0, hf, c1, c2, c3, hz, hfin]
  refine aw_imul k138_8 ?_
  refine aw_iadd k138_9 ?_
  rw [ix_l]
  refine aw_istore k138_10 (Nat.le_of_ble_eq_true rfl) rfl ?_
  refine aw_aload_n k138_12 rfl ?_
  refine aw_getR k138_13 hC_M_adds fs_M_7 (by decide) ⟨rfl, rfl⟩ rfl ?_
  try simp only [mS_at, mS_up, tn0, hf, c1, c2, c3, hz, hfin]
  refine aw_iload k138_16 rfl ?_
  refine aw_iload_n k138_18 rfl ?_
  refine aw_iastore k138_19 (by first | exact ⟨rfl, rfl⟩ | exact ⟨by assumption, rfl⟩ | exact ⟨by assumption, by assumption⟩ | exact ⟨rfl, by decide⟩ | exact ⟨by assumption, by decide⟩ | exact ⟨by decide, rfl⟩ | exact ⟨by decide, by decide⟩ | exact ⟨by decide, by assumption⟩ | assumption) (by first | rfl | assumption) (by first | rfl | assumption) hi1 ?_
  try simp only [mS_at, mS_up, tn0, hf, c1, c2, c3, hz, hfin]
  refine aw_aload_n k138_20 rfl ?_
  refine aw_getR k138_21 hC_M_adds fs_M_7 (by decide) ⟨rfl, rfl⟩ rfl ?_
  try simp only [mS_at, mS_up, tn0, hf, c1, c2, c3, hz, hfin]
  refine aw_iload k138_24 rfl ?_
  refine aw_iconst (v := 1) k138_26 (by decide) ?_
  refine aw_iadd k138_27 ?_
  rw [nI_1]
  refine aw_iload_n k138_28 rfl ?_
  refine aw_iastore k138_29 (by first | exact ⟨rfl, rfl⟩ | exact ⟨by assumption, rfl⟩ | exact ⟨by assumption, by assumption⟩ | exact ⟨rfl, by decide⟩ | exact ⟨by assumption, by decide⟩ | exact ⟨by decide, rfl⟩ | exact ⟨by decide, by decide⟩ | exact ⟨by decide, by assumption⟩ | assumption) (by first | rfl | assumption) (by first | rfl | assumption) hi2 ?_
  try simp only [mS_at, mS_up, tn0, hf, c1, c2, c3, hz, hfin]
  refine aw_aload_n k138_30 rfl ?_
  refine aw_getR k138_31 hC_M_adds fs_M_7 (by decide) ⟨rfl, rfl⟩ rfl ?_
  try simp only [mS_at, mS_up, tn0, hf, c1, c2, c3, hz, hfin]
  refine aw_iload k138_34 rfl ?_
  refine aw_iconst (v := 2) k138_36 (by decide) ?_
  refine aw_iadd k138_37 ?_
  rw [nI_2]
  refine aw_iload_n k138_38 rfl ?_
  refine aw_iastore k138_39 (by first | exact ⟨rfl, rfl⟩ | exact ⟨by assumption, rfl⟩ | exact ⟨by assumption, by assumption⟩ | exact ⟨rfl, by decide⟩ | exact ⟨by assumption, by decide⟩ | exact ⟨by decide, rfl⟩ | exact ⟨by decide, by decide⟩ | exact ⟨by decide, by assumption⟩ | assumption) (by first | rfl | assumption) (by first | rfl | assumption) hi3 ?_
  try simp only [mS_at, mS_up, tn0, hf, c1, c2, c3, hz, hfin]
  refine aw_aload_n k138_40 rfl ?_
  refine aw_getR k138_41 hC_M_adds fs_M_7 (by decide) ⟨rfl, rfl⟩ rfl ?_
  try simp only [mS_at, mS_up, tn0, hf, c1, c2, c3, hz, hfin]
  refine aw_iconst (v := 0) k138_44 (by decide) ?_
  refine aw_dup2IR k138_45 ?_
  refine aw_iaload k138_46 (by first | exact ⟨rfl, rfl⟩ | exact ⟨by assumption, rfl⟩ | exact ⟨by assumption, by assumption⟩ | exact ⟨rfl, by decide⟩ | exact ⟨by assumption, by decide⟩ | exact ⟨by decide, rfl⟩ | exact ⟨by decide, by decide⟩ | exact ⟨by decide, by assumption⟩ | assumption) (by first | rfl | assumption) (by first | rfl | assumption) hin0 ?_
  try simp only [mS_at, mS_up, tn0, hf, c1, c2, c3, hz, hfin]
  refine aw_iconst (v := 1) k138_47 (by decide) ?_
  refine aw_iadd k138_48 ?_
  refine aw_iastore k138_49 (by first | exact ⟨rfl, rfl⟩ | exact ⟨by assumption, rfl⟩ | exact ⟨by assumption, by assumption⟩ | exact ⟨rfl, by decide⟩ | exact ⟨by assumption, by decide⟩ | exact ⟨by decide, rfl⟩ | exact ⟨by decide, by decide⟩ | exact ⟨by decide, by assumption⟩ | assumption) (by first | rfl | assumption) (by first | rfl | assumption) hin0 ?_
  try simp only [mS_at, mS_up, tn0, hf, c1, c2, c3, hz, hfin]
  refine aw_aload_n k138_50 rfl ?_
  refine aw_getR k138_51 hC_M_adds fs_M_7 (by decide) ⟨rfl, rfl⟩ rfl ?_
  try simp only [mS_at, mS_up, tn0, hf, c1, c2, c3, hz, hfin]
  refine aw_iconst (v := 0) k138_54 (by decide) ?_
  refine aw_iaload k138_55 (by first | exact ⟨rfl, rfl⟩ | exact ⟨by assumption, rfl⟩ | exact ⟨by assumption, by assumption⟩ | exact ⟨rfl, by decide⟩ | exact ⟨by assumption, by decide⟩ | exact ⟨by decide, rfl⟩ | exact ⟨by decide, by decide⟩ | exact ⟨by decide, by assumption⟩ | assumption) (by first | rfl | assumption) (by first | rfl | assumption) hin0 ?_
  try simp only [mS_at, mS_up, tn0, hf, c1, c2, c3, hz, hfin]
  refine aw_ireturn k138_56 hR_M_adds ?_ ?_
  all_goals first | rfl | exact Or.inl rfl | exact Or.inr rfl | assumption | (simp_all; done) | ((repeat' split) <;> first | rfl | (simp only [Int32.lt_iff_toInt_lt, Int32.le_iff_toInt_le, Int64.lt_iff_toInt_lt, Int64.le_iff_toInt_le] at *; omega) | (simp_all; done))
theorem fTake_0 {f : Nat → Int32} : fTake f 0 = f 0 - 1 := if_pos rfl
theorem s_M_takes {d n : Nat} {M : mM} {f : Nat → Int32} (hf : f 0 = nI (n + 1)) (hn : n < 12) : CT iM_takes d [vR 6 0 0] (mS M f) (.inl (some (vI (fTake f 0)))) (mS M (fTake f)) 0 := by
  have hN : fN f = n + 1 := fN_of hf (by omega)
  have hp := nI_pred n
  have c1 : (nI (1 + 3 * n)).toNatClampNeg = 1 + 3 * n := nI_clamp (by omega)
  have c2 : (nI (1 + 3 * n + 1)).toNatClampNeg = 1 + 3 * n + 1 := nI_clamp (by omega)
  have c3 : (nI (1 + 3 * n + 2)).toNatClampNeg = 1 + 3 * n + 2 := nI_clamp (by omega)
  have h0 : up f 0 (nI n) 0 = nI n := up_at
  have hfin : up (up (up (up f 0 (nI n)) (1 + 3 * n) 0) (1 + 3 * n + 1) 0) (1 + 3 * n + 2) 0 = fTake f := by
    funext j
    unfold up fTake
    rw [hN, hf, hp]
    by_cases e0 : j = 0
    · rw [if_neg (by omega), if_neg (by omega), if_neg (by omega), if_pos e0, if_pos e0]
    · by_cases e1 : j = 1 + 3 * n
      · rw [if_neg (by omega), if_neg (by omega), if_pos e1, if_neg e0, if_pos (by omega)]
      · by_cases e2 : j = 2 + 3 * n
        · rw [if_neg (by omega), if_pos (by omega), if_neg e0, if_pos (by omega)]
        · by_cases e3 : j = 3 + 3 * n
          · rw [if_pos (by omega), if_neg e0, if_pos (by omega)]
          · rw [if_neg (by omega), if_neg (by omega), if_neg e1, if_neg e0, if_neg e0, if_neg (by omega)]
  have hin0 : vp_in (0 : Int32) 190 := vp_in_nI (n := 0) (by decide) (by decide)
  have hi1 : vp_in (nI (1 + 3 * n)) 190 := vp_in_nI (by omega) (by decide)
  have hi2 : vp_in (nI (1 + 3 * n + 1)) 190 := vp_in_nI (by omega) (by decide)
  have hi3 : vp_in (nI (1 + 3 * n + 2)) 190 := vp_in_nI (by omega) (by decide)
  refine ct_go hL_M_takes rfl ?_
  refine aw_aload_n k139_0 rfl ?_
  refine aw_getR k139_1 hC_M_takes fs_M_7 (by decide) ⟨rfl, rfl⟩ rfl ?_
  try simp only [mS_at, mS_up, tn0, hf, hp, h0, c1, c2, c3, hfin]
  refine aw_iconst (v := 0) k139_4 (by decide) ?_
  refine aw_dup2IR k139_5 ?_
  refine aw_iaload k139_6 (by first | exact ⟨rfl, rfl⟩ | exact ⟨by assumption, rfl⟩ | exact ⟨by assumption, by assumption⟩ | exact ⟨rfl, by decide⟩ | exact ⟨by assumption, by decide⟩ | exact ⟨by decide, rfl⟩ | exact ⟨by decide, by decide⟩ | exact ⟨by decide, by assumption⟩ | assumption) (by first | rfl | assumption) (by first | rfl | assumption) hin0 ?_
  try simp only [mS_at, mS_up, tn0, hf, hp, h0, c1, c2, c3, hfin]
  refine aw_iconst (v := 1) k139_7 (by decide) ?_
  refine aw_isub k139_8 ?_
  rw [hp]
  refine aw_iastore k139_9 (by first | exact ⟨rfl, rfl⟩ | exact ⟨by assumption, rfl⟩ | exact ⟨by assumption, by assumption⟩ | exact ⟨rfl, by decide⟩ | exact ⟨by assumption, by decide⟩ | exact ⟨by decide, rfl⟩ | exact ⟨by decide, by decide⟩ | exact ⟨by decide, by assumption⟩ | assumption) (by first | rfl | assumption) (by first | rfl | assumption) hin0 ?_
  try simp only [mS_at, mS_up, tn0, hf, hp, h0, c1, c2, c3, hfin]
  refine aw_iconst (v := 1) k139_10 (by decide) ?_
  refine aw_iconst (v := 3) k139_11 (by decide) ?_
  refine aw_aload_n k139_12 rfl ?_
  refine aw_getR k139_13 hC_M_takes fs_M_7 (by decide) ⟨rfl, rfl⟩ rfl ?_
  try simp only [mS_at, mS_up, tn0, hf, hp, h0, c1, c2, c3, hfin]
  refine aw_iconst (v := 0) k139_16 (by decide) ?_
  refine aw_iaload k139_17 (by first | exact ⟨rfl, rfl⟩ | exact ⟨by assumption, rfl⟩ | exact ⟨by assumption, by assumption⟩ | exact ⟨rfl, by decide⟩ | exact ⟨by assumption, by decide⟩ | exact ⟨by decide, rfl⟩ | exact ⟨by decide, by decide⟩ | exact ⟨by decide, by assumption⟩ | assumption) (by first | rfl | assumption) (by first | rfl | assumption) hin0 ?_
  try simp only [mS_at, mS_up, tn0, hf, hp, h0, c1, c2, c3, hfin]
  refine aw_imul k139_18 ?_
  refine aw_iadd k139_19 ?_
  rw [ix_l]
  refine aw_istore_n k139_20 (Nat.le_of_ble_eq_true rfl) rfl ?_
  refine aw_aload_n k139_21 rfl ?_
  refine aw_getR k139_22 hC_M_takes fs_M_7 (by decide) ⟨rfl, rfl⟩ rfl ?_
  try simp only [mS_at, mS_up, tn0, hf, hp, h0, c1, c2, c3, hfin]
  refine aw_iload_n k139_25 rfl ?_
  refine aw_iconst (v := 0) k139_26 (by decide) ?_
  refine aw_iastore k139_27 (by first | exact ⟨rfl, rfl⟩ | exact ⟨by assumption, rfl⟩ | exact ⟨by assumption, by assumption⟩ | exact ⟨rfl, by decide⟩ | exact ⟨by assumption, by decide⟩ | exact ⟨by decide, rfl⟩ | exact ⟨by decide, by decide⟩ | exact ⟨by decide, by assumption⟩ | assumption) (by first | rfl | assumption) (by first | rfl | assumption) hi1 ?_
  try simp only [mS_at, mS_up, tn0, hf, hp, h0, c1, c2, c3, hfin]
  refine aw_aload_n k139_28 rfl ?_
  refine aw_getR k139_29 hC_M_takes fs_M_7 (by decide) ⟨rfl, rfl⟩ rfl ?_
  try simp only [mS_at, mS_up, tn0, hf, hp, h0, c1, c2, c3, hfin]
  refine aw_iload_n k139_32 rfl ?_
  refine aw_iconst (v := 1) k139_33 (by decide) ?_
  refine aw_iadd k139_34 ?_
  rw [nI_1]
  refine aw_iconst (v := 0) k139_35 (by decide) ?_
  refine aw_iastore k139_36 (by first | exact ⟨rfl, rfl⟩ | exact ⟨by assumption, rfl⟩ | exact ⟨by assumption, by assumption⟩ | exact ⟨rfl, by decide⟩ | exact ⟨by assumption, by decide⟩ | exact ⟨by decide, rfl⟩ | exact ⟨by decide, by decide⟩ | exact ⟨by decide, by assumption⟩ | assumption) (by first | rfl | assumption) (by first | rfl | assumption) hi2 ?_
  try simp only [mS_at, mS_up, tn0, hf, hp, h0, c1, c2, c3, hfin]
  refine aw_aload_n k139_37 rfl ?_
  refine aw_getR k139_38 hC_M_takes fs_M_7 (by decide) ⟨rfl, rfl⟩ rfl ?_
  try simp only [mS_at, mS_up, tn0, hf, hp, h0, c1, c2, c3, hfin]
  refine aw_iload_n k139_41 rfl ?_
  refine aw_iconst (v := 2) k139_42 (by decide) ?_
  refine aw_iadd k139_43 ?_
  rw [nI_2]
  refine aw_iconst (v := 0) k139_44 (by decide) ?_
  refine aw_iastore k139_45 (by first | exact ⟨rfl, rfl⟩ | exact ⟨by assumption, rfl⟩ | exact ⟨by assumption, by assumption⟩ | exact ⟨rfl, by decide⟩ | exact ⟨by assumption, by decide⟩ | exact ⟨by decide, rfl⟩ | exact ⟨by decide, by decide⟩ | exact ⟨by decide, by assumption⟩ | assumption) (by first | rfl | assumption) (by first | rfl | assumption) hi3 ?_
  try simp only [mS_at, mS_up, tn0, hf, hp, h0, c1, c2, c3, hfin]
  refine aw_aload_n k139_46 rfl ?_
  refine aw_getR k139_47 hC_M_takes fs_M_7 (by decide) ⟨rfl, rfl⟩ rfl ?_
  try simp only [mS_at, mS_up, tn0, hf, hp, h0, c1, c2, c3, hfin]
  refine aw_iconst (v := 0) k139_50 (by decide) ?_
  refine aw_iaload k139_51 (by first | exact ⟨rfl, rfl⟩ | exact ⟨by assumption, rfl⟩ | exact ⟨by assumption, by assumption⟩ | exact ⟨rfl, by decide⟩ | exact ⟨by assumption, by decide⟩ | exact ⟨by decide, rfl⟩ | exact ⟨by decide, by decide⟩ | exact ⟨by decide, by assumption⟩ | assumption) (by first | rfl | assumption) (by first | rfl | assumption) hin0 ?_
  try simp only [mS_at, mS_up, tn0, hf, hp, h0, c1, c2, c3, hfin]
  refine aw_ireturn k139_52 hR_M_takes ?_ ?_
  all_goals first | rfl | exact Or.inl rfl | exact Or.inr rfl | assumption | (simp_all; done) | ((repeat' split) <;> first | rfl | (simp only [Int32.lt_iff_toInt_lt, Int32.le_iff_toInt_le, Int64.lt_iff_toInt_lt, Int64.le_iff_toInt_le] at *; omega) | (simp_all; done))
def emp (f : Nat → Int32) (i q : Nat) : Nat → Int32 := fun j => if 40 + 25 * i ≤ j ∧ j < 40 + 25 * i + q then 0 else f j
theorem s_M_empties {d i : Nat} {M : mM} {f : Nat → Int32} (hi : i < 6) : CT iM_empties d [vR 6 0 0, vI (nI i)] (mS M f) (.inl none) (mS M (emp f i 25)) 0 := by
  refine ct_go hL_M_empties rfl ?_
  have loop : ∀ (l q : Nat), q + l = 25 → AW iM_empties d 2 [some (vR 6 0 0), some (vI (nI i)), some (vI (nI q))] [] (mS M (emp f i q)) (.inl none) (mS M (emp f i 25)) 0 := by
    intro l
    induction l with
    | zero =>
      intro q hq
      obtain rfl : q = 25 := by omega
      refine aw_iload_n k141_2 rfl ?_
      refine aw_bipush (v := 25) k141_3 (by decide) ?_
      refine aw_icmp_ge 29 k141_5 (by decide) (fun c_5 => ?_) (fun c_5 => ?_)
      · refine aw_return k141_29 hR_M_empties ?_
        all_goals first | rfl | exact Or.inl rfl | exact Or.inr rfl | assumption | (simp_all; done) | ((repeat' split) <;> first | rfl | (simp only [Int32.lt_iff_toInt_lt, Int32.le_iff_toInt_le, Int64.lt_iff_toInt_lt, Int64.le_iff_toInt_le] at *; omega) | (simp_all; done))
      · exact absurd (Int32.le_refl _) c_5
    | succ l ih =>
      intro q hq
      have hx : (40 : Int32) + 25 * nI i + nI q = nI (40 + 25 * i + q) := by rw [ix_c, nI_add]
      have hc : (nI (40 + 25 * i + q)).toNatClampNeg = 40 + 25 * i + q := nI_clamp (by omega)
      have hin : vp_in (nI (40 + 25 * i + q)) 190 := vp_in_nI (by omega) (by decide)
      have hs : up (emp f i q) (40 + 25 * i + q) 0 = emp f i (q + 1) := by
        funext j
        unfold up emp
        by_cases e : j = 40 + 25 * i + q
        · rw [if_pos e, if_pos (by omega)]
        · rw [if_neg e]
          by_cases e2 : 40 + 25 * i ≤ j ∧ j < 40 + 25 * i + q
          · rw [if_pos e2, if_pos (by omega)]
          · rw [if_neg e2, if_neg (by omega)]
      refine aw_iload_n k141_2 rfl ?_
      refine aw_bipush (v := 25) k141_3 (by decide) ?_
      refine aw_icmp_ge 29 k141_5 (by decide) (fun c_5 => ?_) (fun c_5 => ?_)
      · exact absurd (nI_le_of (a := 25) c_5) (by omega)
      · refine aw_aload_n k141_8 rfl ?_
        refine aw_getR k141_9 hC_M_empties fs_M_7 (by decide) ⟨rfl, rfl⟩ rfl ?_
        try simp only [mS_up, hc, hs]
        refine aw_bipush (v := 40) k141_12 (by decide) ?_
        refine aw_bipush (v := 25) k141_14 (by decide) ?_
        refine aw_iload_n k141_16 rfl ?_
        refine aw_imul k141_17 ?_
        refine aw_iadd k141_18 ?_
        refine aw_iload_n k141_19 rfl ?_
        refine aw_iadd k141_20 ?_
        rw [hx]
        refine aw_iconst (v := 0) k141_21 (by decide) ?_
        refine aw_iastore k141_22 (by first | exact ⟨rfl, rfl⟩ | exact ⟨by assumption, rfl⟩ | exact ⟨by assumption, by assumption⟩ | exact ⟨rfl, by decide⟩ | exact ⟨by assumption, by decide⟩ | exact ⟨by decide, rfl⟩ | exact ⟨by decide, by decide⟩ | exact ⟨by decide, by assumption⟩ | assumption) (by first | rfl | assumption) (by first | rfl | assumption) hin ?_
        try simp only [mS_up, hc, hs]
        refine aw_iinc (y := 1) k141_23 rfl (by decide) rfl ?_
        try simp only [mS_up, hc, hs]
        rw [nI_1 q]
        refine aw_goto (t := 2) k141_26 (by decide) ?_
        exact ih (q + 1) (by omega)
  have h0 : emp f i 0 = f := by
    funext j
    unfold emp
    rw [if_neg (by omega)]
  have := loop 25 0 (by omega)
  rw [h0] at this
  refine aw_iconst (v := 0) k141_0 (by decide) ?_
  refine aw_istore_n k141_1 (Nat.le_of_ble_eq_true rfl) rfl ?_
  exact this
theorem adjM_c {f g : Nat → Int32} {n c w : Nat} (h : ∀ j, j < 39 → g j = f j) (hn : n ≤ 12) (hc : c ≤ n) (hw : w < 2) : adjM g n c w = adjM f n c w := by
  have hb : ∀ w j, w < 3 → j ≤ n → bef g w j = bef f w j := fun w j hw hj => bef_congr (fun i hi => h _ (by omega))
  unfold adjM
  rw [h _ (by omega), hb w c (by omega) hc, hb w n (by omega) (Nat.le_refl n), hb 2 c (by omega) hc, hb 2 n (by omega) (Nat.le_refl n)]
/-- the adjusted traverse laid as the field c, as far as i corners -/
def laid (f : Nat → Int32) (c n i : Nat) : Nat → Int32 := fun j => if 40 + 25 * c ≤ j ∧ j ≤ 40 + 25 * c + 2 * i then adB f n (j - (40 + 25 * c)) else f j
theorem s_M_lays {d : Nat} {M : mM} {f : Nat → Int32} (hS : ShF f) (hB : BdF f) (hc6 : fC f < 6) : CT iM_lays (d + 3) [vR 6 0 0] (mS M f) (.inl none) (mS M (laid f (fC f) (fN f) (fN f))) 0 := by
  obtain ⟨h0, h12, h39, -, -⟩ := id hS
  have hl2 := bef2 hB h12 _ (Nat.le_refl (fN f))
  have hadjE := fun (c w : Nat) (hc : c ≤ fN f) => adj_eq (w := w) hB h12 hc
  clear hS hB
  generalize fN f = n at h0 h12 hl2 hadjE ⊢
  generalize fC f = c at h39 hc6 ⊢
  have hadj : ∀ (g : Nat → Int32) (i w : Nat), (∀ j, j < 39 → g j = f j) → i < n → w < 2 → CT iM_adjusted (d + 2) [vR 6 0 0, vI (nI i), vI (nI w)] (mS M g) (.inl (some (vI (adjF f n i w)))) (mS M g) 0 := by
    intro g i w hg hi hw
    have e := hadjE i w (by omega)
    have hb : bef g 2 n = bef f 2 n := bef_congr (fun i hi => hg _ (by omega))
    have := s_M_adjusted (d := d) (M := mS M g) (n := n) (c := i) (w := w) (by rw [mS_at, hg 0 (by omega)]; exact h0) h12 (by omega) hw (Or.inr (fun q => by
      rw [mS_at, hb] at q
      have := congrArg Int64.toInt q
      rw [Int32.toInt_toInt64] at this
      have z : (0 : Int64).toInt = 0 := rfl
      omega))
    rw [mS_at, adjM_c hg h12 (by omega) hw, e] at this
    exact this
  refine ct_go hL_M_lays rfl ?_
  have hlo : ∀ i j, j < 39 → laid f c n i j = f j := fun i j hj => if_neg (by omega)
  have loop : ∀ (l i : Nat), i + l = n → AW iM_lays (d + 3) 28 [some (vR 6 0 0), some (vI (nI c)), some (vI (nI i))] [] (mS M (laid f c n i)) (.inl none) (mS M (laid f c n n)) 0 := by
    intro l
    induction l with
    | zero =>
      intro i hi
      obtain rfl : i = n := by omega
      have e0 : laid f c i i 0 = nI i := (hlo i 0 (by omega)).trans h0
      refine aw_iload_n k140_28 rfl ?_
      refine aw_aload_n k140_29 rfl ?_
      refine aw_getR k140_30 hC_M_lays fs_M_7 (by decide) ⟨rfl, rfl⟩ rfl ?_
      try simp only [mS_at, tn0, e0]
      refine aw_iconst (v := 0) k140_33 (by decide) ?_
      refine aw_iaload k140_34 (by first | exact ⟨rfl, rfl⟩ | exact ⟨by assumption, rfl⟩ | exact ⟨by assumption, by assumption⟩ | exact ⟨rfl, by decide⟩ | exact ⟨by assumption, by decide⟩ | exact ⟨by decide, rfl⟩ | exact ⟨by decide, by decide⟩ | exact ⟨by decide, by assumption⟩ | assumption) (by first | rfl | assumption) (by first | rfl | assumption) (vp_in_nI (n := 0) (by decide) (by decide)) ?_
      try simp only [mS_at, tn0, e0]
      refine aw_icmp_ge 92 k140_35 (by decide) (fun c_35 => ?_) (fun c_35 => ?_)
      · refine aw_return k140_92 hR_M_lays ?_
        all_goals first | rfl | exact Or.inl rfl | exact Or.inr rfl | assumption | (simp_all; done) | ((repeat' split) <;> first | rfl | (simp only [Int32.lt_iff_toInt_lt, Int32.le_iff_toInt_le, Int64.lt_iff_toInt_lt, Int64.le_iff_toInt_le] at *; omega) | (simp_all; done))
      · exact absurd (Int32.le_refl _) c_35
    | succ l ih =>
      intro i hi
      have e0 : laid f c n i 0 = nI n := (hlo i 0 (by omega)).trans h0
      have x1 : (40 : Int32) + 25 * nI c + 1 + 2 * nI i = nI (41 + 25 * c + 2 * i) := by
        rw [ix_c, nI_1, show (2 : Int32) = nI 2 from rfl, nI_mul, nI_add]
        exact congrArg nI (by omega)
      have x2 : (40 : Int32) + 25 * nI c + 2 + 2 * nI i = nI (42 + 25 * c + 2 * i) := by
        rw [ix_c, nI_2, show (2 : Int32) = nI 2 from rfl, nI_mul, nI_add]
        exact congrArg nI (by omega)
      have k1 : (nI (41 + 25 * c + 2 * i)).toNatClampNeg = 41 + 25 * c + 2 * i := nI_clamp (by omega)
      have k2 : (nI (42 + 25 * c + 2 * i)).toNatClampNeg = 42 + 25 * c + 2 * i := nI_clamp (by omega)
      have i1 : vp_in (nI (41 + 25 * c + 2 * i)) 190 := vp_in_nI (by omega) (by decide)
      have i2 : vp_in (nI (42 + 25 * c + 2 * i)) 190 := vp_in_nI (by omega) (by decide)
      have hs : up (up (laid f c n i) (41 + 25 * c + 2 * i) (adjF f n i 0)) (42 + 25 * c + 2 * i) (adjF f n i 1) = laid f c n (i + 1) := by
        funext j
        unfold up laid
        by_cases e1 : j = 42 + 25 * c + 2 * i
        · rw [if_pos e1, if_pos (by omega)]
          unfold adB
          rw [if_neg (by omega), if_neg (by omega), show (j - (40 + 25 * c) - 2) / 2 = i by omega]
        · rw [if_neg e1]
          by_cases e2 : j = 41 + 25 * c + 2 * i
          · rw [if_pos e2, if_pos (by omega)]
            unfold adB
            rw [if_neg (by omega), if_pos (by omega), show (j - (40 + 25 * c) - 1) / 2 = i by omega]
          · rw [if_neg e2]
            by_cases e3 : 40 + 25 * c ≤ j ∧ j ≤ 40 + 25 * c + 2 * i
            · rw [if_pos e3, if_pos (by omega)]
            · rw [if_neg e3, if_neg (by omega)]
      have a1 := hadj (laid f c n i) i 0 (hlo i) (by omega) (by decide)
      have a2 := hadj (up (laid f c n i) (41 + 25 * c + 2 * i) (adjF f n i 0)) i 1 (fun j hj => by rw [up_ne (by omega)]; exact hlo i j hj) (by omega) (by decide)
      refine aw_iload_n k140_28 rfl ?_
      refine aw_aload_n k140_29 rfl ?_
      refine aw_getR k140_30 hC_M_lays fs_M_7 (by decide) ⟨rfl, rfl⟩ rfl ?_
      try simp only [mS_at, mS_up, tn0, e0, k1, k2, hs]
      refine aw_iconst (v := 0) k140_33 (by decide) ?_
      refine aw_iaload k140_34 (by first | exact ⟨rfl, rfl⟩ | exact ⟨by assumption, rfl⟩ | exact ⟨by assumption, by assumption⟩ | exact ⟨rfl, by decide⟩ | exact ⟨by assumption, by decide⟩ | exact ⟨by decide, rfl⟩ | exact ⟨by decide, by decide⟩ | exact ⟨by decide, by assumption⟩ | assumption) (by first | rfl | assumption) (by first | rfl | assumption) (vp_in_nI (n := 0) (by decide) (by decide)) ?_
      try simp only [mS_at, mS_up, tn0, e0, k1, k2, hs]
      refine aw_icmp_ge 92 k140_35 (by decide) (fun c_35 => ?_) (fun c_35 => ?_)
      · exact absurd (nI_le_of c_35) (by omega)
      · refine aw_aload_n k140_38 rfl ?_
        refine aw_getR k140_39 hC_M_lays fs_M_7 (by decide) ⟨rfl, rfl⟩ rfl ?_
        try simp only [mS_at, mS_up, tn0, e0, k1, k2, hs]
        refine aw_bipush (v := 40) k140_42 (by decide) ?_
        refine aw_bipush (v := 25) k140_44 (by decide) ?_
        refine aw_iload_n k140_46 rfl ?_
        refine aw_imul k140_47 ?_
        refine aw_iadd k140_48 ?_
        refine aw_iconst (v := 1) k140_49 (by decide) ?_
        refine aw_iadd k140_50 ?_
        refine aw_iconst (v := 2) k140_51 (by decide) ?_
        refine aw_iload_n k140_52 rfl ?_
        refine aw_imul k140_53 ?_
        refine aw_iadd k140_54 ?_
        rw [x1]
        refine aw_aload_n k140_55 rfl ?_
        refine aw_iload_n k140_56 rfl ?_
        refine aw_iconst (v := 0) k140_57 (by decide) ?_
        refine aw_callV2 k140_58 hC_M_lays ok_M_adjusted sv_M_77 hH_M_adjusted ⟨rfl, rfl⟩ (by decide) hN_M_adjusted (by rw [hL_M_adjusted]; exact Nat.le_of_ble_eq_true rfl) (Nat.le_of_ble_eq_true rfl) a1 ?_
        refine aw_iastore k140_61 (by first | exact ⟨rfl, rfl⟩ | exact ⟨by assumption, rfl⟩ | exact ⟨by assumption, by assumption⟩ | exact ⟨rfl, by decide⟩ | exact ⟨by assumption, by decide⟩ | exact ⟨by decide, rfl⟩ | exact ⟨by decide, by decide⟩ | exact ⟨by decide, by assumption⟩ | assumption) (by first | rfl | assumption) (by first | rfl | assumption) i1 ?_
        try simp only [mS_at, mS_up, tn0, e0, k1, k2, hs]
        refine aw_aload_n k140_62 rfl ?_
        refine aw_getR k140_63 hC_M_lays fs_M_7 (by decide) ⟨rfl, rfl⟩ rfl ?_
        try simp only [mS_at, mS_up, tn0, e0, k1, k2, hs]
        refine aw_bipush (v := 40) k140_66 (by decide) ?_
        refine aw_bipush (v := 25) k140_68 (by decide) ?_
        refine aw_iload_n k140_70 rfl ?_
        refine aw_imul k140_71 ?_
        refine aw_iadd k140_72 ?_
        refine aw_iconst (v := 2) k140_73 (by decide) ?_
        refine aw_iadd k140_74 ?_
        refine aw_iconst (v := 2) k140_75 (by decide) ?_
        refine aw_iload_n k140_76 rfl ?_
        refine aw_imul k140_77 ?_
        refine aw_iadd k140_78 ?_
        rw [x2]
        refine aw_aload_n k140_79 rfl ?_
        refine aw_iload_n k140_80 rfl ?_
        refine aw_iconst (v := 1) k140_81 (by decide) ?_
        refine aw_callV2 k140_82 hC_M_lays ok_M_adjusted sv_M_77 hH_M_adjusted ⟨rfl, rfl⟩ (by decide) hN_M_adjusted (by rw [hL_M_adjusted]; exact Nat.le_of_ble_eq_true rfl) (Nat.le_of_ble_eq_true rfl) a2 ?_
        refine aw_iastore k140_85 (by first | exact ⟨rfl, rfl⟩ | exact ⟨by assumption, rfl⟩ | exact ⟨by assumption, by assumption⟩ | exact ⟨rfl, by decide⟩ | exact ⟨by assumption, by decide⟩ | exact ⟨by decide, rfl⟩ | exact ⟨by decide, by decide⟩ | exact ⟨by decide, by assumption⟩ | assumption) (by first | rfl | assumption) (by first | rfl | assumption) i2 ?_
        try simp only [mS_at, mS_up, tn0, e0, k1, k2, hs]
        refine aw_iinc (y := 1) k140_86 rfl (by decide) rfl ?_
        try simp only [mS_at, mS_up, tn0, e0, k1, k2, hs]
        rw [nI_1 i]
        refine aw_goto (t := 28) k140_89 (by decide) ?_
        exact ih (i + 1) (by omega)
  have hs0 : up f (40 + 25 * c) (nI n) = laid f c n 0 := by
    funext j
    unfold up laid
    by_cases e : j = 40 + 25 * c
    · rw [if_pos e, if_pos (by omega)]
      unfold adB
      rw [if_pos (by omega)]
    · rw [if_neg e, if_neg (by omega)]
  have kc : (nI (40 + 25 * c)).toNatClampNeg = 40 + 25 * c := nI_clamp (by omega)
  have ic : vp_in (nI (40 + 25 * c)) 190 := vp_in_nI (by omega) (by decide)
  refine aw_aload_n k140_0 rfl ?_
  refine aw_getR k140_1 hC_M_lays fs_M_7 (by decide) ⟨rfl, rfl⟩ rfl ?_
  try simp only [mS_at, mS_up, tn0, tn39, h0, h39, kc, hs0]
  refine aw_bipush (v := 39) k140_4 (by decide) ?_
  refine aw_iaload k140_6 (by first | exact ⟨rfl, rfl⟩ | exact ⟨by assumption, rfl⟩ | exact ⟨by assumption, by assumption⟩ | exact ⟨rfl, by decide⟩ | exact ⟨by assumption, by decide⟩ | exact ⟨by decide, rfl⟩ | exact ⟨by decide, by decide⟩ | exact ⟨by decide, by assumption⟩ | assumption) (by first | rfl | assumption) (by first | rfl | assumption) (vp_in_nI (n := 39) (by decide) (by decide)) ?_
  try simp only [mS_at, mS_up, tn0, tn39, h0, h39, kc, hs0]
  refine aw_istore_n k140_7 (Nat.le_of_ble_eq_true rfl) rfl ?_
  refine aw_aload_n k140_8 rfl ?_
  refine aw_getR k140_9 hC_M_lays fs_M_7 (by decide) ⟨rfl, rfl⟩ rfl ?_
  try simp only [mS_at, mS_up, tn0, tn39, h0, h39, kc, hs0]
  refine aw_bipush (v := 40) k140_12 (by decide) ?_
  refine aw_bipush (v := 25) k140_14 (by decide) ?_
  refine aw_iload_n k140_16 rfl ?_
  refine aw_imul k140_17 ?_
  refine aw_iadd k140_18 ?_
  rw [ix_c]
  refine aw_aload_n k140_19 rfl ?_
  refine aw_getR k140_20 hC_M_lays fs_M_7 (by decide) ⟨rfl, rfl⟩ rfl ?_
  try simp only [mS_at, mS_up, tn0, tn39, h0, h39, kc, hs0]
  refine aw_iconst (v := 0) k140_23 (by decide) ?_
  refine aw_iaload k140_24 (by first | exact ⟨rfl, rfl⟩ | exact ⟨by assumption, rfl⟩ | exact ⟨by assumption, by assumption⟩ | exact ⟨rfl, by decide⟩ | exact ⟨by assumption, by decide⟩ | exact ⟨by decide, rfl⟩ | exact ⟨by decide, by decide⟩ | exact ⟨by decide, by assumption⟩ | assumption) (by first | rfl | assumption) (by first | rfl | assumption) (vp_in_nI (n := 0) (by decide) (by decide)) ?_
  try simp only [mS_at, mS_up, tn0, tn39, h0, h39, kc, hs0]
  refine aw_iastore k140_25 (by first | exact ⟨rfl, rfl⟩ | exact ⟨by assumption, rfl⟩ | exact ⟨by assumption, by assumption⟩ | exact ⟨rfl, by decide⟩ | exact ⟨by assumption, by decide⟩ | exact ⟨by decide, rfl⟩ | exact ⟨by decide, by decide⟩ | exact ⟨by decide, by assumption⟩ | assumption) (by first | rfl | assumption) (by first | rfl | assumption) ic ?_
  try simp only [mS_at, mS_up, tn0, tn39, h0, h39, kc, hs0]
  refine aw_iconst (v := 0) k140_26 (by decide) ?_
  refine aw_istore_n k140_27 (Nat.le_of_ble_eq_true rfl) rfl ?_
  exact loop n 0 (by omega)
