/-! PURE: a field's methods -/
theorem nI_le_of {a b : Nat} (h : nI a ≤ nI b) (ha : a < 2 ^ 31 := by omega) (hb : b < 2 ^ 31 := by omega) : a ≤ b := (nI_leI ha hb).mp h
theorem nI_nle_of {a b : Nat} (h : ¬ nI a ≤ nI b) (ha : a < 2 ^ 31 := by omega) (hb : b < 2 ^ 31 := by omega) : b < a := Nat.not_le.mp (fun q => h ((nI_leI ha hb).mpr q))
theorem nI_lt_of {a b : Nat} (h : nI a < nI b) (ha : a < 2 ^ 31 := by omega) (hb : b < 2 ^ 31 := by omega) : a < b := (nI_ltI ha hb).mp h
theorem nI_nlt_of {a b : Nat} (h : ¬ nI a < nI b) (ha : a < 2 ^ 31 := by omega) (hb : b < 2 ^ 31 := by omega) : b ≤ a := Nat.not_lt.mp (fun q => h ((nI_ltI ha hb).mpr q))
theorem nI_eq_of {a b : Nat} (h : nI a = nI b) (ha : a < 2 ^ 31 := by omega) (hb : b < 2 ^ 31 := by omega) : a = b := (nI_eq ha hb).mp h
theorem nI_ne_of {a b : Nat} (h : ¬ nI a = nI b) (ha : a < 2 ^ 31 := by omega) (hb : b < 2 ^ 31 := by omega) : a ≠ b := fun q => h ((nI_eq ha hb).mpr q)
def FdM (M : mM) (s j m : Nat) : Prop := s < 7 ∧ j < 6 ∧ M (0, s, j) 2 = nI m ∧ m ≤ 12
theorem s_A_cell8 {d s j n : Nat} {M : mM} (hs : s < 7) (hj : j < 6) (hn : n < 12) : CT iA_cellOf d [vR 8 s j, vI (nI n)] M (.inl (some (vI (M (8, s, j) n)))) M 0 := by
  have h := s_A_cellOf (d := d) (M := M) (i := nI n) (show mOk (8, s, j) from ⟨hs, hj⟩) rfl rfl (by show 12 < 2 ^ 31; omega)
  rw [cellV_at (by show n < 12; omega) (by show 12 < 2 ^ 31; omega)] at h
  exact h
theorem s_A_cell9 {d s j n : Nat} {M : mM} (hs : s < 7) (hj : j < 6) (hn : n < 12) : CT iA_cellOf d [vR 9 s j, vI (nI n)] M (.inl (some (vI (M (9, s, j) n)))) M 0 := by
  have h := s_A_cellOf (d := d) (M := M) (i := nI n) (show mOk (9, s, j) from ⟨hs, hj⟩) rfl rfl (by show 12 < 2 ^ 31; omega)
  rw [cellV_at (by show n < 12; omega) (by show 12 < 2 ^ 31; omega)] at h
  exact h
theorem s_F_eastAt {d s j i : Nat} {M : mM} (hs : s < 7) (hj : j < 6) (hi : i < 12) : CT iF_eastAt (d + 1) [vR 0 s j, vI (nI i)] M (.inl (some (vI (M (8, s, j) i)))) M 0 := by
  refine ct_go hL_F_eastAt rfl ?_
  refine aw_aload_n k5_0 rfl ?_
  refine aw_getR k5_1 hC_F_eastAt fs_F_9 (by decide) ⟨(by first | assumption | decide), (by first | assumption | decide)⟩ rfl ?_
  refine aw_iload_n k5_4 rfl ?_
  refine aw_callN2 k5_5 hC_F_eastAt ok_A_cellOf sn_F_28 hH_A_cellOf (by rw [hL_A_cellOf]; exact Nat.le_of_ble_eq_true rfl) (Nat.le_of_ble_eq_true rfl) (s_A_cell8 hs hj hi) ?_
  refine aw_ireturn k5_8 hR_F_eastAt ?_ ?_
  all_goals first | rfl | exact Or.inl rfl | exact Or.inr rfl | assumption | (simp_all; done) | ((repeat' split) <;> first | rfl | (simp only [Int32.lt_iff_toInt_lt, Int32.le_iff_toInt_le, Int64.lt_iff_toInt_lt, Int64.le_iff_toInt_le] at *; omega) | (simp_all; done))
theorem s_F_northAt {d s j i : Nat} {M : mM} (hs : s < 7) (hj : j < 6) (hi : i < 12) : CT iF_northAt (d + 1) [vR 0 s j, vI (nI i)] M (.inl (some (vI (M (9, s, j) i)))) M 0 := by
  refine ct_go hL_F_northAt rfl ?_
  refine aw_aload_n k6_0 rfl ?_
  refine aw_getR k6_1 hC_F_northAt fs_F_15 (by decide) ⟨(by first | assumption | decide), (by first | assumption | decide)⟩ rfl ?_
  refine aw_iload_n k6_4 rfl ?_
  refine aw_callN2 k6_5 hC_F_northAt ok_A_cellOf sn_F_28 hH_A_cellOf (by rw [hL_A_cellOf]; exact Nat.le_of_ble_eq_true rfl) (Nat.le_of_ble_eq_true rfl) (s_A_cell9 hs hj hi) ?_
  refine aw_ireturn k6_8 hR_F_northAt ?_ ?_
  all_goals first | rfl | exact Or.inl rfl | exact Or.inr rfl | assumption | (simp_all; done) | ((repeat' split) <;> first | rfl | (simp only [Int32.lt_iff_toInt_lt, Int32.le_iff_toInt_le, Int64.lt_iff_toInt_lt, Int64.le_iff_toInt_le] at *; omega) | (simp_all; done))
/-- the corner behind i, and the one before -/
def nx (m i : Nat) : Nat := if i + 1 < m then i + 1 else 0
def pv (m i : Nat) : Nat := if 0 < i then i - 1 else m - 1
theorem nx_lt {m i : Nat} (hm : m ≤ 12) : nx m i < 12 := by unfold nx; split <;> omega
theorem pv_lt {m i : Nat} (hm : m ≤ 12) (hi : i < 12) : pv m i < 12 := by unfold pv; split <;> omega
theorem s_F_cornerAfter {d s j m i : Nat} {M : mM} (h : FdM M s j m) (hi : i < 12) : CT iF_cornerAfter d [vR 0 s j, vI (nI i)] M (.inl (some (vI (nI (nx m i))))) M 0 := by
  obtain ⟨hs, hj, hm, h12⟩ := id h
  refine ct_go hL_F_cornerAfter rfl ?_
  refine aw_iload_n k7_0 rfl ?_
  refine aw_iconst (v := 1) k7_1 (by decide) ?_
  refine aw_iadd k7_2 ?_
  rw [nI_1]
  refine aw_aload_n k7_3 rfl ?_
  refine aw_getI k7_4 hC_F_cornerAfter fs_F_24 (by decide) ⟨(by first | assumption | decide), (by first | assumption | decide)⟩ rfl ?_
  rw [hm]
  refine aw_icmp_ge 16 k7_7 (by decide) (fun c_7 => ?_) (fun c_7 => ?_)
  · first | have n_7 := nI_le_of c_7 | have n_7 := nI_nle_of c_7 | have n_7 := nI_lt_of c_7 | have n_7 := nI_nlt_of c_7 | have n_7 := nI_eq_of c_7 | have n_7 := nI_ne_of c_7 | skip
    refine aw_iconst (v := 0) k7_16 (by decide) ?_
    refine aw_ireturn k7_17 hR_F_cornerAfter ?_ ?_
    all_goals first | rfl | (unfold nx; split <;> first | rfl | omega)
  · first | have n_7 := nI_le_of c_7 | have n_7 := nI_nle_of c_7 | have n_7 := nI_lt_of c_7 | have n_7 := nI_nlt_of c_7 | have n_7 := nI_eq_of c_7 | have n_7 := nI_ne_of c_7 | skip
    refine aw_iload_n k7_10 rfl ?_
    refine aw_iconst (v := 1) k7_11 (by decide) ?_
    refine aw_iadd k7_12 ?_
    rw [nI_1]
    refine aw_goto (t := 17) k7_13 (by decide) ?_
    refine aw_ireturn k7_17 hR_F_cornerAfter ?_ ?_
    all_goals first | rfl | (unfold nx; split <;> first | rfl | omega)
theorem s_F_cornerBefore {d s j m i : Nat} {M : mM} (h : FdM M s j m) (hi : i < 12) (h0 : 0 < m) : CT iF_cornerBefore d [vR 0 s j, vI (nI i)] M (.inl (some (vI (nI (pv m i))))) M 0 := by
  obtain ⟨hs, hj, hm, h12⟩ := id h
  refine ct_go hL_F_cornerBefore rfl ?_
  refine aw_iload_n k8_0 rfl ?_
  refine aw_if_le 10 k8_1 (by decide) (fun c_1 => ?_) (fun c_1 => ?_)
  · have n_1 := nI_le_of (b := 0) c_1
    refine aw_aload_n k8_10 rfl ?_
    refine aw_getI k8_11 hC_F_cornerBefore fs_F_24 (by decide) ⟨(by first | assumption | decide), (by first | assumption | decide)⟩ rfl ?_
    rw [hm]
    refine aw_iconst (v := 1) k8_14 (by decide) ?_
    refine aw_isub k8_15 ?_
    refine aw_ireturn k8_16 hR_F_cornerBefore ?_ ?_
    all_goals first | rfl | (unfold pv; split <;> first | omega | (obtain ⟨z, rfl⟩ : ∃ z, i = z + 1 := ⟨i - 1, by omega⟩; exact nI_pred z) | (obtain ⟨z, rfl⟩ : ∃ z, m = z + 1 := ⟨m - 1, by omega⟩; exact nI_pred z))
  · have n_1 := nI_nle_of (b := 0) c_1
    refine aw_iload_n k8_4 rfl ?_
    refine aw_iconst (v := 1) k8_5 (by decide) ?_
    refine aw_isub k8_6 ?_
    refine aw_goto (t := 16) k8_7 (by decide) ?_
    refine aw_ireturn k8_16 hR_F_cornerBefore ?_ ?_
    all_goals first | rfl | (unfold pv; split <;> first | omega | (obtain ⟨z, rfl⟩ : ∃ z, i = z + 1 := ⟨i - 1, by omega⟩; exact nI_pred z) | (obtain ⟨z, rfl⟩ : ∃ z, m = z + 1 := ⟨m - 1, by omega⟩; exact nI_pred z))
/-- the parts of a side -/
def sdE (M : mM) (s j m i : Nat) : Int64 := (M (8, s, j) (nx m i)).toInt64 - (M (8, s, j) i).toInt64
def sdN (M : mM) (s j m i : Nat) : Int64 := (M (9, s, j) (nx m i)).toInt64 - (M (9, s, j) i).toInt64
theorem s_F_sideEast {d s j m i : Nat} {M : mM} (h : FdM M s j m) (hi : i < 12) : CT iF_sideEast (d + 2) [vR 0 s j, vI (nI i)] M (.inl (some (vL (sdE M s j m i)))) M 0 := by
  obtain ⟨hs, hj, hm, h12⟩ := id h
  refine ct_go hL_F_sideEast rfl ?_
  refine aw_aload_n k9_0 rfl ?_
  refine aw_aload_n k9_1 rfl ?_
  refine aw_iload_n k9_2 rfl ?_
  refine aw_callV1 k9_3 hC_F_sideEast ok_F_cornerAfter sv_F_32 hH_F_cornerAfter ⟨(by first | assumption | decide), (by first | assumption | decide)⟩ (by decide) hN_F_cornerAfter (by rw [hL_F_cornerAfter]; exact Nat.le_of_ble_eq_true rfl) (Nat.le_of_ble_eq_true rfl) (s_F_cornerAfter h hi) ?_
  refine aw_callV1 k9_6 hC_F_sideEast ok_F_eastAt sv_F_36 hH_F_eastAt ⟨(by first | assumption | decide), (by first | assumption | decide)⟩ (by decide) hN_F_eastAt (by rw [hL_F_eastAt]; exact Nat.le_of_ble_eq_true rfl) (Nat.le_of_ble_eq_true rfl) (s_F_eastAt hs hj (nx_lt h12)) ?_
  refine aw_i2l k9_9 ?_
  refine aw_aload_n k9_10 rfl ?_
  refine aw_iload_n k9_11 rfl ?_
  refine aw_callV1 k9_12 hC_F_sideEast ok_F_eastAt sv_F_36 hH_F_eastAt ⟨(by first | assumption | decide), (by first | assumption | decide)⟩ (by decide) hN_F_eastAt (by rw [hL_F_eastAt]; exact Nat.le_of_ble_eq_true rfl) (Nat.le_of_ble_eq_true rfl) (s_F_eastAt hs hj hi) ?_
  refine aw_i2l k9_15 ?_
  refine aw_lsub k9_16 ?_
  refine aw_lreturn k9_17 hR_F_sideEast ?_ ?_
  all_goals first | rfl | exact Or.inl rfl | exact Or.inr rfl | assumption | (simp_all; done) | ((repeat' split) <;> first | rfl | (simp only [Int32.lt_iff_toInt_lt, Int32.le_iff_toInt_le, Int64.lt_iff_toInt_lt, Int64.le_iff_toInt_le] at *; omega) | (simp_all; done))
theorem s_F_sideNorth {d s j m i : Nat} {M : mM} (h : FdM M s j m) (hi : i < 12) : CT iF_sideNorth (d + 2) [vR 0 s j, vI (nI i)] M (.inl (some (vL (sdN M s j m i)))) M 0 := by
  obtain ⟨hs, hj, hm, h12⟩ := id h
  refine ct_go hL_F_sideNorth rfl ?_
  refine aw_aload_n k10_0 rfl ?_
  refine aw_aload_n k10_1 rfl ?_
  refine aw_iload_n k10_2 rfl ?_
  refine aw_callV1 k10_3 hC_F_sideNorth ok_F_cornerAfter sv_F_32 hH_F_cornerAfter ⟨(by first | assumption | decide), (by first | assumption | decide)⟩ (by decide) hN_F_cornerAfter (by rw [hL_F_cornerAfter]; exact Nat.le_of_ble_eq_true rfl) (Nat.le_of_ble_eq_true rfl) (s_F_cornerAfter h hi) ?_
  refine aw_callV1 k10_6 hC_F_sideNorth ok_F_northAt sv_F_39 hH_F_northAt ⟨(by first | assumption | decide), (by first | assumption | decide)⟩ (by decide) hN_F_northAt (by rw [hL_F_northAt]; exact Nat.le_of_ble_eq_true rfl) (Nat.le_of_ble_eq_true rfl) (s_F_northAt hs hj (nx_lt h12)) ?_
  refine aw_i2l k10_9 ?_
  refine aw_aload_n k10_10 rfl ?_
  refine aw_iload_n k10_11 rfl ?_
  refine aw_callV1 k10_12 hC_F_sideNorth ok_F_northAt sv_F_39 hH_F_northAt ⟨(by first | assumption | decide), (by first | assumption | decide)⟩ (by decide) hN_F_northAt (by rw [hL_F_northAt]; exact Nat.le_of_ble_eq_true rfl) (Nat.le_of_ble_eq_true rfl) (s_F_northAt hs hj hi) ?_
  refine aw_i2l k10_15 ?_
  refine aw_lsub k10_16 ?_
  refine aw_lreturn k10_17 hR_F_sideNorth ?_ ?_
  all_goals first | rfl | exact Or.inl rfl | exact Or.inr rfl | assumption | (simp_all; done) | ((repeat' split) <;> first | rfl | (simp only [Int32.lt_iff_toInt_lt, Int32.le_iff_toInt_le, Int64.lt_iff_toInt_lt, Int64.le_iff_toInt_le] at *; omega) | (simp_all; done))
def trn (M : mM) (s j m i : Nat) : Int64 := sdE M s j m (pv m i) * sdN M s j m i - sdN M s j m (pv m i) * sdE M s j m i
theorem s_F_turnAt {d s j m i : Nat} {M : mM} (h : FdM M s j m) (hi : i < m) : CT iF_turnAt (d + 3) [vR 0 s j, vI (nI i)] M (.inl (some (vL (trn M s j m i)))) M 0 := by
  obtain ⟨hs, hj, hm, h12⟩ := id h
  have hi' : i < 12 := by omega
  refine ct_go hL_F_turnAt rfl ?_
  refine aw_aload_n k11_0 rfl ?_
  refine aw_iload_n k11_1 rfl ?_
  refine aw_callV1 k11_2 hC_F_turnAt ok_F_cornerBefore sv_F_42 hH_F_cornerBefore ⟨(by first | assumption | decide), (by first | assumption | decide)⟩ (by decide) hN_F_cornerBefore (by rw [hL_F_cornerBefore]; exact Nat.le_of_ble_eq_true rfl) (Nat.le_of_ble_eq_true rfl) (s_F_cornerBefore h hi' (by omega)) ?_
  refine aw_istore_n k11_5 (Nat.le_of_ble_eq_true rfl) rfl ?_
  refine aw_aload_n k11_6 rfl ?_
  refine aw_iload_n k11_7 rfl ?_
  refine aw_callV1 k11_8 hC_F_turnAt ok_F_sideEast sv_F_45 hH_F_sideEast ⟨(by first | assumption | decide), (by first | assumption | decide)⟩ (by decide) hN_F_sideEast (by rw [hL_F_sideEast]; exact Nat.le_of_ble_eq_true rfl) (Nat.le_of_ble_eq_true rfl) (s_F_sideEast h (pv_lt h12 hi')) ?_
  refine aw_aload_n k11_11 rfl ?_
  refine aw_iload_n k11_12 rfl ?_
  refine aw_callV1 k11_13 hC_F_turnAt ok_F_sideNorth sv_F_49 hH_F_sideNorth ⟨(by first | assumption | decide), (by first | assumption | decide)⟩ (by decide) hN_F_sideNorth (by rw [hL_F_sideNorth]; exact Nat.le_of_ble_eq_true rfl) (Nat.le_of_ble_eq_true rfl) (s_F_sideNorth h hi') ?_
  refine aw_lmul k11_16 ?_
  refine aw_aload_n k11_17 rfl ?_
  refine aw_iload_n k11_18 rfl ?_
  refine aw_callV1 k11_19 hC_F_turnAt ok_F_sideNorth sv_F_49 hH_F_sideNorth ⟨(by first | assumption | decide), (by first | assumption | decide)⟩ (by decide) hN_F_sideNorth (by rw [hL_F_sideNorth]; exact Nat.le_of_ble_eq_true rfl) (Nat.le_of_ble_eq_true rfl) (s_F_sideNorth h (pv_lt h12 hi')) ?_
  refine aw_aload_n k11_22 rfl ?_
  refine aw_iload_n k11_23 rfl ?_
  refine aw_callV1 k11_24 hC_F_turnAt ok_F_sideEast sv_F_45 hH_F_sideEast ⟨(by first | assumption | decide), (by first | assumption | decide)⟩ (by decide) hN_F_sideEast (by rw [hL_F_sideEast]; exact Nat.le_of_ble_eq_true rfl) (Nat.le_of_ble_eq_true rfl) (s_F_sideEast h hi') ?_
  refine aw_lmul k11_27 ?_
  refine aw_lsub k11_28 ?_
  refine aw_lreturn k11_29 hR_F_turnAt ?_ ?_
  all_goals first | rfl | exact Or.inl rfl | exact Or.inr rfl | assumption | (simp_all; done) | ((repeat' split) <;> first | rfl | (simp only [Int32.lt_iff_toInt_lt, Int32.le_iff_toInt_le, Int64.lt_iff_toInt_lt, Int64.le_iff_toInt_le] at *; omega) | (simp_all; done))
def cntB (p : Nat → Bool) : Nat → Nat
  | 0 => 0
  | n + 1 => cntB p n + (if p n = true then 1 else 0)
theorem cntB_le (p : Nat → Bool) (n : Nat) : cntB p n ≤ n := by
  induction n with
  | zero => exact Nat.le_refl 0
  | succ n ih =>
    show cntB p n + _ ≤ n + 1
    split <;> omega
theorem cntB_t {p : Nat → Bool} {n : Nat} (h : p n = true) : nI (cntB p n) + 1 = nI (cntB p (n + 1)) := by
  rw [nI_1]
  show _ = nI (cntB p n + _)
  rw [if_pos h]
theorem cntB_f {p : Nat → Bool} {n : Nat} (h : p n = false) : nI (cntB p n) = nI (cntB p (n + 1)) := by
  show _ = nI (cntB p n + _)
  rw [if_neg (by rw [h]; decide)]
  rfl
theorem s_F_turnsToTheLeft {d s j m : Nat} {M : mM} (h : FdM M s j m) : CT iF_turnsToTheLeft (d + 4) [vR 0 s j] M (.inl (some (vI (nI (cntB (fun i => decide (0 < trn M s j m i)) m))))) M 0 := by
  obtain ⟨hs, hj, hm, h12⟩ := id h
  refine ct_go hL_F_turnsToTheLeft rfl ?_
  have loop : ∀ (k i : Nat) (t : Int32), i + k = m → t = nI (cntB (fun i => decide (0 < trn M s j m i)) i) → AW iF_turnsToTheLeft (d + 4) 4 [some (vR 0 s j), some (vI t), some (vI (nI i))] [] M (.inl (some (vI (nI (cntB (fun i => decide (0 < trn M s j m i)) m))))) M 0 := by
    intro k
    induction k with
    | zero =>
      intro i t hi ht
      obtain rfl : i = m := by omega
      refine aw_iload_n k12_4 rfl ?_
      refine aw_aload_n k12_5 rfl ?_
      refine aw_getI k12_6 hC_F_turnsToTheLeft fs_F_24 (by decide) ⟨(by first | assumption | decide), (by first | assumption | decide)⟩ rfl ?_
      rw [hm]
      refine aw_icmp_ge 31 k12_9 (by decide) (fun c_9 => ?_) (fun c_9 => ?_)
      · refine aw_iload_n k12_31 rfl ?_
        refine aw_ireturn k12_32 hR_F_turnsToTheLeft ?_ ?_
        exact ht; rfl
      · exact absurd (nI_leI (by omega) (by omega) |>.mpr (Nat.le_refl i)) c_9
    | succ k ih =>
      intro i t hi ht
      refine aw_iload_n k12_4 rfl ?_
      refine aw_aload_n k12_5 rfl ?_
      refine aw_getI k12_6 hC_F_turnsToTheLeft fs_F_24 (by decide) ⟨(by first | assumption | decide), (by first | assumption | decide)⟩ rfl ?_
      rw [hm]
      refine aw_icmp_ge 31 k12_9 (by decide) (fun c_9 => ?_) (fun c_9 => ?_)
      · exact absurd (nI_le_of c_9) (by omega)
      · refine aw_aload_n k12_12 rfl ?_
        refine aw_iload_n k12_13 rfl ?_
        refine aw_callV1 k12_14 hC_F_turnsToTheLeft ok_F_turnAt sv_F_52 hH_F_turnAt ⟨(by first | assumption | decide), (by first | assumption | decide)⟩ (by decide) hN_F_turnAt (by rw [hL_F_turnAt]; exact Nat.le_of_ble_eq_true rfl) (Nat.le_of_ble_eq_true rfl) (s_F_turnAt h (by omega)) ?_
        refine aw_lconst (v := 0) k12_17 (by decide) ?_
        refine aw_lcmp_le 25 k12_18 k12_19 (by decide) (fun c_18 => ?_) (fun c_18 => ?_)
        · refine aw_iinc (y := 1) k12_25 rfl (by decide) rfl ?_
          rw [nI_1]
          refine aw_goto (t := 4) k12_28 (by decide) ?_
          refine ih (i + 1) _ (by omega) ?_
          rw [ht]
          first | exact cntB_f (decide_eq_false (Int64.not_lt.mpr c_18)) | exact cntB_t (decide_eq_true (Int64.not_le.mp c_18))
        · refine aw_iinc (y := 1) k12_22 rfl (by decide) rfl ?_
          refine aw_iinc (y := 1) k12_25 rfl (by decide) rfl ?_
          rw [nI_1]
          refine aw_goto (t := 4) k12_28 (by decide) ?_
          refine ih (i + 1) _ (by omega) ?_
          rw [ht]
          first | exact cntB_f (decide_eq_false (Int64.not_lt.mpr c_18)) | exact cntB_t (decide_eq_true (Int64.not_le.mp c_18))
  refine aw_iconst (v := 0) k12_0 (by decide) ?_
  refine aw_istore_n k12_1 (Nat.le_of_ble_eq_true rfl) rfl ?_
  refine aw_iconst (v := 0) k12_2 (by decide) ?_
  refine aw_istore_n k12_3 (Nat.le_of_ble_eq_true rfl) rfl ?_
  exact loop m 0 _ (by omega) rfl
theorem s_F_turnsToTheRight {d s j m : Nat} {M : mM} (h : FdM M s j m) : CT iF_turnsToTheRight (d + 4) [vR 0 s j] M (.inl (some (vI (nI (cntB (fun i => decide (trn M s j m i < 0)) m))))) M 0 := by
  obtain ⟨hs, hj, hm, h12⟩ := id h
  refine ct_go hL_F_turnsToTheRight rfl ?_
  have loop : ∀ (k i : Nat) (t : Int32), i + k = m → t = nI (cntB (fun i => decide (trn M s j m i < 0)) i) → AW iF_turnsToTheRight (d + 4) 4 [some (vR 0 s j), some (vI t), some (vI (nI i))] [] M (.inl (some (vI (nI (cntB (fun i => decide (trn M s j m i < 0)) m))))) M 0 := by
    intro k
    induction k with
    | zero =>
      intro i t hi ht
      obtain rfl : i = m := by omega
      refine aw_iload_n k13_4 rfl ?_
      refine aw_aload_n k13_5 rfl ?_
      refine aw_getI k13_6 hC_F_turnsToTheRight fs_F_24 (by decide) ⟨(by first | assumption | decide), (by first | assumption | decide)⟩ rfl ?_
      rw [hm]
      refine aw_icmp_ge 31 k13_9 (by decide) (fun c_9 => ?_) (fun c_9 => ?_)
      · refine aw_iload_n k13_31 rfl ?_
        refine aw_ireturn k13_32 hR_F_turnsToTheRight ?_ ?_
        exact ht; rfl
      · exact absurd (nI_leI (by omega) (by omega) |>.mpr (Nat.le_refl i)) c_9
    | succ k ih =>
      intro i t hi ht
      refine aw_iload_n k13_4 rfl ?_
      refine aw_aload_n k13_5 rfl ?_
      refine aw_getI k13_6 hC_F_turnsToTheRight fs_F_24 (by decide) ⟨(by first | assumption | decide), (by first | assumption | decide)⟩ rfl ?_
      rw [hm]
      refine aw_icmp_ge 31 k13_9 (by decide) (fun c_9 => ?_) (fun c_9 => ?_)
      · exact absurd (nI_le_of c_9) (by omega)
      · refine aw_aload_n k13_12 rfl ?_
        refine aw_iload_n k13_13 rfl ?_
        refine aw_callV1 k13_14 hC_F_turnsToTheRight ok_F_turnAt sv_F_52 hH_F_turnAt ⟨(by first | assumption | decide), (by first | assumption | decide)⟩ (by decide) hN_F_turnAt (by rw [hL_F_turnAt]; exact Nat.le_of_ble_eq_true rfl) (Nat.le_of_ble_eq_true rfl) (s_F_turnAt h (by omega)) ?_
        refine aw_lconst (v := 0) k13_17 (by decide) ?_
        refine aw_lcmp_ge 25 k13_18 k13_19 (by decide) (fun c_18 => ?_) (fun c_18 => ?_)
        · refine aw_iinc (y := 1) k13_25 rfl (by decide) rfl ?_
          rw [nI_1]
          refine aw_goto (t := 4) k13_28 (by decide) ?_
          refine ih (i + 1) _ (by omega) ?_
          rw [ht]
          first | exact cntB_f (decide_eq_false (Int64.not_lt.mpr c_18)) | exact cntB_t (decide_eq_true (Int64.not_le.mp c_18))
        · refine aw_iinc (y := 1) k13_22 rfl (by decide) rfl ?_
          refine aw_iinc (y := 1) k13_25 rfl (by decide) rfl ?_
          rw [nI_1]
          refine aw_goto (t := 4) k13_28 (by decide) ?_
          refine ih (i + 1) _ (by omega) ?_
          rw [ht]
          first | exact cntB_f (decide_eq_false (Int64.not_lt.mpr c_18)) | exact cntB_t (decide_eq_true (Int64.not_le.mp c_18))
  refine aw_iconst (v := 0) k13_0 (by decide) ?_
  refine aw_istore_n k13_1 (Nat.le_of_ble_eq_true rfl) rfl ?_
  refine aw_iconst (v := 0) k13_2 (by decide) ?_
  refine aw_istore_n k13_3 (Nat.le_of_ble_eq_true rfl) rfl ?_
  exact loop m 0 _ (by omega) rfl
/-! the line to the east out of a point -/
def metV (X Y : Nat → Int32) (east north : Int32) (a b : Nat) : Bool :=
  if decide (north < Y a) = decide (north < Y b) then false
  else
    let u := if north < Y a then a else b
    let l := if u = a then b else a
    decide (0 < ((X l).toInt64 - east.toInt64) * ((Y u).toInt64 - (Y l).toInt64) + ((X u).toInt64 - (X l).toInt64) * (north.toInt64 - (Y l).toInt64))
def bI (b : Bool) : Int32 := if b = true then 1 else 0
theorem bI_inj {a b : Bool} (h : bI a = bI b) : a = b := by cases a <;> cases b <;> first | rfl | exact absurd h (by decide)
theorem bI_t {b : Bool} (h : b = true) : (1 : Int32) = bI b := by rw [h]; rfl
theorem bI_f {b : Bool} (h : b = false) : (0 : Int32) = bI b := by rw [h]; rfl
theorem s_F_isMetFrom {d s j a b : Nat} {M : mM} {x y : Int32} (hs : s < 7) (hj : j < 6) (ha : a < 12) (hb : b < 12) : CT iF_isMetFrom (d + 2) [vR 0 s j, vI x, vI y, vI (nI a), vI (nI b)] M (.inl (some (vI (bI (metV (M (8, s, j)) (M (9, s, j)) x y a b))))) M 0 := by
  refine ct_go hL_F_isMetFrom rfl ?_
  have fin : ∀ (u l : Nat), u < 12 → l < 12 → metV (M (8, s, j)) (M (9, s, j)) x y a b = decide (0 < ((M (8, s, j) l).toInt64 - x.toInt64) * ((M (9, s, j) u).toInt64 - (M (9, s, j) l).toInt64) + ((M (8, s, j) u).toInt64 - (M (8, s, j) l).toInt64) * (y.toInt64 - (M (9, s, j) l).toInt64)) →
      AW iF_isMetFrom (d + 2) 65 [some (vR 0 s j), some (vI x), some (vI y), some (vI (nI a)), some (vI (nI b)), some (vI (nI u)), some (vI (nI l)), none, none, none, none, none, none, none, none] [] M (.inl (some (vI (bI (metV (M (8, s, j)) (M (9, s, j)) x y a b))))) M 0 := by
    intro u l hu hl he
    rw [he]
    refine aw_aload_n k15_65 rfl ?_
    refine aw_iload k15_66 rfl ?_
    refine aw_callV1 k15_68 hC_F_isMetFrom ok_F_northAt sv_F_39 hH_F_northAt ⟨(by first | assumption | decide), (by first | assumption | decide)⟩ (by decide) hN_F_northAt (by rw [hL_F_northAt]; exact Nat.le_of_ble_eq_true rfl) (Nat.le_of_ble_eq_true rfl) (s_F_northAt hs hj hu) ?_
    refine aw_i2l k15_71 ?_
    refine aw_aload_n k15_72 rfl ?_
    refine aw_iload k15_73 rfl ?_
    refine aw_callV1 k15_75 hC_F_isMetFrom ok_F_northAt sv_F_39 hH_F_northAt ⟨(by first | assumption | decide), (by first | assumption | decide)⟩ (by decide) hN_F_northAt (by rw [hL_F_northAt]; exact Nat.le_of_ble_eq_true rfl) (Nat.le_of_ble_eq_true rfl) (s_F_northAt hs hj hl) ?_
    refine aw_i2l k15_78 ?_
    refine aw_lsub k15_79 ?_
    refine aw_lstore k15_80 (Nat.le_of_ble_eq_true rfl) rfl ?_
    refine aw_iload_n k15_82 rfl ?_
    refine aw_i2l k15_83 ?_
    refine aw_aload_n k15_84 rfl ?_
    refine aw_iload k15_85 rfl ?_
    refine aw_callV1 k15_87 hC_F_isMetFrom ok_F_northAt sv_F_39 hH_F_northAt ⟨(by first | assumption | decide), (by first | assumption | decide)⟩ (by decide) hN_F_northAt (by rw [hL_F_northAt]; exact Nat.le_of_ble_eq_true rfl) (Nat.le_of_ble_eq_true rfl) (s_F_northAt hs hj hl) ?_
    refine aw_i2l k15_90 ?_
    refine aw_lsub k15_91 ?_
    refine aw_lstore k15_92 (Nat.le_of_ble_eq_true rfl) rfl ?_
    refine aw_aload_n k15_94 rfl ?_
    refine aw_iload k15_95 rfl ?_
    refine aw_callV1 k15_97 hC_F_isMetFrom ok_F_eastAt sv_F_36 hH_F_eastAt ⟨(by first | assumption | decide), (by first | assumption | decide)⟩ (by decide) hN_F_eastAt (by rw [hL_F_eastAt]; exact Nat.le_of_ble_eq_true rfl) (Nat.le_of_ble_eq_true rfl) (s_F_eastAt hs hj hu) ?_
    refine aw_i2l k15_100 ?_
    refine aw_aload_n k15_101 rfl ?_
    refine aw_iload k15_102 rfl ?_
    refine aw_callV1 k15_104 hC_F_isMetFrom ok_F_eastAt sv_F_36 hH_F_eastAt ⟨(by first | assumption | decide), (by first | assumption | decide)⟩ (by decide) hN_F_eastAt (by rw [hL_F_eastAt]; exact Nat.le_of_ble_eq_true rfl) (Nat.le_of_ble_eq_true rfl) (s_F_eastAt hs hj hl) ?_
    refine aw_i2l k15_107 ?_
    refine aw_lsub k15_108 ?_
    refine aw_lstore k15_109 (Nat.le_of_ble_eq_true rfl) rfl ?_
    refine aw_aload_n k15_111 rfl ?_
    refine aw_iload k15_112 rfl ?_
    refine aw_callV1 k15_114 hC_F_isMetFrom ok_F_eastAt sv_F_36 hH_F_eastAt ⟨(by first | assumption | decide), (by first | assumption | decide)⟩ (by decide) hN_F_eastAt (by rw [hL_F_eastAt]; exact Nat.le_of_ble_eq_true rfl) (Nat.le_of_ble_eq_true rfl) (s_F_eastAt hs hj hl) ?_
    refine aw_i2l k15_117 ?_
    refine aw_iload_n k15_118 rfl ?_
    refine aw_i2l k15_119 ?_
    refine aw_lsub k15_120 ?_
    refine aw_lstore k15_121 (Nat.le_of_ble_eq_true rfl) rfl ?_
    refine aw_lload k15_123 rfl ?_
    refine aw_lload k15_125 rfl ?_
    refine aw_lmul k15_127 ?_
    refine aw_lload k15_128 rfl ?_
    refine aw_lload k15_130 rfl ?_
    refine aw_lmul k15_132 ?_
    refine aw_ladd k15_133 ?_
    refine aw_lconst (v := 0) k15_134 (by decide) ?_
    refine aw_lcmp_le 143 k15_135 k15_136 (by decide) (fun c_135 => ?_) (fun c_135 => ?_)
    · refine aw_iconst (v := 0) k15_143 (by decide) ?_
      refine aw_zreturn k15_144 hR_F_isMetFrom ?_ ?_ ?_
      · first | exact Or.inl rfl | exact Or.inr rfl
      · first | exact bI_t (decide_eq_true (Int64.not_le.mp c_135)) | exact bI_f (decide_eq_false (Int64.not_lt.mpr c_135))
      · rfl
    · refine aw_iconst (v := 1) k15_139 (by decide) ?_
      refine aw_goto (t := 144) k15_140 (by decide) ?_
      refine aw_zreturn k15_144 hR_F_isMetFrom ?_ ?_ ?_
      · first | exact Or.inl rfl | exact Or.inr rfl
      · first | exact bI_t (decide_eq_true (Int64.not_le.mp c_135)) | exact bI_f (decide_eq_false (Int64.not_lt.mpr c_135))
      · rfl
  have mid : ∀ (u : Nat), (u = if y < M (9, s, j) a then a else b) → (decide (y < M (9, s, j) a) = decide (y < M (9, s, j) b) → False) →
      AW iF_isMetFrom (d + 2) 49 [some (vR 0 s j), some (vI x), some (vI y), some (vI (nI a)), some (vI (nI b)), none, none, none, none, none, none, none, none, none, none] [vI (nI u)] M (.inl (some (vI (bI (metV (M (8, s, j)) (M (9, s, j)) x y a b))))) M 0 := by
    intro u hu hne
    have hu12 : u < 12 := by rw [hu]; split <;> assumption
    have hl12 : (if u = a then b else a) < 12 := by split <;> assumption
    have he := fin u (if u = a then b else a) hu12 hl12 (by unfold metV; rw [if_neg hne]; dsimp only; rw [← hu])
    refine aw_istore k15_49 (Nat.le_of_ble_eq_true rfl) rfl ?_
    refine aw_iload k15_51 rfl ?_
    refine aw_iload_n k15_53 rfl ?_
    refine aw_icmp_ne 62 k15_54 (by decide) (fun c_54 => ?_) (fun c_54 => ?_)
    · first | have n_54 := nI_le_of c_54 | have n_54 := nI_nle_of c_54 | have n_54 := nI_lt_of c_54 | have n_54 := nI_nlt_of c_54 | have n_54 := nI_eq_of c_54 | have n_54 := nI_ne_of c_54 | skip
      refine aw_iload_n k15_62 rfl ?_
      first
        | (have e : (if u = a then b else a) = b := if_pos (by omega)
           rw [e] at he
           refine aw_istore k15_63 (Nat.le_of_ble_eq_true rfl) rfl ?_
           exact he)
        | (have e : (if u = a then b else a) = a := if_neg (by omega)
           rw [e] at he
           refine aw_istore k15_63 (Nat.le_of_ble_eq_true rfl) rfl ?_
           exact he)
    · first | have n_54 := nI_le_of c_54 | have n_54 := nI_nle_of c_54 | have n_54 := nI_lt_of c_54 | have n_54 := nI_nlt_of c_54 | have n_54 := nI_eq_of c_54 | have n_54 := nI_ne_of c_54 | skip
      refine aw_iload k15_57 rfl ?_
      refine aw_goto (t := 63) k15_59 (by decide) ?_
      first
        | (have e : (if u = a then b else a) = b := if_pos (by omega)
           rw [e] at he
           refine aw_istore k15_63 (Nat.le_of_ble_eq_true rfl) rfl ?_
           exact he)
        | (have e : (if u = a then b else a) = a := if_neg (by omega)
           rw [e] at he
           refine aw_istore k15_63 (Nat.le_of_ble_eq_true rfl) rfl ?_
           exact he)
  have at29 : AW iF_isMetFrom (d + 2) 29 [some (vR 0 s j), some (vI x), some (vI y), some (vI (nI a)), some (vI (nI b)), none, none, none, none, none, none, none, none, none, none] [vI (bI (decide (y < M (9, s, j) b))), vI (bI (decide (y < M (9, s, j) a)))] M (.inl (some (vI (bI (metV (M (8, s, j)) (M (9, s, j)) x y a b))))) M 0 := by
    clear fin
    refine aw_icmp_ne 34 k15_29 (by decide) (fun c_29 => ?_) (fun c_29 => ?_)
    · refine aw_aload_n k15_34 rfl ?_
      refine aw_iload_n k15_35 rfl ?_
      refine aw_callV1 k15_36 hC_F_isMetFrom ok_F_northAt sv_F_39 hH_F_northAt ⟨(by first | assumption | decide), (by first | assumption | decide)⟩ (by decide) hN_F_northAt (by rw [hL_F_northAt]; exact Nat.le_of_ble_eq_true rfl) (Nat.le_of_ble_eq_true rfl) (s_F_northAt hs hj ha) ?_
      refine aw_iload_n k15_39 rfl ?_
      refine aw_icmp_le 47 k15_40 (by decide) (fun c_40 => ?_) (fun c_40 => ?_)
      · refine aw_iload k15_47 rfl ?_
        refine mid _ ?_ (fun q => c_29 (by rw [q]))
        first | exact (if_neg (Int32.not_lt.mpr c_40)).symm | exact (if_pos (Int32.not_le.mp c_40)).symm
      · refine aw_iload_n k15_43 rfl ?_
        refine aw_goto (t := 49) k15_44 (by decide) ?_
        refine mid _ ?_ (fun q => c_29 (by rw [q]))
        first | exact (if_neg (Int32.not_lt.mpr c_40)).symm | exact (if_pos (Int32.not_le.mp c_40)).symm
    · refine aw_iconst (v := 0) k15_32 (by decide) ?_
      refine aw_zreturn k15_33 hR_F_isMetFrom ?_ ?_ ?_
      · exact Or.inl rfl
      · refine bI_f ?_
        unfold metV
        exact if_pos (bI_inj c_29)
      · rfl
  have at14 : AW iF_isMetFrom (d + 2) 14 [some (vR 0 s j), some (vI x), some (vI y), some (vI (nI a)), some (vI (nI b)), none, none, none, none, none, none, none, none, none, none] [vI (bI (decide (y < M (9, s, j) a)))] M (.inl (some (vI (bI (metV (M (8, s, j)) (M (9, s, j)) x y a b))))) M 0 := by
    clear fin mid
    refine aw_aload_n k15_14 rfl ?_
    refine aw_iload k15_15 rfl ?_
    refine aw_callV1 k15_17 hC_F_isMetFrom ok_F_northAt sv_F_39 hH_F_northAt ⟨(by first | assumption | decide), (by first | assumption | decide)⟩ (by decide) hN_F_northAt (by rw [hL_F_northAt]; exact Nat.le_of_ble_eq_true rfl) (Nat.le_of_ble_eq_true rfl) (s_F_northAt hs hj hb) ?_
    refine aw_iload_n k15_20 rfl ?_
    refine aw_icmp_le 28 k15_21 (by decide) (fun c_21 => ?_) (fun c_21 => ?_)
    · refine aw_iconst (v := 0) k15_28 (by decide) ?_
      first | (rw [bI_t (b := decide (y < M (9, s, j) b)) (decide_eq_true (Int32.not_le.mp c_21))]; exact at29) | (rw [bI_f (b := decide (y < M (9, s, j) b)) (decide_eq_false (Int32.not_lt.mpr c_21))]; exact at29)
    · refine aw_iconst (v := 1) k15_24 (by decide) ?_
      refine aw_goto (t := 29) k15_25 (by decide) ?_
      first | (rw [bI_t (b := decide (y < M (9, s, j) b)) (decide_eq_true (Int32.not_le.mp c_21))]; exact at29) | (rw [bI_f (b := decide (y < M (9, s, j) b)) (decide_eq_false (Int32.not_lt.mpr c_21))]; exact at29)
  clear fin mid at29
  refine aw_aload_n k15_0 rfl ?_
  refine aw_iload_n k15_1 rfl ?_
  refine aw_callV1 k15_2 hC_F_isMetFrom ok_F_northAt sv_F_39 hH_F_northAt ⟨(by first | assumption | decide), (by first | assumption | decide)⟩ (by decide) hN_F_northAt (by rw [hL_F_northAt]; exact Nat.le_of_ble_eq_true rfl) (Nat.le_of_ble_eq_true rfl) (s_F_northAt hs hj ha) ?_
  refine aw_iload_n k15_5 rfl ?_
  refine aw_icmp_le 13 k15_6 (by decide) (fun c_6 => ?_) (fun c_6 => ?_)
  · refine aw_iconst (v := 0) k15_13 (by decide) ?_
    first | (rw [bI_t (b := decide (y < M (9, s, j) a)) (decide_eq_true (Int32.not_le.mp c_6))]; exact at14) | (rw [bI_f (b := decide (y < M (9, s, j) a)) (decide_eq_false (Int32.not_lt.mpr c_6))]; exact at14)
  · refine aw_iconst (v := 1) k15_9 (by decide) ?_
    refine aw_goto (t := 14) k15_10 (by decide) ?_
    first | (rw [bI_t (b := decide (y < M (9, s, j) a)) (decide_eq_true (Int32.not_le.mp c_6))]; exact at14) | (rw [bI_f (b := decide (y < M (9, s, j) a)) (decide_eq_false (Int32.not_lt.mpr c_6))]; exact at14)
