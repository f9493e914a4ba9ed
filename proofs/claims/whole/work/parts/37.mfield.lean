/-! THE MODEL: what it tells of a field -/
theorem tw_sum {X Y : Nat → Int32} {m : Nat} : ∀ n, n ≤ m → 0 < m → sumL (dtw X Y m) n = sumL (fun i => (X i).toInt64 * (Y (nx m i)).toInt64 - (Y i).toInt64 * (X (nx m i)).toInt64) n - (X 0).toInt64 * ((Y (if n < m then n else 0)).toInt64 - (Y 0).toInt64) + (Y 0).toInt64 * ((X (if n < m then n else 0)).toInt64 - (X 0).toInt64) := by
  intro n
  induction n with
  | zero =>
    intro h1 h2
    rw [if_pos h2]
    show (0 : Int64) = 0 - _ + _
    grind
  | succ n ih =>
    intro h1 h2
    have h := ih (by omega) h2
    rw [if_pos (by omega)] at h
    have e : nx m n = if n + 1 < m then n + 1 else 0 := rfl
    show sumL (dtw X Y m) n + dtw X Y m n = (sumL _ n + ((X n).toInt64 * (Y (nx m n)).toInt64 - (Y n).toInt64 * (X (nx m n)).toInt64)) - _ + _
    rw [← e]
    unfold dtw dX
    exact tw_ring (X n).toInt64 (Y n).toInt64 (X (nx m n)).toInt64 (Y (nx m n)).toInt64 (X 0).toInt64 (Y 0).toInt64 _ _ 0 0 h
theorem tw_all {X Y : Nat → Int32} {m : Nat} (h : 0 < m) : sumL (dtw X Y m) m = sumL (fun i => (X i).toInt64 * (Y (nx m i)).toInt64 - (Y i).toInt64 * (X (nx m i)).toInt64) m := by
  rw [tw_sum m (Nat.le_refl m) h, if_neg (Nat.lt_irrefl m)]
  grind
theorem twF_eq {f : Nat → Int32} {i m : Nat} (h : 0 < m) : labs (sumL (dtw (cW f i 0) (cW f i 1) m) m) = twB (blk f i) m := by
  rw [tw_all h, cW0, cW1]
  rfl
theorem s_M_twice {d i m : Nat} {M : mM} (h : FM (M (13, 0, 0)) i m) : CT iM_twice (d + 3) [vR 6 0 0, vI (nI i)] M (.inl (some (vL (twB (blk (M (13, 0, 0)) i) m)))) M 0 := by
  obtain ⟨hi, hm, h0, h12⟩ := id h
  rw [← twF_eq h0]
  refine ct_go hL_M_twice rfl ?_
  have loop : ∀ (k j : Nat) (b : Int64) (z1 z2 : Option mAV), j + k = m → b = sumL (dtw (cW (M (13, 0, 0)) i 0) (cW (M (13, 0, 0)) i 1) m) j → AW iM_twice (d + 3) 5 [some (vR 6 0 0), some (vI (nI i)), some (vL b), none, some (vI (nI j)), z1, none, z2, none] [] M (.inl (some (vL (labs (sumL (dtw (cW (M (13, 0, 0)) i 0) (cW (M (13, 0, 0)) i 1) m) m))))) M 0 := by
    intro k
    induction k with
    | zero =>
      intro j b z1 z2 hj hb
      obtain rfl : j = m := by omega
      subst hb
      refine aw_iload k130_5 rfl ?_
      refine aw_aload_n k130_7 rfl ?_
      refine aw_iload_n k130_8 rfl ?_
      refine aw_callV1 k130_9 hC_M_twice ok_M_corners sv_M_37 hH_M_corners ⟨rfl, rfl⟩ (by decide) hN_M_corners (by rw [hL_M_corners]; exact Nat.le_of_ble_eq_true rfl) (Nat.le_of_ble_eq_true rfl) (s_M_corners hi) ?_
      rw [hm]
      refine aw_icmp_ge 87 k130_12 (by decide) (fun c_12 => ?_) (fun c_12 => ?_)
      · refine aw_lload_n k130_87 rfl ?_
        refine aw_callS1 k130_88 hC_M_twice ok_M_sizeOf ss_M_53 hH_M_sizeOf (by rw [hL_M_sizeOf]; exact Nat.le_of_ble_eq_true rfl) (Nat.le_of_ble_eq_true rfl) s_M_sizeOf ?_
        refine aw_lreturn k130_91 hR_M_twice ?_ ?_
        all_goals first | rfl | exact Or.inl rfl | exact Or.inr rfl | assumption | (simp_all; done) | ((repeat' split) <;> first | rfl | (simp only [Int32.lt_iff_toInt_lt, Int32.le_iff_toInt_le, Int64.lt_iff_toInt_lt, Int64.le_iff_toInt_le] at *; omega) | (simp_all; done))
      · exact absurd (nI_leI (by omega) (by omega) |>.mpr (Nat.le_refl _)) c_12
    | succ k ih =>
      intro j b z1 z2 hj hb
      subst hb
      have hjm : j < m := by omega
      refine aw_iload k130_5 rfl ?_
      refine aw_aload_n k130_7 rfl ?_
      refine aw_iload_n k130_8 rfl ?_
      refine aw_callV1 k130_9 hC_M_twice ok_M_corners sv_M_37 hH_M_corners ⟨rfl, rfl⟩ (by decide) hN_M_corners (by rw [hL_M_corners]; exact Nat.le_of_ble_eq_true rfl) (Nat.le_of_ble_eq_true rfl) (s_M_corners hi) ?_
      rw [hm]
      refine aw_icmp_ge 87 k130_12 (by decide) (fun c_12 => ?_) (fun c_12 => ?_)
      · exact absurd (nI_le_of c_12) (by omega)
      · refine aw_aload_n k130_15 rfl ?_
        refine aw_iload_n k130_16 rfl ?_
        refine aw_iload k130_17 rfl ?_
        refine aw_iconst (v := 0) k130_19 (by decide) ?_
        refine aw_callV3 k130_20 hC_M_twice ok_M_part sv_M_61 hH_M_part ⟨rfl, rfl⟩ (by decide) hN_M_part (by rw [hL_M_part]; exact Nat.le_of_ble_eq_true rfl) (Nat.le_of_ble_eq_true rfl) (p_at (w := 0) h hjm (by decide)) ?_
        refine aw_i2l k130_23 ?_
        refine aw_aload_n k130_24 rfl ?_
        refine aw_iload_n k130_25 rfl ?_
        refine aw_iconst (v := 0) k130_26 (by decide) ?_
        refine aw_iconst (v := 0) k130_27 (by decide) ?_
        refine aw_callV3 k130_28 hC_M_twice ok_M_part sv_M_61 hH_M_part ⟨rfl, rfl⟩ (by decide) hN_M_part (by rw [hL_M_part]; exact Nat.le_of_ble_eq_true rfl) (Nat.le_of_ble_eq_true rfl) (p_at (k := 0) (w := 0) h h0 (by decide)) ?_
        refine aw_i2l k130_31 ?_
        refine aw_lsub k130_32 ?_
        refine aw_lstore k130_33 (Nat.le_of_ble_eq_true rfl) rfl ?_
        refine aw_aload_n k130_35 rfl ?_
        refine aw_iload_n k130_36 rfl ?_
        refine aw_iload k130_37 rfl ?_
        refine aw_iconst (v := 1) k130_39 (by decide) ?_
        refine aw_callV3 k130_40 hC_M_twice ok_M_part sv_M_61 hH_M_part ⟨rfl, rfl⟩ (by decide) hN_M_part (by rw [hL_M_part]; exact Nat.le_of_ble_eq_true rfl) (Nat.le_of_ble_eq_true rfl) (p_at (w := 1) h hjm (by decide)) ?_
        refine aw_i2l k130_43 ?_
        refine aw_aload_n k130_44 rfl ?_
        refine aw_iload_n k130_45 rfl ?_
        refine aw_iconst (v := 0) k130_46 (by decide) ?_
        refine aw_iconst (v := 1) k130_47 (by decide) ?_
        refine aw_callV3 k130_48 hC_M_twice ok_M_part sv_M_61 hH_M_part ⟨rfl, rfl⟩ (by decide) hN_M_part (by rw [hL_M_part]; exact Nat.le_of_ble_eq_true rfl) (Nat.le_of_ble_eq_true rfl) (p_at (k := 0) (w := 1) h h0 (by decide)) ?_
        refine aw_i2l k130_51 ?_
        refine aw_lsub k130_52 ?_
        refine aw_lstore k130_53 (Nat.le_of_ble_eq_true rfl) rfl ?_
        refine aw_lload_n k130_55 rfl ?_
        refine aw_lload k130_56 rfl ?_
        refine aw_aload_n k130_58 rfl ?_
        refine aw_iload_n k130_59 rfl ?_
        refine aw_iload k130_60 rfl ?_
        refine aw_iconst (v := 1) k130_62 (by decide) ?_
        refine aw_callV3 k130_63 hC_M_twice ok_M_change sv_M_65 hH_M_change ⟨rfl, rfl⟩ (by decide) hN_M_change (by rw [hL_M_change]; exact Nat.le_of_ble_eq_true rfl) (Nat.le_of_ble_eq_true rfl) (c_at (w := 1) h hjm (by decide)) ?_
        refine aw_lmul k130_66 ?_
        refine aw_lload k130_67 rfl ?_
        refine aw_aload_n k130_69 rfl ?_
        refine aw_iload_n k130_70 rfl ?_
        refine aw_iload k130_71 rfl ?_
        refine aw_iconst (v := 0) k130_73 (by decide) ?_
        refine aw_callV3 k130_74 hC_M_twice ok_M_change sv_M_65 hH_M_change ⟨rfl, rfl⟩ (by decide) hN_M_change (by rw [hL_M_change]; exact Nat.le_of_ble_eq_true rfl) (Nat.le_of_ble_eq_true rfl) (c_at (w := 0) h hjm (by decide)) ?_
        refine aw_lmul k130_77 ?_
        refine aw_lsub k130_78 ?_
        refine aw_ladd k130_79 ?_
        refine aw_lstore_n k130_80 (Nat.le_of_ble_eq_true rfl) rfl ?_
        refine aw_iinc (y := 1) k130_81 rfl (by decide) rfl ?_
        rw [nI_1]
        refine aw_goto (t := 5) k130_84 (by decide) ?_
        exact ih (j + 1) _ _ _ (by omega) rfl
  refine aw_lconst (v := 0) k130_0 (by decide) ?_
  refine aw_lstore_n k130_1 (Nat.le_of_ble_eq_true rfl) rfl ?_
  refine aw_iconst (v := 0) k130_2 (by decide) ?_
  refine aw_istore k130_3 (Nat.le_of_ble_eq_true rfl) rfl ?_
  exact loop m 0 _ _ _ (by omega) rfl
theorem nI_sub1 {a : Nat} (h : 0 < a) : nI a - 1 = nI (a - 1) := by
  obtain ⟨z, rfl⟩ : ∃ z, a = z + 1 := ⟨a - 1, by omega⟩
  exact nI_pred z
theorem s_M_turn {d i k m : Nat} {M : mM} (h : FM (M (13, 0, 0)) i m) (hk : k < m) : CT iM_turn (d + 3) [vR 6 0 0, vI (nI i), vI (nI k)] M (.inl (some (vL (trG (cW (M (13, 0, 0)) i 0) (cW (M (13, 0, 0)) i 1) m k)))) M 0 := by
  obtain ⟨hi, hm, h0, h12⟩ := id h
  refine ct_go hL_M_turn rfl ?_
  refine aw_iload_n k131_0 rfl ?_
  refine aw_aload_n k131_1 rfl ?_
  refine aw_iload_n k131_2 rfl ?_
  refine aw_callV1 k131_3 hC_M_turn ok_M_corners sv_M_37 hH_M_corners ⟨rfl, rfl⟩ (by decide) hN_M_corners (by rw [hL_M_corners]; exact Nat.le_of_ble_eq_true rfl) (Nat.le_of_ble_eq_true rfl) (s_M_corners hi) ?_
  rw [hm]
  refine aw_iadd k131_6 ?_
  rw [nI_add]
  refine aw_iconst (v := 1) k131_7 (by decide) ?_
  refine aw_isub k131_8 ?_
  rw [nI_sub1 (by omega)]
  refine aw_istore_n k131_9 (Nat.le_of_ble_eq_true rfl) rfl ?_
  refine aw_aload_n k131_10 rfl ?_
  refine aw_iload_n k131_11 rfl ?_
  refine aw_iload_n k131_12 rfl ?_
  refine aw_iconst (v := 0) k131_13 (by decide) ?_
  refine aw_callV3 k131_14 hC_M_turn ok_M_change sv_M_65 hH_M_change ⟨rfl, rfl⟩ (by decide) hN_M_change (by rw [hL_M_change]; exact Nat.le_of_ble_eq_true rfl) (Nat.le_of_ble_eq_true rfl) (c_pv (w := 0) h hk (by decide)) ?_
  refine aw_aload_n k131_17 rfl ?_
  refine aw_iload_n k131_18 rfl ?_
  refine aw_iload_n k131_19 rfl ?_
  refine aw_iconst (v := 1) k131_20 (by decide) ?_
  refine aw_callV3 k131_21 hC_M_turn ok_M_change sv_M_65 hH_M_change ⟨rfl, rfl⟩ (by decide) hN_M_change (by rw [hL_M_change]; exact Nat.le_of_ble_eq_true rfl) (Nat.le_of_ble_eq_true rfl) (c_at (w := 1) h hk (by decide)) ?_
  refine aw_lmul k131_24 ?_
  refine aw_aload_n k131_25 rfl ?_
  refine aw_iload_n k131_26 rfl ?_
  refine aw_iload_n k131_27 rfl ?_
  refine aw_iconst (v := 1) k131_28 (by decide) ?_
  refine aw_callV3 k131_29 hC_M_turn ok_M_change sv_M_65 hH_M_change ⟨rfl, rfl⟩ (by decide) hN_M_change (by rw [hL_M_change]; exact Nat.le_of_ble_eq_true rfl) (Nat.le_of_ble_eq_true rfl) (c_pv (w := 1) h hk (by decide)) ?_
  refine aw_aload_n k131_32 rfl ?_
  refine aw_iload_n k131_33 rfl ?_
  refine aw_iload_n k131_34 rfl ?_
  refine aw_iconst (v := 0) k131_35 (by decide) ?_
  refine aw_callV3 k131_36 hC_M_turn ok_M_change sv_M_65 hH_M_change ⟨rfl, rfl⟩ (by decide) hN_M_change (by rw [hL_M_change]; exact Nat.le_of_ble_eq_true rfl) (Nat.le_of_ble_eq_true rfl) (c_at (w := 0) h hk (by decide)) ?_
  refine aw_lmul k131_39 ?_
  refine aw_lsub k131_40 ?_
  refine aw_lreturn k131_41 hR_M_turn ?_ ?_
  all_goals first | rfl | exact Or.inl rfl | exact Or.inr rfl | assumption | (simp_all; done) | ((repeat' split) <;> first | rfl | (simp only [Int32.lt_iff_toInt_lt, Int32.le_iff_toInt_le, Int64.lt_iff_toInt_lt, Int64.le_iff_toInt_le] at *; omega) | (simp_all; done))
