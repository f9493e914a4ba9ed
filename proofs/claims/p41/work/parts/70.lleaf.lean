/-! THE LAW'S LEAVES -/
theorem c_low {d : Nat} {M : mM} {v n : Int32} (hn : 0 < n.toInt) : CT iL_low d [vI v, vI n] M (.inl (some (vI (lowV v n)))) M 0 := by
  have h0 : ¬ n = 0 := fun e => by rw [e] at hn; exact absurd hn (by decide)
  refine ct_go hL_L_low rfl ?_
  refine aw_iload_n k97_0 rfl ?_
  refine aw_ldc k97_1 hC_L_low ci_L_8 ?_
  refine aw_iand k97_3 ?_
  refine aw_iload_n k97_4 rfl ?_
  refine aw_irem k97_5 h0 ?_
  refine aw_ireturn k97_6 hR_L_low ?_ ?_
  all_goals rfl
theorem c_span {d : Nat} {M : mM} {v s : Int32} (hn : 0 < (2 * s + 1).toInt) : CT iL_span (d + 1) [vI v, vI s] M (.inl (some (vI (spanV v s)))) M 0 := by
  refine ct_go hL_L_span rfl ?_
  refine aw_iload_n k98_0 rfl ?_
  refine aw_iconst (v := 2) k98_1 (by decide) ?_
  refine aw_iload_n k98_2 rfl ?_
  refine aw_imul k98_3 ?_
  refine aw_iconst (v := 1) k98_4 (by decide) ?_
  refine aw_iadd k98_5 ?_
  refine aw_callS2 k98_6 hC_L_span ok_L_low ss_L_9 hH_L_low (by rw [hL_L_low]; exact Nat.le_of_ble_eq_true rfl) (Nat.le_of_ble_eq_true rfl) (c_low hn) ?_
  refine aw_iload_n k98_9 rfl ?_
  refine aw_isub k98_10 ?_
  refine aw_ireturn k98_11 hR_L_span ?_ ?_
  all_goals rfl
theorem lt_le {a b : Int32} (h : a < b) : a ≤ b := by
  rw [Int32.le_iff_toInt_le]
  rw [Int32.lt_iff_toInt_lt] at h
  omega
theorem min_c {a b : Int32} (h : b ≤ a) : b = if b < a then b else a := by
  split
  · rfl
  · rename_i g
    rw [Int32.lt_iff_toInt_lt] at g
    rw [Int32.le_iff_toInt_le] at h
    exact i_eq (by omega)
theorem max_c {a b : Int32} (h : a ≤ b) : b = if a < b then b else a := by
  split
  · rfl
  · rename_i g
    rw [Int32.lt_iff_toInt_lt] at g
    rw [Int32.le_iff_toInt_le] at h
    exact i_eq (by omega)
theorem c_least {d : Nat} {M : mM} {a b : Int32} : CT iL_least d [vI a, vI b] M (.inl (some (vI (if b < a then b else a)))) M 0 := by
  refine ct_go hL_L_least rfl ?_
  have s10 : ∀ w, w = (if b < a then b else a) → AW iL_least d 10 [some (vI a), some (vI b)] [vI w] M (.inl (some (vI (if b < a then b else a)))) M 0 := by
    intro w e
    rw [← e]
    refine aw_ireturn k101_10 hR_L_least ?_ ?_
    all_goals rfl
  refine aw_iload_n k101_0 rfl ?_
  refine aw_iload_n k101_1 rfl ?_
  refine aw_icmp_ge 9 k101_2 (by decide) (fun c_2 => ?_) (fun c_2 => ?_)
  · refine aw_iload_n k101_9 rfl ?_
    first | exact s10 _ (if_neg (fun q => c_2 (lt_le q))).symm | exact s10 _ (min_c c_2)
  · refine aw_iload_n k101_5 rfl ?_
    refine aw_goto (t := 10) k101_6 (by decide) ?_
    first | exact s10 _ (if_neg (fun q => c_2 (lt_le q))).symm | exact s10 _ (min_c c_2)
theorem c_most {d : Nat} {M : mM} {a b : Int32} : CT iL_most d [vI a, vI b] M (.inl (some (vI (if a < b then b else a)))) M 0 := by
  refine ct_go hL_L_most rfl ?_
  have s10 : ∀ w, w = (if a < b then b else a) → AW iL_most d 10 [some (vI a), some (vI b)] [vI w] M (.inl (some (vI (if a < b then b else a)))) M 0 := by
    intro w e
    rw [← e]
    refine aw_ireturn k102_10 hR_L_most ?_ ?_
    all_goals rfl
  refine aw_iload_n k102_0 rfl ?_
  refine aw_iload_n k102_1 rfl ?_
  refine aw_icmp_le 9 k102_2 (by decide) (fun c_2 => ?_) (fun c_2 => ?_)
  · refine aw_iload_n k102_9 rfl ?_
    first | exact s10 _ (if_neg (fun q => c_2 (lt_le q))).symm | exact s10 _ (max_c c_2)
  · refine aw_iload_n k102_5 rfl ?_
    refine aw_goto (t := 10) k102_6 (by decide) ?_
    first | exact s10 _ (if_neg (fun q => c_2 (lt_le q))).symm | exact s10 _ (max_c c_2)
theorem c_cell {d k LS : Nat} {M : mM} (hM : M (16, 0, 0) 0 = nI LS) (hL : LS < 2 ^ 31) (hk : k < 2 ^ 31) : ∃ x, CT iL_cell d [vR 15 0 0, vI (nI k)] M (.inl (some (vI x))) M 0 := by
  have ec : (nI k).toNatClampNeg = k := nI_clamp hk
  by_cases h : k < LS
  · refine ⟨M (15, 0, 0) k, ct_go hL_L_cell rfl ?_⟩
    have hlt : nI k < nI LS := (nI_ltI hk hL).mpr h
    have h0 : (0 : Int32) ≤ nI k := i_ge0 (by rw [nI_i hk]; omega)
    refine aw_iload_n k96_0 rfl ?_
    refine aw_aload_n k96_1 rfl ?_
    refine aw_slen k96_2 ?_
    try simp only [ec, hM]
    refine aw_icmp_ge 12 k96_3 (by decide) (fun c_3 => ?_) (fun c_3 => ?_)
    · exact absurd hlt (Int32.not_lt.mpr c_3)
    · refine aw_aload_n k96_6 rfl ?_
      refine aw_iload_n k96_7 rfl ?_
      refine aw_sload k96_8 h0 (by rw [hM]; exact hlt) ?_
      try simp only [ec, hM]
      refine aw_goto (t := 20) k96_9 (by decide) ?_
      refine aw_ireturn k96_20 hR_L_cell ?_ ?_
      all_goals rfl
  · refine ⟨40503 * nI k + 977, ct_go hL_L_cell rfl ?_⟩
    have hge : ¬ nI k < nI LS := fun q => h ((nI_ltI hk hL).mp q)
    refine aw_iload_n k96_0 rfl ?_
    refine aw_aload_n k96_1 rfl ?_
    refine aw_slen k96_2 ?_
    try simp only [ec, hM]
    refine aw_icmp_ge 12 k96_3 (by decide) (fun c_3 => ?_) (fun c_3 => ?_)
    · refine aw_ldc k96_12 hC_L_cell ci_L_7 ?_
      refine aw_iload_n k96_14 rfl ?_
      refine aw_imul k96_15 ?_
      refine aw_sipush (v := 977) k96_16 (by decide) ?_
      refine aw_iadd k96_19 ?_
      refine aw_ireturn k96_20 hR_L_cell ?_ ?_
      all_goals rfl
    · exact absurd (Int32.not_le.mp c_3) hge
theorem par_0 : ∀ b : Nat, b ≤ 12 → b % 2 = 0 → nI b - nI b / 2 * 2 = 0 := by
  intro b hb
  have : ∀ b < 13, b % 2 = 0 → nI b - nI b / 2 * 2 = 0 := by decide +kernel
  exact this b (by omega)
