/-! THE CONSTRUCTORS THAT MAKE ROWS OF NUMBERS -/
def fLs (s j : Nat) : List mRef := [(0, s, j), (8, s, j), (9, s, j)]
def tLs (s : Nat) : List mRef := [(4, s, 0), (7, s, 0), (7, s, 1), (7, s, 2)]
def oLs : List mRef := [(2, 0, 0), (12, 0, 0), (12, 0, 1), (12, 0, 2), (12, 0, 3), (12, 0, 4), (12, 0, 5)]
theorem c_F_init {l : Launch} {D : va_G} {s j : Nat} : nMet l D iF_init 1 0 [.null, .null, .int 0] (0, s, j) (fLs s j) 2 24 := by
  refine nMet_of hp_F_init hH_F_init hR_F_init hn_F_init ?_ (by rw [hL_F_init]; exact Nat.le_refl 1)
  intro p e R s9 m args below meth c h0 A Q hF hin hRc hRs hA hend hS ls hl
  have hx := hF.1
  have hb := hF.2.1
  have hS : nS D A s9.heap s9.heap [] [(h0, .inr (0, [.null, .null, .int 0]))] := hS
  refine lv_aload_n hx hb k0_0.1 rfl (lv_at hl 0 rfl) ?_
  refine n_objInit hF hC_F_init oi_F_init oi_in oi_co (by decide) hl.1 rfl k0_1 ?_
  refine lv_aload_n hx hb k0_4.1 rfl (lv_at hl 0 rfl) ?_
  refine lv_bipush (v := 12) hx hb k0_5.1 (by decide) ?_
  refine n_newa (ty := .int) (N := 12) (a0 := (12, .inl (fun _ => 0))) hF ac9_int rfl (fun _ => rfl) (by decide) (by decide) (by decide) hS hA (by omega) (by omega) k0_7 (fun q1 c1 H hT1 hS => ?_)
  refine n_put (ty := .array .int) 0 hF hC_F_init fs_F_9 (by decide) (by decide) fl_F_9 (fun _ => ⟨hin, rfl⟩) (by decide +kernel) rfl rfl (Nat.le_of_ble_eq_true rfl) rfl hS k0_9 (fun H locs hS => ?_)
  have hS : nS D A s9.heap H locs [(h0, .inr (0, [.ref q1, .null, .int 0])), (q1, .inl (c1, 12, .inl (fun _ => 0)))] := hS
  refine lv_aload_n hx hb k0_12.1 rfl (lv_at hl 0 rfl) ?_
  refine lv_bipush (v := 12) hx hb k0_13.1 (by decide) ?_
  refine n_newa (ty := .int) (N := 12) (a0 := (12, .inl (fun _ => 0))) hF ac9_int rfl (fun _ => rfl) (by decide) (by decide) (by decide) hS hA (by omega) (by omega) k0_15 (fun q2 c2 H hT2 hS => ?_)
  refine n_put (ty := .array .int) 0 hF hC_F_init fs_F_15 (by decide) (by decide) fl_F_15 (fun _ => ⟨hin, rfl⟩) (by decide +kernel) rfl rfl (Nat.le_of_ble_eq_true rfl) rfl hS k0_17 (fun H locs hS => ?_)
  have hS : nS D A s9.heap H locs [(h0, .inr (0, [.ref q1, .ref q2, .int 0])), (q1, .inl (c1, 12, .inl (fun _ => 0))), (q2, .inl (c2, 12, .inl (fun _ => 0)))] := hS
  refine W.widen (k := 2) (n := 24) (by omega) (by omega) ?_
  refine hend (fun r => match r.1 with | 8 => q1 | 9 => q2 | _ => h0) (fun r => match r.1 with | 8 => c1 | _ => c2) _ _ _ _ _ rfl (fun r hr hk => ?_) hS k0_20
  unfold fLs at hr
  simp only [List.mem_cons, List.not_mem_nil, or_false] at hr
  rcases hr with rfl | rfl | rfl
  · exact absurd (show 7 ≤ 0 from hk) (by decide)
  · exact hT1
  · exact hT2
theorem c_T_init {l : Launch} {D : va_G} {s : Nat} : nMet l D iT_init 1 4 [.null, .null, .null, .int 0, .int 0, .int 0] (4, s, 0) (tLs s) 3 39 := by
  refine nMet_of hp_T_init hH_T_init hR_T_init hn_T_init ?_ (by rw [hL_T_init]; exact Nat.le_refl 1)
  intro p e R s9 m args below meth c h0 A Q hF hin hRc hRs hA hend hS ls hl
  have hx := hF.1
  have hb := hF.2.1
  have hS : nS D A s9.heap s9.heap [] [(h0, .inr (4, [.null, .null, .null, .int 0, .int 0, .int 0]))] := hS
  refine lv_aload_n hx hb k36_0.1 rfl (lv_at hl 0 rfl) ?_
  refine n_objInit hF hC_T_init oi_T_init oi_in oi_co (by decide) hl.1 rfl k36_1 ?_
  refine lv_aload_n hx hb k36_4.1 rfl (lv_at hl 0 rfl) ?_
  refine lv_bipush (v := 13) hx hb k36_5.1 (by decide) ?_
  refine n_newa (ty := .int) (N := 13) (a0 := (13, .inl (fun _ => 0))) hF ac9_int rfl (fun _ => rfl) (by decide) (by decide) (by decide) hS hA (by omega) (by omega) k36_7 (fun q1 c1 H hT1 hS => ?_)
  refine n_put (ty := .array .int) 0 hF hC_T_init fs_T_9 (by decide) (by decide) fl_T_9 (fun _ => ⟨hin, rfl⟩) (by decide +kernel) rfl rfl (Nat.le_of_ble_eq_true rfl) rfl hS k36_9 (fun H locs hS => ?_)
  have hS : nS D A s9.heap H locs [(h0, .inr (4, [.ref q1, .null, .null, .int 0, .int 0, .int 0])), (q1, .inl (c1, 13, .inl (fun _ => 0)))] := hS
  refine lv_aload_n hx hb k36_12.1 rfl (lv_at hl 0 rfl) ?_
  refine lv_bipush (v := 13) hx hb k36_13.1 (by decide) ?_
  refine n_newa (ty := .int) (N := 13) (a0 := (13, .inl (fun _ => 0))) hF ac9_int rfl (fun _ => rfl) (by decide) (by decide) (by decide) hS hA (by omega) (by omega) k36_15 (fun q2 c2 H hT2 hS => ?_)
  refine n_put (ty := .array .int) 0 hF hC_T_init fs_T_15 (by decide) (by decide) fl_T_15 (fun _ => ⟨hin, rfl⟩) (by decide +kernel) rfl rfl (Nat.le_of_ble_eq_true rfl) rfl hS k36_17 (fun H locs hS => ?_)
  have hS : nS D A s9.heap H locs [(h0, .inr (4, [.ref q1, .ref q2, .null, .int 0, .int 0, .int 0])), (q1, .inl (c1, 13, .inl (fun _ => 0))), (q2, .inl (c2, 13, .inl (fun _ => 0)))] := hS
  refine lv_aload_n hx hb k36_20.1 rfl (lv_at hl 0 rfl) ?_
  refine lv_bipush (v := 13) hx hb k36_21.1 (by decide) ?_
  refine n_newa (ty := .int) (N := 13) (a0 := (13, .inl (fun _ => 0))) hF ac9_int rfl (fun _ => rfl) (by decide) (by decide) (by decide) hS hA (by omega) (by omega) k36_23 (fun q3 c3 H hT3 hS => ?_)
  refine n_put (ty := .array .int) 0 hF hC_T_init fs_T_18 (by decide) (by decide) fl_T_18 (fun _ => ⟨hin, rfl⟩) (by decide +kernel) rfl rfl (Nat.le_of_ble_eq_true rfl) rfl hS k36_25 (fun H locs hS => ?_)
  have hS : nS D A s9.heap H locs [(h0, .inr (4, [.ref q1, .ref q2, .ref q3, .int 0, .int 0, .int 0])), (q1, .inl (c1, 13, .inl (fun _ => 0))), (q2, .inl (c2, 13, .inl (fun _ => 0))), (q3, .inl (c3, 13, .inl (fun _ => 0)))] := hS
  refine W.widen (k := 3) (n := 39) (by omega) (by omega) ?_
  refine hend (fun r => match r.1 with | 7 => (match r.2.2 with | 0 => q1 | 1 => q2 | _ => q3) | _ => h0) (fun r => match r.2.2 with | 0 => c1 | 1 => c2 | _ => c3) _ _ _ _ _ rfl (fun r hr hk => ?_) hS k36_28
  unfold tLs at hr
  simp only [List.mem_cons, List.not_mem_nil, or_false] at hr
  rcases hr with rfl | rfl | rfl | rfl
  · exact absurd (show 7 ≤ 4 from hk) (by decide)
  · exact hT1
  · exact hT2
  · exact hT3
theorem c_O_init {l : Launch} {D : va_G} : nMet l D iO_init 1 2 [.null, .int 0, .null, .null, .null, .null, .null, .int 0, .int 0, .int 0, .int 0] (2, 0, 0) (oLs) 6 480 := by
  refine nMet_of hp_O_init hH_O_init hR_O_init hn_O_init ?_ (by rw [hL_O_init]; exact Nat.le_refl 1)
  intro p e R s9 m args below meth c h0 A Q hF hin hRc hRs hA hend hS ls hl
  have hx := hF.1
  have hb := hF.2.1
  have hS : nS D A s9.heap s9.heap [] [(h0, .inr (2, [.null, .int 0, .null, .null, .null, .null, .null, .int 0, .int 0, .int 0, .int 0]))] := hS
  refine lv_aload_n hx hb k28_0.1 rfl (lv_at hl 0 rfl) ?_
  refine n_objInit hF hC_O_init oi_O_init oi_in oi_co (by decide) hl.1 rfl k28_1 ?_
  refine lv_aload_n hx hb k28_4.1 rfl (lv_at hl 0 rfl) ?_
  refine lv_bipush (v := 80) hx hb k28_5.1 (by decide) ?_
  refine n_newa (ty := .char) (N := 80) (a0 := (80, .inl (fun _ => 0))) hF ac9_char rfl (fun _ => rfl) (by decide) (by decide) (by decide) hS hA (by omega) (by omega) k28_7 (fun q1 c1 H hT1 hS => ?_)
  refine n_put (ty := .array .char) 0 hF hC_O_init fs_O_9 (by decide) (by decide) fl_O_9 (fun _ => ⟨hin, rfl⟩) (by decide +kernel) rfl rfl (Nat.le_of_ble_eq_true rfl) rfl hS k28_9 (fun H locs hS => ?_)
  have hS : nS D A s9.heap H locs [(h0, .inr (2, [.ref q1, .int 0, .null, .null, .null, .null, .null, .int 0, .int 0, .int 0, .int 0])), (q1, .inl (c1, 80, .inl (fun _ => 0)))] := hS
  refine lv_aload_n hx hb k28_12.1 rfl (lv_at hl 0 rfl) ?_
  refine lv_bipush (v := 80) hx hb k28_13.1 (by decide) ?_
  refine n_newa (ty := .int) (N := 80) (a0 := (80, .inl (fun _ => 0))) hF ac9_int rfl (fun _ => rfl) (by decide) (by decide) (by decide) hS hA (by omega) (by omega) k28_15 (fun q2 c2 H hT2 hS => ?_)
  refine n_put (ty := .array .int) 0 hF hC_O_init fs_O_15 (by decide) (by decide) fl_O_15 (fun _ => ⟨hin, rfl⟩) (by decide +kernel) rfl rfl (Nat.le_of_ble_eq_true rfl) rfl hS k28_17 (fun H locs hS => ?_)
  have hS : nS D A s9.heap H locs [(h0, .inr (2, [.ref q1, .int 0, .ref q2, .null, .null, .null, .null, .int 0, .int 0, .int 0, .int 0])), (q1, .inl (c1, 80, .inl (fun _ => 0))), (q2, .inl (c2, 80, .inl (fun _ => 0)))] := hS
  refine lv_aload_n hx hb k28_20.1 rfl (lv_at hl 0 rfl) ?_
  refine lv_bipush (v := 80) hx hb k28_21.1 (by decide) ?_
  refine n_newa (ty := .int) (N := 80) (a0 := (80, .inl (fun _ => 0))) hF ac9_int rfl (fun _ => rfl) (by decide) (by decide) (by decide) hS hA (by omega) (by omega) k28_23 (fun q3 c3 H hT3 hS => ?_)
  refine n_put (ty := .array .int) 0 hF hC_O_init fs_O_19 (by decide) (by decide) fl_O_19 (fun _ => ⟨hin, rfl⟩) (by decide +kernel) rfl rfl (Nat.le_of_ble_eq_true rfl) rfl hS k28_25 (fun H locs hS => ?_)
  have hS : nS D A s9.heap H locs [(h0, .inr (2, [.ref q1, .int 0, .ref q2, .ref q3, .null, .null, .null, .int 0, .int 0, .int 0, .int 0])), (q1, .inl (c1, 80, .inl (fun _ => 0))), (q2, .inl (c2, 80, .inl (fun _ => 0))), (q3, .inl (c3, 80, .inl (fun _ => 0)))] := hS
  refine lv_aload_n hx hb k28_28.1 rfl (lv_at hl 0 rfl) ?_
  refine lv_bipush (v := 80) hx hb k28_29.1 (by decide) ?_
  refine n_newa (ty := .int) (N := 80) (a0 := (80, .inl (fun _ => 0))) hF ac9_int rfl (fun _ => rfl) (by decide) (by decide) (by decide) hS hA (by omega) (by omega) k28_31 (fun q4 c4 H hT4 hS => ?_)
  refine n_put (ty := .array .int) 0 hF hC_O_init fs_O_22 (by decide) (by decide) fl_O_22 (fun _ => ⟨hin, rfl⟩) (by decide +kernel) rfl rfl (Nat.le_of_ble_eq_true rfl) rfl hS k28_33 (fun H locs hS => ?_)
  have hS : nS D A s9.heap H locs [(h0, .inr (2, [.ref q1, .int 0, .ref q2, .ref q3, .ref q4, .null, .null, .int 0, .int 0, .int 0, .int 0])), (q1, .inl (c1, 80, .inl (fun _ => 0))), (q2, .inl (c2, 80, .inl (fun _ => 0))), (q3, .inl (c3, 80, .inl (fun _ => 0))), (q4, .inl (c4, 80, .inl (fun _ => 0)))] := hS
  refine lv_aload_n hx hb k28_36.1 rfl (lv_at hl 0 rfl) ?_
  refine lv_bipush (v := 80) hx hb k28_37.1 (by decide) ?_
  refine n_newa (ty := .int) (N := 80) (a0 := (80, .inl (fun _ => 0))) hF ac9_int rfl (fun _ => rfl) (by decide) (by decide) (by decide) hS hA (by omega) (by omega) k28_39 (fun q5 c5 H hT5 hS => ?_)
  refine n_put (ty := .array .int) 0 hF hC_O_init fs_O_25 (by decide) (by decide) fl_O_25 (fun _ => ⟨hin, rfl⟩) (by decide +kernel) rfl rfl (Nat.le_of_ble_eq_true rfl) rfl hS k28_41 (fun H locs hS => ?_)
  have hS : nS D A s9.heap H locs [(h0, .inr (2, [.ref q1, .int 0, .ref q2, .ref q3, .ref q4, .ref q5, .null, .int 0, .int 0, .int 0, .int 0])), (q1, .inl (c1, 80, .inl (fun _ => 0))), (q2, .inl (c2, 80, .inl (fun _ => 0))), (q3, .inl (c3, 80, .inl (fun _ => 0))), (q4, .inl (c4, 80, .inl (fun _ => 0))), (q5, .inl (c5, 80, .inl (fun _ => 0)))] := hS
  refine lv_aload_n hx hb k28_44.1 rfl (lv_at hl 0 rfl) ?_
  refine lv_bipush (v := 80) hx hb k28_45.1 (by decide) ?_
  refine n_newa (ty := .int) (N := 80) (a0 := (80, .inl (fun _ => 0))) hF ac9_int rfl (fun _ => rfl) (by decide) (by decide) (by decide) hS hA (by omega) (by omega) k28_47 (fun q6 c6 H hT6 hS => ?_)
  refine n_put (ty := .array .int) 0 hF hC_O_init fs_O_28 (by decide) (by decide) fl_O_28 (fun _ => ⟨hin, rfl⟩) (by decide +kernel) rfl rfl (Nat.le_of_ble_eq_true rfl) rfl hS k28_49 (fun H locs hS => ?_)
  have hS : nS D A s9.heap H locs [(h0, .inr (2, [.ref q1, .int 0, .ref q2, .ref q3, .ref q4, .ref q5, .ref q6, .int 0, .int 0, .int 0, .int 0])), (q1, .inl (c1, 80, .inl (fun _ => 0))), (q2, .inl (c2, 80, .inl (fun _ => 0))), (q3, .inl (c3, 80, .inl (fun _ => 0))), (q4, .inl (c4, 80, .inl (fun _ => 0))), (q5, .inl (c5, 80, .inl (fun _ => 0))), (q6, .inl (c6, 80, .inl (fun _ => 0)))] := hS
  refine W.widen (k := 6) (n := 480) (by omega) (by omega) ?_
  refine hend (fun r => match r.1 with | 12 => (match r.2.2 with | 0 => q1 | 1 => q2 | 2 => q3 | 3 => q4 | 4 => q5 | _ => q6) | _ => h0) (fun r => match r.2.2 with | 0 => c1 | 1 => c2 | 2 => c3 | 3 => c4 | 4 => c5 | _ => c6) _ _ _ _ _ rfl (fun r hr hk => ?_) hS k28_52
  unfold oLs at hr
  simp only [List.mem_cons, List.not_mem_nil, or_false] at hr
  rcases hr with rfl | rfl | rfl | rfl | rfl | rfl | rfl
  · exact absurd (show 7 ≤ 2 from hk) (by decide)
  · exact hT1
  · exact hT2
  · exact hT3
  · exact hT4
  · exact hT5
  · exact hT6
