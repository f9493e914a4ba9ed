/-! THE OFFICE'S CONSTRUCTOR -/
def dH : mRef → Bool := fun r => r.1 == 1 || r.1 == 11 || (kS r.1 && decide (3 ≤ r.2.1))
def dO : mRef → Bool := fun r => r.1 == 2 || r.1 == 12
theorem dH_iff {r : mRef} : dH r = true ↔ r.1 = 1 ∨ r.1 = 11 ∨ (kS r.1 = true ∧ 3 ≤ r.2.1) := by
  unfold dH
  simp [or_assoc]
theorem dO_iff {r : mRef} : dO r = true ↔ r.1 = 2 ∨ r.1 = 12 := by unfold dO; simp
theorem dH_cl : dCl dH := by
  refine ⟨fun r h k r' hk => ?_, fun r h h10 a => ?_, fun r h h11 a => ?_⟩
  · obtain ⟨a, b, c⟩ := r
    rcases dH_iff.mp h with h1 | h1 | ⟨h1, h2⟩
    · have h1 : a = 1 := h1
      subst h1
      unfold mRf at hk
      simp only at hk
      split at hk
      · cases hk; exact dH_iff.mpr (Or.inr (Or.inl rfl))
      · cases hk
    · have h1 : a = 11 := h1
      subst h1
      cases hk
    · obtain ⟨g1, g2⟩ := kS_ref h1 hk
      exact dH_iff.mpr (Or.inr (Or.inr ⟨g1, by rw [g2]; exact h2⟩))
  · rcases dH_iff.mp h with h1 | h1 | ⟨h1, h2⟩
    · rw [h10] at h1; exact absurd h1 (by decide)
    · rw [h10] at h1; exact absurd h1 (by decide)
    · exact dH_iff.mpr (Or.inr (Or.inr ⟨rfl, h2⟩))
  · exact dH_iff.mpr (Or.inr (Or.inr ⟨rfl, Nat.le_add_right 3 a⟩))
theorem dO_cl : dCl dO := by
  refine ⟨fun r h k r' hk => ?_, fun r h h10 a => ?_, fun r h h11 a => ?_⟩
  · obtain ⟨a, b, c⟩ := r
    rcases dO_iff.mp h with h1 | h1
    · have h1 : a = 2 := h1
      subst h1
      unfold mRf at hk
      simp only at hk
      split at hk <;> first | (cases hk; done) | (cases hk; exact dO_iff.mpr (Or.inr rfl))
    · have h1 : a = 12 := h1
      subst h1
      cases hk
  · rcases dO_iff.mp h with h1 | h1 <;> (rw [h10] at h1; exact absurd h1 (by decide))
  · rcases dO_iff.mp h with h1 | h1 <;> (rw [h11] at h1; exact absurd h1 (by decide))
theorem hLs_in : ∀ r ∈ hLs, dH r = true := by
  intro r hr
  unfold hLs at hr
  rcases List.mem_cons.mp hr with rfl | hr
  · rfl
  rcases List.mem_cons.mp hr with rfl | hr
  · rfl
  obtain ⟨j, hj, hr⟩ := sAll_mem hr
  obtain ⟨h1, h2⟩ := dS_iff.mp (stLs_in r hr)
  exact dH_iff.mpr (Or.inr (Or.inr ⟨h1, by omega⟩))
theorem oLs_in : ∀ r ∈ oLs, dO r = true := by
  intro r hr
  unfold oLs at hr
  simp only [List.mem_cons, List.not_mem_nil, or_false] at hr
  rcases hr with rfl | rfl | rfl | rfl | rfl | rfl | rfl <;> rfl
theorem dSH {t : Nat} (ht : t < 3) : ∀ x, dH x = true → dS t x = false := by
  intro x hx
  cases hd : dS t x with
  | false => rfl
  | true =>
    obtain ⟨h1, h2⟩ := dS_iff.mp hd
    rcases dH_iff.mp hx with g | g | ⟨g, g2⟩
    · rw [g] at h1; exact absurd h1 (by decide)
    · rw [g] at h1; exact absurd h1 (by decide)
    · omega
theorem dSO {t : Nat} : ∀ x, dO x = true → dS t x = false := by
  intro x hx
  cases hd : dS t x with
  | false => rfl
  | true =>
    obtain ⟨h1, h2⟩ := dS_iff.mp hd
    rcases dO_iff.mp hx with g | g <;> (rw [g] at h1; exact absurd h1 (by decide))
theorem dHO : ∀ x, dO x = true → dH x = false := by
  intro x hx
  cases hd : dH x with
  | false => rfl
  | true =>
    rcases dO_iff.mp hx with h1 | h1
    · rcases dH_iff.mp hd with g | g | ⟨g, g2⟩
      · omega
      · omega
      · rw [h1] at g; exact absurd g (by decide)
    · rcases dH_iff.mp hd with g | g | ⟨g, g2⟩
      · omega
      · omega
      · rw [h1] at g; exact absurd g (by decide)
def aLs : List mRef := (5, 0, 0) :: ((((stLs 0 ++ stLs 1) ++ stLs 2) ++ hLs) ++ oLs)
theorem c_A_init {l : Launch} {D : va_G} : nMet l D iA_init 4 5 [.null, .null, .null, .null, .null, .int 0] (5, 0, 0) aLs 177 2010 := by
  refine nMet_of hp_A_init hH_A_init hR_A_init hn_A_init ?_ (by rw [hL_A_init]; decide)
  intro p e R s9 m args below meth c h0 A Q hF hin hRc hRs hA hend hS ls hl
  have hx := hF.1
  have hb := hF.2.1
  have hS : nS D A s9.heap s9.heap [] [(h0, .inr (5, [.null, .null, .null, .null, .null, .int 0]))] := hS
  refine lv_aload_n hx hb k50_0.1 rfl (lv_at hl 0 rfl) ?_
  refine n_objInit hF hC_A_init oi_A_init oi_in oi_co (by decide) hl.1 rfl k50_1 ?_
  refine lv_aload_n hx hb k50_4.1 rfl (lv_at hl 0 rfl) ?_
  refine n_new (ci := 3) (fs := [.null, .null, .int 0]) hF hC_A_init rfl tyX3_ok inw_3 cl9_A_7 in9_3 ini9_3 (fun j hj => by match j, hj with | 0, _ => rfl | 1, _ => rfl | 2, _ => rfl) hS hA (by omega) (by omega) k50_5 (fun q H hS => ?_)
  refine lv_dup hx hb k50_8.1 rfl ?_
  refine n_init (c_S_init (l := l) (D := D) (s := 0)) (hF.le (by decide)) hC_A_init ok_S_init hH_S_init hR_S_init hn_S_init il_A_9 hi_S_init hl.1 (Nat.le_of_ble_eq_true rfl) hS hA (by omega) (by omega) k50_9 (fun ρ0 cA0 H locs hq0 hT0 hS2 => ?_)
  subst hq0
  refine n_put (ty := .object "AcreOffice$State") 0 hF hC_A_init fs_A_10 (by decide) (by decide) fl_A_10 (fun _ => ⟨hin, rfl⟩) (by decide +kernel) rfl rfl (Nat.le_of_ble_eq_true rfl) rfl hS2 k50_12 (fun H locs hS => ?_)
  have hS : nS D A s9.heap H locs ((h0, .inr (5, [.ref (ρ0 (3, 0, 0)), .null, .null, .null, .null, .int 0])) :: nW ρ0 cA0 (stLs 0)) := hS
  refine lv_aload_n hx hb k50_15.1 rfl (lv_at hl 0 rfl) ?_
  refine n_new (ci := 3) (fs := [.null, .null, .int 0]) hF hC_A_init rfl tyX3_ok inw_3 cl9_A_7 in9_3 ini9_3 (fun j hj => by match j, hj with | 0, _ => rfl | 1, _ => rfl | 2, _ => rfl) hS hA (by omega) (by omega) k50_16 (fun q H hS => ?_)
  refine lv_dup hx hb k50_19.1 rfl ?_
  refine n_init (c_S_init (l := l) (D := D) (s := 1)) (hF.le (by decide)) hC_A_init ok_S_init hH_S_init hR_S_init hn_S_init il_A_9 hi_S_init hl.1 (Nat.le_of_ble_eq_true rfl) hS hA (by omega) (by omega) k50_20 (fun ρ1 cA1 H locs hq1 hT1 hS2 => ?_)
  subst hq1
  refine n_put (ty := .object "AcreOffice$State") 0 hF hC_A_init fs_A_16 (by decide) (by decide) fl_A_16 (fun _ => ⟨hin, rfl⟩) (by decide +kernel) rfl rfl (Nat.le_of_ble_eq_true rfl) rfl hS2 k50_23 (fun H locs hS => ?_)
  have hS : nS D A s9.heap H locs ((h0, .inr (5, [.ref (ρ0 (3, 0, 0)), .ref (ρ1 (3, 1, 0)), .null, .null, .null, .int 0])) :: (nW ρ0 cA0 (stLs 0) ++ nW ρ1 cA1 (stLs 1))) := hS
  refine lv_aload_n hx hb k50_26.1 rfl (lv_at hl 0 rfl) ?_
  refine n_new (ci := 3) (fs := [.null, .null, .int 0]) hF hC_A_init rfl tyX3_ok inw_3 cl9_A_7 in9_3 ini9_3 (fun j hj => by match j, hj with | 0, _ => rfl | 1, _ => rfl | 2, _ => rfl) hS hA (by omega) (by omega) k50_27 (fun q H hS => ?_)
  refine lv_dup hx hb k50_30.1 rfl ?_
  refine n_init (c_S_init (l := l) (D := D) (s := 2)) (hF.le (by decide)) hC_A_init ok_S_init hH_S_init hR_S_init hn_S_init il_A_9 hi_S_init hl.1 (Nat.le_of_ble_eq_true rfl) hS hA (by omega) (by omega) k50_31 (fun ρ2 cA2 H locs hq2 hT2 hS2 => ?_)
  subst hq2
  refine n_put (ty := .object "AcreOffice$State") 0 hF hC_A_init fs_A_19 (by decide) (by decide) fl_A_19 (fun _ => ⟨hin, rfl⟩) (by decide +kernel) rfl rfl (Nat.le_of_ble_eq_true rfl) rfl hS2 k50_34 (fun H locs hS => ?_)
  have hS : nS D A s9.heap H locs ((h0, .inr (5, [.ref (ρ0 (3, 0, 0)), .ref (ρ1 (3, 1, 0)), .ref (ρ2 (3, 2, 0)), .null, .null, .int 0])) :: ((nW ρ0 cA0 (stLs 0) ++ nW ρ1 cA1 (stLs 1)) ++ nW ρ2 cA2 (stLs 2))) := hS
  refine lv_aload_n hx hb k50_37.1 rfl (lv_at hl 0 rfl) ?_
  refine n_new (ci := 1) (fs := [.null, .int 0, .int 0]) hF hC_A_init rfl tyX1_ok inw_1 cl9_A_22 in9_1 ini9_1 (fun j hj => by match j, hj with | 0, _ => rfl | 1, _ => rfl | 2, _ => rfl) hS hA (by omega) (by omega) k50_38 (fun q H hS => ?_)
  refine lv_dup hx hb k50_41.1 rfl ?_
  refine n_init (c_H_init (l := l) (D := D)) (hF) hC_A_init ok_H_init hH_H_init hR_H_init hn_H_init il_A_24 hi_H_init hl.1 (Nat.le_of_ble_eq_true rfl) hS hA (by omega) (by omega) k50_42 (fun ρH cAH H locs hq3 hT3 hS2 => ?_)
  subst hq3
  refine n_put (ty := .object "AcreOffice$History") 0 hF hC_A_init fs_A_25 (by decide) (by decide) fl_A_25 (fun _ => ⟨hin, rfl⟩) (by decide +kernel) rfl rfl (Nat.le_of_ble_eq_true rfl) rfl hS2 k50_45 (fun H locs hS => ?_)
  have hS : nS D A s9.heap H locs ((h0, .inr (5, [.ref (ρ0 (3, 0, 0)), .ref (ρ1 (3, 1, 0)), .ref (ρ2 (3, 2, 0)), .ref (ρH (1, 0, 0)), .null, .int 0])) :: (((nW ρ0 cA0 (stLs 0) ++ nW ρ1 cA1 (stLs 1)) ++ nW ρ2 cA2 (stLs 2)) ++ nW ρH cAH (hLs))) := hS
  refine lv_aload_n hx hb k50_48.1 rfl (lv_at hl 0 rfl) ?_
  refine n_new (ci := 2) (fs := [.null, .int 0, .null, .null, .null, .null, .null, .int 0, .int 0, .int 0, .int 0]) hF hC_A_init rfl tyX2_ok inw_2 cl9_A_29 in9_2 ini9_2 (fun j hj => by match j, hj with | 0, _ => rfl | 1, _ => rfl | 2, _ => rfl | 3, _ => rfl | 4, _ => rfl | 5, _ => rfl | 6, _ => rfl | 7, _ => rfl | 8, _ => rfl | 9, _ => rfl | 10, _ => rfl) hS hA (by omega) (by omega) k50_49 (fun q H hS => ?_)
  refine lv_dup hx hb k50_52.1 rfl ?_
  refine n_initN (c_O_init (l := l) (D := D)) (hF.le (by decide)) hC_A_init ok_O_init hH_O_init hR_O_init hn_O_init il_A_31 hi_O_init hl.1 (Nat.le_of_ble_eq_true rfl) hS hA (by omega) (by omega) k50_53 (fun ρO cAO H locs hq4 hT4 hS2 => ?_)
  subst hq4
  refine n_put (ty := .object "AcreOffice$Orders") 0 hF hC_A_init fs_A_32 (by decide) (by decide) fl_A_32 (fun _ => ⟨hin, rfl⟩) (by decide +kernel) rfl rfl (Nat.le_of_ble_eq_true rfl) rfl hS2 k50_56 (fun H locs hS => ?_)
  have hS : nS D A s9.heap H locs ((h0, .inr (5, [.ref (ρ0 (3, 0, 0)), .ref (ρ1 (3, 1, 0)), .ref (ρ2 (3, 2, 0)), .ref (ρH (1, 0, 0)), .ref (ρO (2, 0, 0)), .int 0])) :: ((((nW ρ0 cA0 (stLs 0) ++ nW ρ1 cA1 (stLs 1)) ++ nW ρ2 cA2 (stLs 2)) ++ nW ρH cAH (hLs)) ++ nW ρO cAO (oLs))) := hS
  refine lv_aload_n hx hb k50_59.1 rfl (lv_at hl 0 rfl) ?_
  refine lv_iconst (v := 0) hx hb k50_60.1 (by decide) ?_
  refine n_put (ty := .boolean) 0 hF hC_A_init fs_A_36 (by decide) (by decide) fl_A_36 (fun h => absurd h (by decide)) (by decide +kernel) rfl rfl (Nat.le_of_ble_eq_true rfl) rfl hS k50_61 (fun H locs hS => ?_)
  have hS : nS D A s9.heap H locs ((h0, .inr (5, [.ref (ρ0 (3, 0, 0)), .ref (ρ1 (3, 1, 0)), .ref (ρ2 (3, 2, 0)), .ref (ρH (1, 0, 0)), .ref (ρO (2, 0, 0)), .int 0])) :: ((((nW ρ0 cA0 (stLs 0) ++ nW ρ1 cA1 (stLs 1)) ++ nW ρ2 cA2 (stLs 2)) ++ nW ρH cAH (hLs)) ++ nW ρO cAO (oLs))) := hS
  refine W.widen (k := 177) (n := 2010) (by omega) (by omega) ?_
  have e0 : nW ρ0 cA0 (stLs 0) = nW (pick (dS 0) ρ0 (pick (dS 1) ρ1 (pick (dS 2) ρ2 (pick dH ρH (pick dO ρO (fun _ => h0)))))) (pick (dS 0) cA0 (pick (dS 1) cA1 (pick (dS 2) cA2 (pick dH cAH (pick dO cAO cAO))))) (stLs 0) := by
    rw [nW_pick (d := dS 0) (ρ' := pick (dS 1) ρ1 (pick (dS 2) ρ2 (pick dH ρH (pick dO ρO (fun _ => h0))))) (cA' := pick (dS 1) cA1 (pick (dS 2) cA2 (pick dH cAH (pick dO cAO cAO)))) (dS_cl (t := 0)) (stLs_in (t := 0))]
  have t0 : nT s9 (pick (dS 0) cA0 (pick (dS 1) cA1 (pick (dS 2) cA2 (pick dH cAH (pick dO cAO cAO))))) (stLs 0) := by
    have h := nT_pick (d := dS 0) (cA' := pick (dS 1) cA1 (pick (dS 2) cA2 (pick dH cAH (pick dO cAO cAO)))) (stLs_in (t := 0)) hT0
    exact h
  have e1 : nW ρ1 cA1 (stLs 1) = nW (pick (dS 0) ρ0 (pick (dS 1) ρ1 (pick (dS 2) ρ2 (pick dH ρH (pick dO ρO (fun _ => h0)))))) (pick (dS 0) cA0 (pick (dS 1) cA1 (pick (dS 2) cA2 (pick dH cAH (pick dO cAO cAO))))) (stLs 1) := by
    rw [nW_pick (d := dS 1) (ρ' := pick (dS 2) ρ2 (pick dH ρH (pick dO ρO (fun _ => h0)))) (cA' := pick (dS 2) cA2 (pick dH cAH (pick dO cAO cAO))) (dS_cl (t := 1)) (stLs_in (t := 1))]
    rw [nW_pick2 (d := dS 0) (ρ := ρ0) (ρ' := pick (dS 1) ρ1 (pick (dS 2) ρ2 (pick dH ρH (pick dO ρO (fun _ => h0))))) (cA := cA0) (cA' := pick (dS 1) cA1 (pick (dS 2) cA2 (pick dH cAH (pick dO cAO cAO)))) (L := stLs 1) (fun r hr => dOut_of (dS_cl (t := 1)) (dS_dis (t := 0) (t' := 1) (by decide)) ((stLs_in (t := 1)) r hr))]
  have t1 : nT s9 (pick (dS 0) cA0 (pick (dS 1) cA1 (pick (dS 2) cA2 (pick dH cAH (pick dO cAO cAO))))) (stLs 1) := by
    have h := nT_pick (d := dS 1) (cA' := pick (dS 2) cA2 (pick dH cAH (pick dO cAO cAO))) (stLs_in (t := 1)) hT1
    have h := nT_pick2 (d := dS 0) (cA := cA0) (L := stLs 1) (fun r hr => (dS_dis (t := 0) (t' := 1) (by decide)) r ((stLs_in (t := 1)) r hr)) h
    exact h
  have e2 : nW ρ2 cA2 (stLs 2) = nW (pick (dS 0) ρ0 (pick (dS 1) ρ1 (pick (dS 2) ρ2 (pick dH ρH (pick dO ρO (fun _ => h0)))))) (pick (dS 0) cA0 (pick (dS 1) cA1 (pick (dS 2) cA2 (pick dH cAH (pick dO cAO cAO))))) (stLs 2) := by
    rw [nW_pick (d := dS 2) (ρ' := pick dH ρH (pick dO ρO (fun _ => h0))) (cA' := pick dH cAH (pick dO cAO cAO)) (dS_cl (t := 2)) (stLs_in (t := 2))]
    rw [nW_pick2 (d := dS 1) (ρ := ρ1) (ρ' := pick (dS 2) ρ2 (pick dH ρH (pick dO ρO (fun _ => h0)))) (cA := cA1) (cA' := pick (dS 2) cA2 (pick dH cAH (pick dO cAO cAO))) (L := stLs 2) (fun r hr => dOut_of (dS_cl (t := 2)) (dS_dis (t := 1) (t' := 2) (by decide)) ((stLs_in (t := 2)) r hr))]
    rw [nW_pick2 (d := dS 0) (ρ := ρ0) (ρ' := pick (dS 1) ρ1 (pick (dS 2) ρ2 (pick dH ρH (pick dO ρO (fun _ => h0))))) (cA := cA0) (cA' := pick (dS 1) cA1 (pick (dS 2) cA2 (pick dH cAH (pick dO cAO cAO)))) (L := stLs 2) (fun r hr => dOut_of (dS_cl (t := 2)) (dS_dis (t := 0) (t' := 2) (by decide)) ((stLs_in (t := 2)) r hr))]
  have t2 : nT s9 (pick (dS 0) cA0 (pick (dS 1) cA1 (pick (dS 2) cA2 (pick dH cAH (pick dO cAO cAO))))) (stLs 2) := by
    have h := nT_pick (d := dS 2) (cA' := pick dH cAH (pick dO cAO cAO)) (stLs_in (t := 2)) hT2
    have h := nT_pick2 (d := dS 1) (cA := cA1) (L := stLs 2) (fun r hr => (dS_dis (t := 1) (t' := 2) (by decide)) r ((stLs_in (t := 2)) r hr)) h
    have h := nT_pick2 (d := dS 0) (cA := cA0) (L := stLs 2) (fun r hr => (dS_dis (t := 0) (t' := 2) (by decide)) r ((stLs_in (t := 2)) r hr)) h
    exact h
  have e3 : nW ρH cAH (hLs) = nW (pick (dS 0) ρ0 (pick (dS 1) ρ1 (pick (dS 2) ρ2 (pick dH ρH (pick dO ρO (fun _ => h0)))))) (pick (dS 0) cA0 (pick (dS 1) cA1 (pick (dS 2) cA2 (pick dH cAH (pick dO cAO cAO))))) (hLs) := by
    rw [nW_pick (d := dH) (ρ' := pick dO ρO (fun _ => h0)) (cA' := pick dO cAO cAO) dH_cl hLs_in]
    rw [nW_pick2 (d := dS 2) (ρ := ρ2) (ρ' := pick dH ρH (pick dO ρO (fun _ => h0))) (cA := cA2) (cA' := pick dH cAH (pick dO cAO cAO)) (L := hLs) (fun r hr => dOut_of dH_cl (dSH (t := 2) (by decide)) (hLs_in r hr))]
    rw [nW_pick2 (d := dS 1) (ρ := ρ1) (ρ' := pick (dS 2) ρ2 (pick dH ρH (pick dO ρO (fun _ => h0)))) (cA := cA1) (cA' := pick (dS 2) cA2 (pick dH cAH (pick dO cAO cAO))) (L := hLs) (fun r hr => dOut_of dH_cl (dSH (t := 1) (by decide)) (hLs_in r hr))]
    rw [nW_pick2 (d := dS 0) (ρ := ρ0) (ρ' := pick (dS 1) ρ1 (pick (dS 2) ρ2 (pick dH ρH (pick dO ρO (fun _ => h0))))) (cA := cA0) (cA' := pick (dS 1) cA1 (pick (dS 2) cA2 (pick dH cAH (pick dO cAO cAO)))) (L := hLs) (fun r hr => dOut_of dH_cl (dSH (t := 0) (by decide)) (hLs_in r hr))]
  have t3 : nT s9 (pick (dS 0) cA0 (pick (dS 1) cA1 (pick (dS 2) cA2 (pick dH cAH (pick dO cAO cAO))))) (hLs) := by
    have h := nT_pick (d := dH) (cA' := pick dO cAO cAO) hLs_in hT3
    have h := nT_pick2 (d := dS 2) (cA := cA2) (L := hLs) (fun r hr => (dSH (t := 2) (by decide)) r (hLs_in r hr)) h
    have h := nT_pick2 (d := dS 1) (cA := cA1) (L := hLs) (fun r hr => (dSH (t := 1) (by decide)) r (hLs_in r hr)) h
    have h := nT_pick2 (d := dS 0) (cA := cA0) (L := hLs) (fun r hr => (dSH (t := 0) (by decide)) r (hLs_in r hr)) h
    exact h
  have e4 : nW ρO cAO (oLs) = nW (pick (dS 0) ρ0 (pick (dS 1) ρ1 (pick (dS 2) ρ2 (pick dH ρH (pick dO ρO (fun _ => h0)))))) (pick (dS 0) cA0 (pick (dS 1) cA1 (pick (dS 2) cA2 (pick dH cAH (pick dO cAO cAO))))) (oLs) := by
    rw [nW_pick (d := dO) (ρ' := (fun _ => h0)) (cA' := cAO) dO_cl oLs_in]
    rw [nW_pick2 (d := dH) (ρ := ρH) (ρ' := pick dO ρO (fun _ => h0)) (cA := cAH) (cA' := pick dO cAO cAO) (L := oLs) (fun r hr => dOut_of dO_cl dHO (oLs_in r hr))]
    rw [nW_pick2 (d := dS 2) (ρ := ρ2) (ρ' := pick dH ρH (pick dO ρO (fun _ => h0))) (cA := cA2) (cA' := pick dH cAH (pick dO cAO cAO)) (L := oLs) (fun r hr => dOut_of dO_cl (dSO (t := 2)) (oLs_in r hr))]
    rw [nW_pick2 (d := dS 1) (ρ := ρ1) (ρ' := pick (dS 2) ρ2 (pick dH ρH (pick dO ρO (fun _ => h0)))) (cA := cA1) (cA' := pick (dS 2) cA2 (pick dH cAH (pick dO cAO cAO))) (L := oLs) (fun r hr => dOut_of dO_cl (dSO (t := 1)) (oLs_in r hr))]
    rw [nW_pick2 (d := dS 0) (ρ := ρ0) (ρ' := pick (dS 1) ρ1 (pick (dS 2) ρ2 (pick dH ρH (pick dO ρO (fun _ => h0))))) (cA := cA0) (cA' := pick (dS 1) cA1 (pick (dS 2) cA2 (pick dH cAH (pick dO cAO cAO)))) (L := oLs) (fun r hr => dOut_of dO_cl (dSO (t := 0)) (oLs_in r hr))]
  have t4 : nT s9 (pick (dS 0) cA0 (pick (dS 1) cA1 (pick (dS 2) cA2 (pick dH cAH (pick dO cAO cAO))))) (oLs) := by
    have h := nT_pick (d := dO) (cA' := cAO) oLs_in hT4
    have h := nT_pick2 (d := dH) (cA := cAH) (L := oLs) (fun r hr => dHO r (oLs_in r hr)) h
    have h := nT_pick2 (d := dS 2) (cA := cA2) (L := oLs) (fun r hr => (dSO (t := 2)) r (oLs_in r hr)) h
    have h := nT_pick2 (d := dS 1) (cA := cA1) (L := oLs) (fun r hr => (dSO (t := 1)) r (oLs_in r hr)) h
    have h := nT_pick2 (d := dS 0) (cA := cA0) (L := oLs) (fun r hr => (dSO (t := 0)) r (oLs_in r hr)) h
    exact h
  rw [e0, e1, e2, e3, e4] at hS
  refine hend (pick (dS 0) ρ0 (pick (dS 1) ρ1 (pick (dS 2) ρ2 (pick dH ρH (pick dO ρO (fun _ => h0)))))) (pick (dS 0) cA0 (pick (dS 1) cA1 (pick (dS 2) cA2 (pick dH cAH (pick dO cAO cAO))))) _ _ _ _ _ rfl ?_ ?_ k50_64
  · intro r hr hk
    unfold aLs at hr
    rcases List.mem_cons.mp hr with rfl | hr
    · exact absurd (show 7 ≤ 5 from hk) (by decide)
    · exact ((((t0.app t1).app t2).app t3).app t4) r hr hk
  · unfold aLs
    show nS D A s9.heap H locs ((h0, _) :: nW _ _ ((((stLs 0 ++ stLs 1) ++ stLs 2) ++ hLs) ++ oLs))
    rw [nW_app, nW_app, nW_app, nW_app]
    exact hS
