/-! A STATE'S CONSTRUCTOR -/
def fAll (s n : Nat) : List mRef := (List.range n).flatMap (fun j => fLs s j)
theorem fAll_s {s n : Nat} : fAll s (n + 1) = fAll s n ++ fLs s n := by
  unfold fAll
  rw [List.range_succ, List.flatMap_append]
  simp
theorem fAll_mem {s n : Nat} {r : mRef} (h : r ∈ fAll s n) : ∃ j, j < n ∧ r ∈ fLs s j := by
  obtain ⟨j, hj, hr⟩ := List.mem_flatMap.mp h
  exact ⟨j, List.mem_range.mp hj, hr⟩
def stLs (s : Nat) : List mRef := (3, s, 0) :: (10, s, 0) :: (tLs s ++ fAll s 6)
def rfQ (f : Nat → Option Nat) : vp_A := (6, .inr (.inr (.inr (.inr f))))
def dF (i : Nat) : mRef → Bool := fun r => (r.1 == 0 || r.1 == 8 || r.1 == 9) && r.2.2 == i
theorem dF_cl {i : Nat} : dCl (dF i) := by
  refine ⟨fun r h k r' hk => ?_, fun r h h10 => ?_, fun r h h11 => ?_⟩
  · obtain ⟨a, b, c⟩ := r
    unfold dF at h
    simp only [Bool.and_eq_true, Bool.or_eq_true, beq_iff_eq] at h
    obtain ⟨h1, rfl⟩ := h
    rcases h1 with (rfl | rfl) | rfl
    · unfold mRf at hk
      simp only at hk
      split at hk
      · cases hk; unfold dF; simp
      · cases hk; unfold dF; simp
      · cases hk
    · cases hk
    · cases hk
  · unfold dF at h
    rw [h10] at h
    simp at h
  · unfold dF at h
    rw [h11] at h
    simp at h
abbrev dOut (d : mRef → Bool) (r : mRef) : Prop := d r = false ∧ (∀ k r', mRf r k = some r' → d r' = false) ∧ (r.1 = 10 → ∀ a, d (0, r.2.1, a) = false) ∧ (r.1 = 11 → ∀ a, d (3, 3 + a, 0) = false)
theorem dO_leaf {d : mRef → Bool} {r : mRef} (h : d r = false) (h1 : ∀ k, mRf r k = none) (h10 : r.1 ≠ 10) (h11 : r.1 ≠ 11) : dOut d r := ⟨h, fun k r' hk => absurd ((h1 k).symm.trans hk) (by simp), fun q => absurd q h10, fun q => absurd q h11⟩
theorem dF_out {s i : Nat} {r : mRef} (h : r ∈ tLs s ++ fAll s i) : dOut (dF i) r := by
  rcases List.mem_append.mp h with h | h
  · unfold tLs at h
    simp only [List.mem_cons, List.not_mem_nil, or_false] at h
    rcases h with rfl | rfl | rfl | rfl
    · refine ⟨rfl, fun k r' hk => ?_, fun q => absurd q (by simp), fun q => absurd q (by simp)⟩
      unfold mRf at hk
      simp only at hk
      split at hk
      · cases hk; rfl
      · cases hk; rfl
      · cases hk; rfl
      · cases hk
    · exact dO_leaf rfl (fun _ => rfl) (by simp) (by simp)
    · exact dO_leaf rfl (fun _ => rfl) (by simp) (by simp)
    · exact dO_leaf rfl (fun _ => rfl) (by simp) (by simp)
  · obtain ⟨j, hj, hr⟩ := fAll_mem h
    have hji : (j == i) = false := by simp; omega
    unfold fLs at hr
    simp only [List.mem_cons, List.not_mem_nil, or_false] at hr
    rcases hr with rfl | rfl | rfl
    · refine ⟨by unfold dF; simp [hji], fun k r' hk => ?_, fun q => absurd q (by simp), fun q => absurd q (by simp)⟩
      unfold mRf at hk
      simp only at hk
      split at hk
      · cases hk; unfold dF; simp [hji]
      · cases hk; unfold dF; simp [hji]
      · cases hk
    · exact dO_leaf (by unfold dF; simp [hji]) (fun _ => rfl) (by simp) (by simp)
    · exact dO_leaf (by unfold dF; simp [hji]) (fun _ => rfl) (by simp) (by simp)
theorem dF_in {s i : Nat} : ∀ r ∈ fLs s i, dF i r = true := by
  intro r hr
  unfold fLs at hr
  simp only [List.mem_cons, List.not_mem_nil, or_false] at hr
  rcases hr with rfl | rfl | rfl <;> (unfold dF; simp)
theorem c_S_init {l : Launch} {D : va_G} {s : Nat} : nMet l D iS_init 2 3 [.null, .null, .int 0] (3, s, 0) (stLs s) 23 213 := by
  refine nMet_of hp_S_init hH_S_init hR_S_init hn_S_init ?_ (by rw [hL_S_init]; decide)
  intro p e R s9 m args below meth c h0 A Q hF hin hRc hRs hA hend hS ls hl
  have hx := hF.1
  have hb := hF.2.1
  have hV := hF.2.2.2.2.2.2
  have loop : ∀ (z i : Nat) (ρ : mRef → Nat) (cA : mRef → ClassId) (H : Heap) (locs : List Loc) (ls : Array Slot), i + z = 6 → ρ (3, s, 0) = h0 → nT s9 cA ((10, s, 0) :: (tLs s ++ fAll s i)) →
      nS D A s9.heap H locs ((h0, .inr (3, [.ref (ρ (4, s, 0)), .ref (ρ (10, s, 0)), .int 0])) :: (ρ (10, s, 0), .inl (cA (10, s, 0), rfQ (fun a => if a < i then some (ρ (0, s, a)) else none))) :: nW ρ cA (tLs s ++ fAll s i)) →
      lv_has ls (mL iS_init) [(1, .int (nI i)), (0, .ref h0)] → W p l e R s9 m args below meth c H locs (5 + 3 * i) (51 + 27 * i) Q (F0 m 26 ls []) := by
    intro z
    induction z with
    | zero =>
      intro i ρ cA H locs ls hi hρ hT hS hl
      obtain rfl : i = 6 := by omega
      refine lv_iload_n hx hb k29_26.1 rfl (lv_at hl 0 rfl) ?_
      refine lv_bipush (v := 6) hx hb k29_27.1 (by decide) ?_
      refine lv_icmp_ge (tgt := 51) hx hb k29_29.1 (by decide) (fun _ => ?_) (fun q => absurd (Int32.le_refl 6) q)
      refine lv_aload_n hx hb k29_51.1 rfl (lv_at hl 1 rfl) ?_
      refine lv_iconst (v := 0) hx hb k29_52.1 (by decide) ?_
      refine n_put (ty := .int) 0 hF hC_S_init fs_S_25 (by decide) (by decide) fl_S_25 (fun h => absurd h (by decide)) (by decide +kernel) rfl rfl (Nat.le_of_ble_eq_true rfl) rfl hS k29_53 (fun H locs hS => ?_)
      have hS : nS D A s9.heap H locs ([(h0, .inr (3, [.ref (ρ (4, s, 0)), .ref (ρ (10, s, 0)), .int 0]))] ++ (ρ (10, s, 0), .inl (cA (10, s, 0), 6, .inr (.inr (.inr (.inr (fun a => if a < 6 then some (ρ (0, s, a)) else none)))))) :: nW ρ cA (tLs s ++ fAll s 6)) := hS
      have hS := hS.same (sameC_q (g := fun a => some (ρ (0, s, a))) (fun j hj => if_pos hj))
      refine W.widen (k := 23) (n := 213) (by omega) (by omega) ?_
      refine hend ρ cA _ _ _ _ _ hρ (fun r hr hk => ?_) ?_ k29_56
      · rcases List.mem_cons.mp hr with rfl | hr
        · exact absurd (show 7 ≤ 3 from hk) (by decide)
        · exact hT r hr hk
      · show nS D A s9.heap H locs ((ρ (3, s, 0), mCell ρ cA mZ (3, s, 0)) :: (ρ (10, s, 0), mCell ρ cA mZ (10, s, 0)) :: nW ρ cA (tLs s ++ fAll s 6))
        rw [hρ]
        exact hS
    | succ z ih =>
      intro i ρ cA H locs ls hi hρ hT hS hl
      have hlt : i < 6 := by omega
      refine lv_iload_n hx hb k29_26.1 rfl (lv_at hl 0 rfl) ?_
      refine lv_bipush (v := 6) hx hb k29_27.1 (by decide) ?_
      refine lv_icmp_ge (tgt := 51) hx hb k29_29.1 (by decide) (fun q => absurd (nI_le_of (a := 6) q) (by omega)) (fun _ => ?_)
      refine lv_aload_n hx hb k29_32.1 rfl (lv_at hl 1 rfl) ?_
      refine n_get 0 hF hC_S_init fs_S_20 (by decide) (by decide) fl_S_20 rfl rfl hS k29_33 ?_
      refine lv_iload_n hx hb k29_36.1 rfl (lv_at hl 0 rfl) ?_
      refine n_new (ci := 0) (fs := [.null, .null, .int 0]) hF hC_S_init rfl tyX0_ok inw_0 cl9_S_18 in9_0 ini9_0 (fun j hj => by match j, hj with | 0, _ => rfl | 1, _ => rfl | 2, _ => rfl) hS hA (by omega) (by omega) k29_37 (fun q H hS => ?_)
      refine lv_dup hx hb k29_40.1 rfl ?_
      refine n_initN (c_F_init (l := l) (D := D) (s := s) (j := i)) hF hC_S_init ok_F_init hH_F_init hR_F_init hn_F_init il_S_24 hi_F_init hl.1 (Nat.le_of_ble_eq_true rfl) hS hA (by omega) (by omega) k29_41 (fun ρ' cA' H locs hq hT' hS2 => ?_)
      subst hq
      have hS := hS2.perm (ws' := (h0, .inr (3, [.ref (ρ (4, s, 0)), .ref (ρ (10, s, 0)), .int 0])) :: (ρ (10, s, 0), .inl (cA (10, s, 0), rfQ (fun a => if a < i then some (ρ (0, s, a)) else none))) :: (nW ρ' cA' (fLs s i) ++ nW ρ cA (tLs s ++ fAll s i))) (List.Perm.cons _ (List.Perm.cons _ List.perm_append_comm))
      refine n_astq (r := (RX0, TX0, 3)) (ci := 0) (vs := [.ref (ρ' (8, s, i)), .ref (ρ' (9, s, i)), .int 0]) 1 2 hF (hT (10, s, 0) List.mem_cons_self (by simp)) rfl rfl rfl (vp_in_nI hlt (by decide)) hS k29_44 (fun H locs hS => ?_)
      have hcc : (nI i).toNatClampNeg = i := nI_clamp (by omega)
      rw [hcc] at hS
      have hS : nS D A s9.heap H locs ([(h0, .inr (3, [.ref (ρ (4, s, 0)), .ref (ρ (10, s, 0)), .int 0]))] ++ (ρ (10, s, 0), .inl (cA (10, s, 0), 6, .inr (.inr (.inr (.inr (va_up (fun a => if a < i then some (ρ (0, s, a)) else none) i (some (ρ' (0, s, i))))))))) :: (nW ρ' cA' (fLs s i) ++ nW ρ cA (tLs s ++ fAll s i))) := hS
      rw [nW_pick (ρ' := ρ) (cA' := cA) (dF_cl (i := i)) (dF_in (s := s) (i := i)), nW_pick2 (d := dF i) (ρ := ρ') (ρ' := ρ) (cA := cA') (cA' := cA) (L := tLs s ++ fAll s i) (fun r hr => dF_out hr)] at hS
      have hS := hS.same (sameC_q (g := fun a => if a < i + 1 then some (pick (dF i) ρ' ρ (0, s, a)) else none) (fun j hj => by
        unfold va_up pick dF
        by_cases e1 : j = i
        · subst e1
          simp
        · have e2 : (j == i) = false := by simp [e1]
          by_cases e3 : j < i
          · simp [e1, e3, show j < i + 1 by omega]
          · simp [e1, e3, show ¬ j < i + 1 by omega]))
      refine lv_iinc (lv' := [(1, .int (nI (i + 1))), (0, .ref h0)]) hx hb k29_45.1 hl (k := 0) rfl (nI_1 i) (by rw [hL_S_init]; decide) rfl (fun ls hl => ?_)
      refine lv_goto (tgt := 26) hx hb k29_48.1 (by decide) ?_
      refine W.widen (k := 5 + 3 * (i + 1)) (n := 51 + 27 * (i + 1)) (by omega) (by omega) ?_
      refine ih (i + 1) (pick (dF i) ρ' ρ) (pick (dF i) cA' cA) H locs ls (by omega) hρ ?_ ?_ hl
      · rw [fAll_s, ← List.append_assoc]
        intro r hr hk
        rcases List.mem_cons.mp hr with rfl | hr
        · exact hT (10, s, 0) List.mem_cons_self hk
        · rcases List.mem_append.mp hr with hr | hr
          · exact nT_pick2 (L := tLs s ++ fAll s i) (fun r hr => (dF_out hr).1) (fun r hr hk => hT r (List.mem_cons_of_mem _ hr) hk) r hr hk
          · exact nT_pick (dF_in (s := s) (i := i)) hT' r hr hk
      · rw [fAll_s, ← List.append_assoc, nW_app]
        exact hS.perm (List.Perm.cons _ (List.Perm.cons _ List.perm_append_comm))
  have hS : nS D A s9.heap s9.heap [] [(h0, .inr (3, [.null, .null, .int 0]))] := hS
  refine lv_aload_n hx hb k29_0.1 rfl (lv_at hl 0 rfl) ?_
  refine n_objInit hF hC_S_init oi_S_init oi_in oi_co (by decide) hl.1 rfl k29_1 ?_
  refine lv_aload_n hx hb k29_4.1 rfl (lv_at hl 0 rfl) ?_
  refine n_new (ci := 4) (fs := [.null, .null, .null, .int 0, .int 0, .int 0]) hF hC_S_init rfl tyX4_ok inw_4 cl9_S_9 in9_4 ini9_4 (fun j hj => by match j, hj with | 0, _ => rfl | 1, _ => rfl | 2, _ => rfl | 3, _ => rfl | 4, _ => rfl | 5, _ => rfl) hS hA (by omega) (by omega) k29_5 (fun q H hS => ?_)
  refine lv_dup hx hb k29_8.1 rfl ?_
  refine n_initN (c_T_init (l := l) (D := D) (s := s)) hF hC_S_init ok_T_init hH_T_init hR_T_init hn_T_init il_S_11 hi_T_init hl.1 (Nat.le_of_ble_eq_true rfl) hS hA (by omega) (by omega) k29_9 (fun ρ1 cA1 H locs hq hT1 hS2 => ?_)
  subst hq
  have hS := hS2
  refine n_put (ty := .object "AcreOffice$Traverse") 0 hF hC_S_init fs_S_12 (by decide) (by decide) fl_S_12 (fun _ => ⟨hin, rfl⟩) (by decide +kernel) rfl rfl (Nat.le_of_ble_eq_true rfl) rfl hS k29_12 (fun H locs hS => ?_)
  refine lv_aload_n hx hb k29_15.1 rfl (lv_at hl 0 rfl) ?_
  refine lv_bipush (v := 6) hx hb k29_16.1 (by decide) ?_
  refine n_newq (C := "AcreOffice$Field") (N := 6) hF hC_S_init cl9_S_18 hV.2.2.1 (by decide) (by decide) (by decide) hS hA (by omega) (by omega) k29_18 (fun q2 cK H hTK hS => ?_)
  refine n_put (ty := .array (.object "AcreOffice$Field")) 0 hF hC_S_init fs_S_20 (by decide) (by decide) fl_S_20 (fun _ => ⟨hin, rfl⟩) (by decide +kernel) rfl rfl (Nat.le_of_ble_eq_true rfl) rfl hS k29_21 (fun H locs hS => ?_)
  have hS : nS D A s9.heap H locs ((h0, .inr (3, [.ref (ρ1 (4, s, 0)), .ref q2, .int 0])) :: (nW ρ1 cA1 (tLs s) ++ [(q2, .inl (cK, rfQ (fun _ => none)))])) := hS
  have hS := hS.perm (List.Perm.cons _ (List.perm_append_comm (l₁ := nW ρ1 cA1 (tLs s)) (l₂ := [(q2, .inl (cK, rfQ (fun _ => none)))])))
  refine lv_iconst (v := 0) hx hb k29_24.1 (by decide) ?_
  refine lv_istore_n (lv' := [(1, .int 0), (0, .ref h0)]) hx hb k29_25.1 rfl hl (by rw [hL_S_init]; decide) rfl (fun ls hl => ?_)
  refine W.widen (k := 5 + 3 * 0) (n := 51 + 27 * 0) (by omega) (by omega) ?_
  refine loop 6 0 (fun r => match r.1 with | 3 => h0 | 10 => q2 | _ => ρ1 r) (fun r => match r.1 with | 10 => cK | _ => cA1 r) H locs ls rfl rfl ?_ hS hl
  intro r hr hk
  rcases List.mem_cons.mp hr with rfl | hr
  · exact hTK
  · have hr : r ∈ tLs s ++ [] := hr
    rw [List.append_nil] at hr
    have h9 := hT1 r hr hk
    unfold tLs at hr
    simp only [List.mem_cons, List.not_mem_nil, or_false] at hr
    rcases hr with rfl | rfl | rfl | rfl <;> exact h9
