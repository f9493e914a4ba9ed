/-! THE HISTORY'S CONSTRUCTOR -/
def kS (k : Nat) : Bool := k == 0 || k == 3 || k == 4 || k == 7 || k == 8 || k == 9 || k == 10
def dS (t : Nat) : mRef → Bool := fun r => kS r.1 && r.2.1 == t
theorem dS_iff {t : Nat} {r : mRef} : dS t r = true ↔ kS r.1 = true ∧ r.2.1 = t := by unfold dS; simp
/-- a cell of a state names cells of the same state -/
theorem kS_ref {a b c k : Nat} {r' : mRef} (h : kS a = true) (hk : mRf (a, b, c) k = some r') : kS r'.1 = true ∧ r'.2.1 = b := by
  unfold kS at h
  simp only [Bool.or_eq_true, beq_iff_eq] at h
  rcases h with ((((((rfl | rfl) | rfl) | rfl) | rfl) | rfl) | rfl)
  · unfold mRf at hk
    simp only at hk
    split at hk
    · cases hk; exact ⟨rfl, rfl⟩
    · cases hk; exact ⟨rfl, rfl⟩
    · cases hk
  · unfold mRf at hk
    simp only at hk
    split at hk
    · cases hk; exact ⟨rfl, rfl⟩
    · cases hk; exact ⟨rfl, rfl⟩
    · cases hk
  · unfold mRf at hk
    simp only at hk
    split at hk
    · cases hk; exact ⟨rfl, rfl⟩
    · cases hk; exact ⟨rfl, rfl⟩
    · cases hk; exact ⟨rfl, rfl⟩
    · cases hk
  · cases hk
  · cases hk
  · cases hk
  · cases hk
theorem dS_cl {t : Nat} : dCl (dS t) := by
  refine ⟨fun r h k r' hk => ?_, fun r h h10 a => ?_, fun r h h11 => ?_⟩
  · obtain ⟨a, b, c⟩ := r
    obtain ⟨h1, h2⟩ := dS_iff.mp h
    obtain ⟨g1, g2⟩ := kS_ref h1 hk
    exact dS_iff.mpr ⟨g1, g2.trans h2⟩
  · exact dS_iff.mpr ⟨rfl, (dS_iff.mp h).2⟩
  · have := (dS_iff.mp h).1
    rw [h11] at this
    exact absurd this (by decide)
theorem dOut_of {d d' : mRef → Bool} {r : mRef} (hcl : dCl d') (hdis : ∀ x, d' x = true → d x = false) (hr : d' r = true) : dOut d r :=
  ⟨hdis r hr, fun k r' hk => hdis r' (hcl.1 r hr k r' hk), fun h a => hdis _ (hcl.2.1 r hr h a), fun h a => hdis _ (hcl.2.2 r hr h a)⟩
theorem dS_dis {t t' : Nat} (h : t ≠ t') : ∀ x, dS t' x = true → dS t x = false := by
  intro x hx
  obtain ⟨h1, h2⟩ := dS_iff.mp hx
  unfold dS
  rw [h1, h2]
  simp
  omega
theorem stLs_in {t : Nat} : ∀ r ∈ stLs t, dS t r = true := by
  intro r hr
  unfold stLs at hr
  rcases List.mem_cons.mp hr with rfl | hr
  · exact dS_iff.mpr ⟨rfl, rfl⟩
  rcases List.mem_cons.mp hr with rfl | hr
  · exact dS_iff.mpr ⟨rfl, rfl⟩
  rcases List.mem_append.mp hr with hr | hr
  · unfold tLs at hr
    simp only [List.mem_cons, List.not_mem_nil, or_false] at hr
    rcases hr with rfl | rfl | rfl | rfl <;> exact dS_iff.mpr ⟨rfl, rfl⟩
  · obtain ⟨j, hj, hr⟩ := fAll_mem hr
    unfold fLs at hr
    simp only [List.mem_cons, List.not_mem_nil, or_false] at hr
    rcases hr with rfl | rfl | rfl <;> exact dS_iff.mpr ⟨rfl, rfl⟩
def sAll (n : Nat) : List mRef := (List.range n).flatMap (fun i => stLs (3 + i))
theorem sAll_s {n : Nat} : sAll (n + 1) = sAll n ++ stLs (3 + n) := by
  unfold sAll
  rw [List.range_succ, List.flatMap_append]
  simp
theorem sAll_mem {n : Nat} {r : mRef} (h : r ∈ sAll n) : ∃ j, j < n ∧ r ∈ stLs (3 + j) := by
  obtain ⟨j, hj, hr⟩ := List.mem_flatMap.mp h
  exact ⟨j, List.mem_range.mp hj, hr⟩
theorem sAll_out {i : Nat} : ∀ r ∈ sAll i, dOut (dS (3 + i)) r := by
  intro r hr
  obtain ⟨j, hj, hr⟩ := sAll_mem hr
  exact dOut_of (dS_cl (t := 3 + j)) (dS_dis (by omega)) (stLs_in r hr)
def hLs : List mRef := (1, 0, 0) :: (11, 0, 0) :: sAll 4
def rfH (f : Nat → Option Nat) : vp_A := (4, .inr (.inr (.inr (.inr f))))
theorem nF.le {D : va_G} {mi d d' : Nat} {p : Program} {R : Room} {s : State} {m : MethodId} {c : Code} (h : nF D mi d p R s m c) (hd : d' ≤ d) : nF D mi d' p R s m c := by
  obtain ⟨a, b, c1, d1, e1, f1, g1⟩ := h
  exact ⟨a, b, c1, d1, by omega, by omega, g1⟩
theorem c_H_init {l : Launch} {D : va_G} : nMet l D iH_init 3 1 [.null, .int 0, .int 0] (1, 0, 0) hLs 97 868 := by
  refine nMet_of hp_H_init hH_H_init hR_H_init hn_H_init ?_ (by rw [hL_H_init]; decide)
  intro p e R s9 m args below meth c h0 A Q hF hin hRc hRs hA hend hS ls hl
  have hx := hF.1
  have hb := hF.2.1
  have hV := hF.2.2.2.2.2.2
  have loop : ∀ (z i : Nat) (ρ : mRef → Nat) (cA : mRef → ClassId) (H : Heap) (locs : List Loc) (ls : Array Slot), i + z = 4 → ρ (1, 0, 0) = h0 → nT s9 cA ((11, 0, 0) :: sAll i) →
      nS D A s9.heap H locs ((h0, .inr (1, [.ref (ρ (11, 0, 0)), .int 0, .int 0])) :: (ρ (11, 0, 0), .inl (cA (11, 0, 0), rfH (fun a => if a < i then some (ρ (3, 3 + a, 0)) else none))) :: nW ρ cA (sAll i)) →
      lv_has ls (mL iH_init) [(1, .int (nI i)), (0, .ref h0)] → W p l e R s9 m args below meth c H locs (1 + 24 * i) (4 + 216 * i) Q (F0 m 14 ls []) := by
    intro z
    induction z with
    | zero =>
      intro i ρ cA H locs ls hi hρ hT hS hl
      obtain rfl : i = 4 := by omega
      refine lv_iload_n hx hb k25_14.1 rfl (lv_at hl 0 rfl) ?_
      refine lv_iconst (v := 4) hx hb k25_15.1 (by decide) ?_
      refine lv_icmp_ge (tgt := 38) hx hb k25_16.1 (by decide) (fun _ => ?_) (fun q => absurd (Int32.le_refl 4) q)
      refine lv_aload_n hx hb k25_38.1 rfl (lv_at hl 1 rfl) ?_
      refine lv_iconst (v := 0) hx hb k25_39.1 (by decide) ?_
      refine n_put (ty := .int) 0 hF hC_H_init fs_H_18 (by decide) (by decide) fl_H_18 (fun h => absurd h (by decide)) (by decide +kernel) rfl rfl (Nat.le_of_ble_eq_true rfl) rfl hS k25_40 (fun H locs hS => ?_)
      refine lv_aload_n hx hb k25_43.1 rfl (lv_at hl 1 rfl) ?_
      refine lv_iconst (v := 0) hx hb k25_44.1 (by decide) ?_
      refine n_put (ty := .int) 0 hF hC_H_init fs_H_22 (by decide) (by decide) fl_H_22 (fun h => absurd h (by decide)) (by decide +kernel) rfl rfl (Nat.le_of_ble_eq_true rfl) rfl hS k25_45 (fun H locs hS => ?_)
      have hS : nS D A s9.heap H locs ([(h0, .inr (1, [.ref (ρ (11, 0, 0)), .int 0, .int 0]))] ++ (ρ (11, 0, 0), .inl (cA (11, 0, 0), 4, .inr (.inr (.inr (.inr (fun a => if a < 4 then some (ρ (3, 3 + a, 0)) else none)))))) :: nW ρ cA (sAll 4)) := hS
      have hS := hS.same (sameC_q (g := fun a => some (ρ (3, 3 + a, 0))) (fun j hj => if_pos hj))
      refine W.widen (k := 97) (n := 868) (by omega) (by omega) ?_
      refine hend ρ cA _ _ _ _ _ hρ (fun r hr hk => ?_) ?_ k25_48
      · rcases List.mem_cons.mp hr with rfl | hr
        · exact absurd (show 7 ≤ 1 from hk) (by decide)
        · exact hT r hr hk
      · show nS D A s9.heap H locs ((ρ (1, 0, 0), mCell ρ cA mZ (1, 0, 0)) :: (ρ (11, 0, 0), mCell ρ cA mZ (11, 0, 0)) :: nW ρ cA (sAll 4))
        rw [hρ]
        exact hS
    | succ z ih =>
      intro i ρ cA H locs ls hi hρ hT hS hl
      have hlt : i < 4 := by omega
      refine lv_iload_n hx hb k25_14.1 rfl (lv_at hl 0 rfl) ?_
      refine lv_iconst (v := 4) hx hb k25_15.1 (by decide) ?_
      refine lv_icmp_ge (tgt := 38) hx hb k25_16.1 (by decide) (fun q => absurd (nI_le_of (a := 4) q) (by omega)) (fun _ => ?_)
      refine lv_aload_n hx hb k25_19.1 rfl (lv_at hl 1 rfl) ?_
      refine n_get 0 hF hC_H_init fs_H_11 (by decide) (by decide) fl_H_11 rfl rfl hS k25_20 ?_
      refine lv_iload_n hx hb k25_23.1 rfl (lv_at hl 0 rfl) ?_
      refine n_new (ci := 3) (fs := [.null, .null, .int 0]) hF hC_H_init rfl tyX3_ok inw_3 cl9_H_9 in9_3 ini9_3 (fun j hj => by match j, hj with | 0, _ => rfl | 1, _ => rfl | 2, _ => rfl) hS hA (by omega) (by omega) k25_24 (fun q H hS => ?_)
      refine lv_dup hx hb k25_27.1 rfl ?_
      refine n_init (c_S_init (l := l) (D := D) (s := 3 + i)) hF hC_H_init ok_S_init hH_S_init hR_S_init hn_S_init il_H_17 hi_S_init hl.1 (Nat.le_of_ble_eq_true rfl) hS hA (by omega) (by omega) k25_28 (fun ρ' cA' H locs hq hT' hS2 => ?_)
      subst hq
      have hS := hS2.perm (ws' := (h0, .inr (1, [.ref (ρ (11, 0, 0)), .int 0, .int 0])) :: (ρ (11, 0, 0), .inl (cA (11, 0, 0), rfH (fun a => if a < i then some (ρ (3, 3 + a, 0)) else none))) :: (nW ρ' cA' (stLs (3 + i)) ++ nW ρ cA (sAll i))) (List.Perm.cons _ (List.Perm.cons _ List.perm_append_comm))
      refine n_astq (r := (RX3, TX3, 3)) (ci := 3) (vs := [.ref (ρ' (4, 3 + i, 0)), .ref (ρ' (10, 3 + i, 0)), .int 0]) 1 2 hF (hT (11, 0, 0) List.mem_cons_self (by simp)) rfl rfl rfl (vp_in_nI hlt (by decide)) hS k25_31 (fun H locs hS => ?_)
      have hcc : (nI i).toNatClampNeg = i := nI_clamp (by omega)
      rw [hcc] at hS
      have hS : nS D A s9.heap H locs ([(h0, .inr (1, [.ref (ρ (11, 0, 0)), .int 0, .int 0]))] ++ (ρ (11, 0, 0), .inl (cA (11, 0, 0), 4, .inr (.inr (.inr (.inr (va_up (fun a => if a < i then some (ρ (3, 3 + a, 0)) else none) i (some (ρ' (3, 3 + i, 0))))))))) :: (nW ρ' cA' (stLs (3 + i)) ++ nW ρ cA (sAll i))) := hS
      rw [nW_pick (ρ' := ρ) (cA' := cA) (dS_cl (t := 3 + i)) (stLs_in (t := 3 + i)), nW_pick2 (d := dS (3 + i)) (ρ := ρ') (ρ' := ρ) (cA := cA') (cA' := cA) (L := sAll i) sAll_out] at hS
      have hS := hS.same (sameC_q (g := fun a => if a < i + 1 then some (pick (dS (3 + i)) ρ' ρ (3, 3 + a, 0)) else none) (fun j hj => by
        unfold va_up pick dS
        by_cases e1 : j = i
        · subst e1
          simp [kS]
        · have e2 : (3 + j == 3 + i) = false := by simp [e1]
          by_cases e3 : j < i
          · simp [e1, e3, show j < i + 1 by omega]
          · simp [e1, e3, show ¬ j < i + 1 by omega]))
      refine lv_iinc (lv' := [(1, .int (nI (i + 1))), (0, .ref h0)]) hx hb k25_32.1 hl (k := 0) rfl (nI_1 i) (by rw [hL_H_init]; decide) rfl (fun ls hl => ?_)
      refine lv_goto (tgt := 14) hx hb k25_35.1 (by decide) ?_
      refine W.widen (k := 1 + 24 * (i + 1)) (n := 4 + 216 * (i + 1)) (by omega) (by omega) ?_
      refine ih (i + 1) (pick (dS (3 + i)) ρ' ρ) (pick (dS (3 + i)) cA' cA) H locs ls (by omega) hρ ?_ ?_ hl
      · rw [sAll_s]
        intro r hr hk
        rcases List.mem_cons.mp hr with rfl | hr
        · exact hT (11, 0, 0) List.mem_cons_self hk
        · rcases List.mem_append.mp hr with hr | hr
          · exact nT_pick2 (L := sAll i) (fun r hr => (sAll_out r hr).1) (fun r hr hk => hT r (List.mem_cons_of_mem _ hr) hk) r hr hk
          · exact nT_pick (stLs_in (t := 3 + i)) hT' r hr hk
      · rw [sAll_s, nW_app]
        exact hS.perm (List.Perm.cons _ (List.Perm.cons _ List.perm_append_comm))
  have hS : nS D A s9.heap s9.heap [] [(h0, .inr (1, [.null, .int 0, .int 0]))] := hS
  refine lv_aload_n hx hb k25_0.1 rfl (lv_at hl 0 rfl) ?_
  refine n_objInit hF hC_H_init oi_H_init oi_in oi_co (by decide) hl.1 rfl k25_1 ?_
  refine lv_aload_n hx hb k25_4.1 rfl (lv_at hl 0 rfl) ?_
  refine lv_iconst (v := 4) hx hb k25_5.1 (by decide) ?_
  refine n_newq (C := "AcreOffice$State") (N := 4) hF hC_H_init cl9_H_9 hV.2.2.2 (by decide) (by decide) (by decide) hS hA (by omega) (by omega) k25_6 (fun q2 cK H hTK hS => ?_)
  refine n_put (ty := .array (.object "AcreOffice$State")) 0 hF hC_H_init fs_H_11 (by decide) (by decide) fl_H_11 (fun _ => ⟨hin, rfl⟩) (by decide +kernel) rfl rfl (Nat.le_of_ble_eq_true rfl) rfl hS k25_9 (fun H locs hS => ?_)
  refine lv_iconst (v := 0) hx hb k25_12.1 (by decide) ?_
  refine lv_istore_n (lv' := [(1, .int 0), (0, .ref h0)]) hx hb k25_13.1 rfl hl (by rw [hL_H_init]; decide) rfl (fun ls hl => ?_)
  refine W.widen (k := 1 + 24 * 0) (n := 4 + 216 * 0) (by omega) (by omega) ?_
  refine loop 4 0 (fun r => match r.1 with | 1 => h0 | _ => q2) (fun _ => cK) H locs ls rfl rfl ?_ hS hl
  intro r hr hk
  rcases List.mem_cons.mp hr with rfl | hr
  · exact hTK
  · exact absurd hr (by simp [sAll])
