/-! THE LAW FROM ITS ENTRY -/
theorem w_thr1 : Cond.laysStatic Bundle.tN "UNASSIGNED_STACK" Bundle.steD ∈ lw_tbl := by decide +kernel
theorem w_thr2 : Cond.laysStatic Bundle.tN "SUPPRESSED_SENTINEL" Bundle.listD ∈ lw_tbl := by decide +kernel
theorem w_thr3 : Cond.initialized Bundle.tN ∈ lw_tbl := by decide +kernel
theorem w_ov1 : Cond.arrayOver (.object "AcreOffice$Field") ∈ lw_tbl := by decide +kernel
theorem w_ov2 : Cond.arrayOver (.object "AcreOffice$State") ∈ lw_tbl := by decide +kernel
theorem w_ex1 : Cond.instantiable tIAE 6 ∈ lw_tbl := by decide +kernel
theorem w_ex2 : Cond.instantiable tISE 6 ∈ lw_tbl := by decide +kernel
theorem w_ex3 : Cond.instantiable tIOB 6 ∈ lw_tbl := by decide +kernel
theorem w_str : ∀ q ∈ mStr, Cond.stringRef "AcreOffice" q.1 q.2 ∈ lw_tbl := by decide +kernel
theorem u_ws0 {C : String} {T : u_T} : ∀ w ∈ u_ws C T 0, w ∈ lw_tbl := fun w h => by simp [u_ws] at h
theorem kn_all {s : State} {b : Nat} (hts : ∀ w ∈ lw_tbl, w.before #[Value.ref b] s = true) : ∃ D : va_G, ∀ (c : Nat) (q : vw_C), mCl[c]? = some q → u_Kn s q.1 q.2.1 q.2.2 (D.1 c) (D.2 c) := by
  have one : ∀ {C : String} {T : u_T} {N n : Nat} {k : Nat}, mCl[k]? = some (C, T, N) → (∀ w ∈ u_ws C T N, w ∈ lw_tbl) → Cond.instantiable C n ∈ lw_tbl → ∃ (cC : ClassId) (iS : Nat → Nat), ∀ q : vw_C, mCl[k]? = some q → u_Kn s q.1 q.2.1 q.2.2 cC iS := by
    intro C T N n k hk hin hi
    obtain ⟨cC, iS, h⟩ := u_known (C := C) (T := T) (N := N) (n := n) hts hin (hts _ hi)
    refine ⟨cC, iS, fun q hq => ?_⟩
    cases Option.some.inj (hk.symm.trans hq)
    exact h
  have hex : ∀ k : Nat, ∃ (cC : ClassId) (iS : Nat → Nat), ∀ q : vw_C, mCl[k]? = some q → u_Kn s q.1 q.2.1 q.2.2 cC iS := by
    intro k
    match k with
    | 0 => exact one rfl inw_0 in9_0
    | 1 => exact one rfl inw_1 in9_1
    | 2 => exact one rfl inw_2 in9_2
    | 3 => exact one rfl inw_3 in9_3
    | 4 => exact one rfl inw_4 in9_4
    | 5 => exact one rfl inw_5 in9_5
    | 6 => exact one rfl inw_6 in9_6
    | 7 => exact one rfl u_ws0 w_ex1
    | 8 => exact one rfl u_ws0 w_ex2
    | 9 => exact one rfl u_ws0 w_ex3
    | k + 10 =>
      obtain ⟨cC, iS, -⟩ := one (k := 0) rfl inw_0 in9_0
      exact ⟨cC, iS, fun q hq => by simp at hq⟩
  exact ⟨(fun k => Classical.choose (hex k), fun k => Classical.choose (Classical.choose_spec (hex k))), fun c q hq => Classical.choose_spec (Classical.choose_spec (hex c)) q hq⟩
theorem str_ex {s : State} {b : Nat} (hgv : (Jvm.Cond.and given_1 narrow_1).before #[Value.ref b] s = true) : ∀ q ∈ mStr, (Cond.exactly (.string "AcreOffice" q.1) "java/lang/String").before #[Value.ref b] s = true := by
  have hs := flat_of_before _ hgv
  intro q hq
  unfold mStr at hq
  simp only [List.mem_cons, List.not_mem_nil, or_false] at hq
  rcases hq with rfl | rfl | rfl | rfl | rfl | rfl | rfl | rfl | rfl | rfl | rfl | rfl | rfl
  · exact hs (.exactly (.string "AcreOffice" 46) "java/lang/String") (by decide +kernel)
  · exact hs (.exactly (.string "AcreOffice" 51) "java/lang/String") (by decide +kernel)
  · exact hs (.exactly (.string "AcreOffice" 68) "java/lang/String") (by decide +kernel)
  · exact hs (.exactly (.string "AcreOffice" 82) "java/lang/String") (by decide +kernel)
  · exact hs (.exactly (.string "AcreOffice" 85) "java/lang/String") (by decide +kernel)
  · exact hs (.exactly (.string "AcreOffice" 94) "java/lang/String") (by decide +kernel)
  · exact hs (.exactly (.string "AcreOffice" 105) "java/lang/String") (by decide +kernel)
  · exact hs (.exactly (.string "AcreOffice" 138) "java/lang/String") (by decide +kernel)
  · exact hs (.exactly (.string "AcreOffice" 147) "java/lang/String") (by decide +kernel)
  · exact hs (.exactly (.string "AcreOffice" 164) "java/lang/String") (by decide +kernel)
  · exact hs (.exactly (.string "AcreOffice" 258) "java/lang/String") (by decide +kernel)
  · exact hs (.exactly (.string "AcreOffice" 199) "java/lang/String") (by decide +kernel)
  · exact hs (.exactly (.string "AcreOffice" 231) "java/lang/String") (by decide +kernel)
theorem str_all {s : State} {b : Nat} (hts : ∀ w ∈ lw_tbl, w.before #[Value.ref b] s = true) (hgv : (Jvm.Cond.and given_1 narrow_1).before #[Value.ref b] s = true) : ∃ sa : Nat → Nat, ∀ (i : Nat) (q : Nat × String), mStr[i]? = some q → vk_R "AcreOffice" q.1 q.2 (sa i) s := by
  have hex : ∀ i : Nat, ∃ a : Nat, ∀ q : Nat × String, mStr[i]? = some q → vk_R "AcreOffice" q.1 q.2 a s := by
    intro i
    cases h : mStr[i]? with
    | none => exact ⟨0, fun q hq => absurd hq (by simp)⟩
    | some q =>
      have hq := List.mem_of_getElem? h
      obtain ⟨a, c, cA, kA, q1, -⟩ := Cond.exactly_spec (args := #[Value.ref b]) (first := s) (o := none) (s := s) (idx := []) (t := .string "AcreOffice" q.1) (cls := "java/lang/String") (str_ex hgv q hq)
      refine ⟨a, fun q' hq' => ?_⟩
      cases hq'
      exact vk_R.of (A := #[Value.ref b]) (hts _ (w_str q hq)) q1
  exact ⟨fun i => Classical.choose (hex i), fun i q hq => Classical.choose_spec (hex i) q hq⟩
theorem nc_all {s : State} : ∀ q ∈ mNcs, va_Nc q.1 q.2 s := fun q hq => by simp [mNcs] at hq
theorem zq_all {s : State} {b : Nat} (hts : ∀ w ∈ lw_tbl, w.before #[Value.ref b] s = true) (hgv : (Jvm.Cond.and given_1 narrow_1).before #[Value.ref b] s = true) : vx_Zq Bundle.tN "UNASSIGNED_STACK" Bundle.steD (mA0 s.heap.size) s s.heap ∧ vx_Zq Bundle.tN "SUPPRESSED_SENTINEL" Bundle.listD (mA0 s.heap.size) s s.heap := by
  have hs := flat_of_before _ hgv
  have hA : ∀ a : Nat, a < s.heap.size → ¬ mA0 s.heap.size a := fun a h q => by unfold mA0 at q; omega
  exact ⟨vx_Zqof (hts _ w_thr1) (hts _ w_thr3) (hs (.isRef (.static Bundle.tN "UNASSIGNED_STACK" Bundle.steD)) (by decide +kernel)) hA, vx_Zqof (hts _ w_thr2) (hts _ w_thr3) (hs (.isRef (.static Bundle.tN "SUPPRESSED_SENTINEL" Bundle.listD)) (by decide +kernel)) hA⟩
theorem tr_off {l : Launch} (h : l.flags = flags0) : l.stackTraces = false := by
  unfold Launch.stackTraces
  rw [h]
  decide
theorem lB : mB iL_law = code := rfl
theorem lL : mL iL_law = 12 := rfl
/-- the law behind the making of the office -/
theorem law_go {p : Program} {e : Env} {s : State} {m : MethodId} {below : List Frame} {meth : Method} {c : Code} (l : Launch) (hflags : l.flags = flags0) {b L : Nat} {xs : Nat → Int32} (hL : L ≤ 260) (C0 : lw_At p s m meth c b L xs) {D : va_G} (hV : kV D s) {ρ : mRef → Nat} {cA : mRef → ClassId} {H : Heap} {locs : List Loc} {ls : Array Slot} {cells slots : Nat}
    (hρ : ρ (15, 0, 0) = b) (hT : nT s cA mAll) (hS : nS D (mA0 s.heap.size) s.heap H locs (nW ρ cA mAll)) (hl : lR ρ 12 [some (vR 15 0 0), some (vR 5 0 0), none, none, none, none, none, none, none, none, none, none] ls) (hc : cells ≤ 600130) (hs9 : slots ≤ 7301080) : W p l e room_1 s m #[Value.ref b] below meth c H locs cells slots (lw_Z below #[Value.ref b] s) (F0 m 8 ls []) := by
  obtain ⟨hx, hb, hr, hml, hown, hts, hX, hbl, hlocks, hgv, htab⟩ := id C0
  obtain ⟨sa, hsa⟩ := str_all hts hgv
  obtain ⟨hz1, hz2⟩ := zq_all hts hgv
  obtain ⟨M3, hG⟩ := lg_main (d := 0) (M := M0 xs L) hL cr0 z0_ip rfl
  have hVF : mVF D cA sa s := ⟨hV.1, hV.2.1, hT, hsa, nc_all⟩
  have hHF : mHF ρ s.heap.size L xs s s.heap := ⟨hz1, hz2, Nat.le_refl _, by rw [hρ]; exact hX, by rw [hρ]; exact hbl⟩
  have hFR : mFR D ρ cA s.heap.size L sa xs p l e room_1 s m #[Value.ref b] below meth c iL_law 11 :=
    ⟨hx, hb, hml, hown, htab.trans (by rw [hH_L_law]; rfl), hlocks, hr, tr_off hflags, by decide, by decide, hVF, hHF, by omega⟩
  have hFin : mFin D ρ cA s.heap.size L xs p l e room_1 s m #[Value.ref b] below meth c iL_law (.inl (some (vI 1))) M3 600130 7301080 (lw_Z below #[Value.ref b] s) := by
    intro H9 locs9 ls9 pc9 ins9 hret hdg hR9 hS9
    obtain ⟨rfl, -⟩ := hret
    exact va_forget hS9.2.2 (lw_ret hx hb hr hlocks hdg)
  have hW0 : mWs ρ cA (M0 xs L) = nW ρ cA mAll := by
    unfold mWs nW
    refine List.map_congr_left (fun r hr9 => ?_)
    rw [mCell_congr (M0_z (mAll_15 r hr9) (fun e9 => by rw [e9] at hr9; exact absurd hr9 (by decide +kernel)))]
  have hRp : mRp D ρ cA s.heap.size L xs (M0 xs L) H := ⟨⟨by rw [hW0]; exact hS.1, by rw [hW0]; exact hS.2.1, rfl⟩, rfl⟩
  exact hG D ρ cA s.heap.size L sa xs p l e room_1 s m #[Value.ref b] below meth c _ 600130 7301080 hFR (Nat.le_refl _) (Nat.le_refl _) hFin H locs ls cells slots (by omega) (by omega) hRp hS.2.2 hl
theorem whole_start {p : Program} {e : Env} {s : State} {m : MethodId} {below : List Frame} {meth : Method} {c : Code} (l : Launch) (hflags : l.flags = flags0) {b L : Nat} {xs : Nat → Int32} (hL : L ≤ 260) (C0 : lw_At p s m meth c b L xs) : W p l e room_1 s m #[Value.ref b] below meth c s.heap [] 0 0 (lw_Z below #[Value.ref b] s) (entryFrame m ([Value.ref b] : List Value).toArray 12) := by
  obtain ⟨hx, hb, hr, hml, hown, hts, hX, hbl, hlocks, hgv, htab⟩ := id C0
  obtain ⟨D, hD⟩ := kn_all hts
  have hV : kV D s := ⟨fun w hw hm => mw_keep (State.WarmedH.refl s) hm (hts w hw), hD, va_AO.of (hts _ w_ov1), va_AO.of (hts _ w_ov2)⟩
  have hF : nF D iL_law 5 p room_1 s m c := ⟨hx, hb, hml, hown, by decide, by decide, hV⟩
  have hA : ∀ q, s.heap.size ≤ q → mA0 s.heap.size q := fun q h => h
  have hS : nS D (mA0 s.heap.size) s.heap s.heap [] [] := ⟨fun k q h => by simp at h, ⟨fun i j p q h => by simp at h, fun k q h => by simp at h⟩, va_S.rf⟩
  have hl := lv_entry ([.ref b]) (n := 12) (Nat.le_of_ble_eq_true rfl)
  rw [lg_entry_eq]
  generalize (lg_sl ([.ref b]) ++ List.replicate (12 - (lg_sl ([.ref b])).length) Slot.unset).toArray = ls at hl ⊢
  have hl : lv_has ls 12 [(0, .ref b)] := hl
  refine n_new (ci := 5) (fs := [.null, .null, .null, .null, .null, .int 0]) hF hC_L_law rfl tyX5_ok inw_5 cl9_L_16 in9_5 ini9_5 (fun j hj => by match j, hj with | 0, _ => rfl | 1, _ => rfl | 2, _ => rfl | 3, _ => rfl | 4, _ => rfl | 5, _ => rfl) hS hA (by decide) (by decide) k105_0 (fun q H hS => ?_)
  refine lv_dup hx hb k105_3.1 rfl ?_
  refine n_init (c_A_init (l := l) (D := D)) hF hC_L_law ok_A_init hH_A_init hR_A_init hn_A_init il_L_143 hi_A_init hl.1 (Nat.le_of_ble_eq_true rfl) hS hA (by decide) (by decide) k105_4 (fun ρ1 c1 H locs hq hT1 hS1 => ?_)
  subst hq
  refine lv_astore_n (lv' := [(1, .ref (ρ1 (5, 0, 0))), (0, .ref b)]) hx hb k105_7.1 rfl hl (by decide) rfl (fun ls hl => ?_)
  have hS : nS D (mA0 s.heap.size) s.heap H locs (nW ρ1 c1 aLs) := hS1
  have e1 : nW ρ1 c1 aLs = nW (pick dA ρ1 (fun _ => b)) (pick dA c1 c1) aLs := nW_pick dA_cl aLs_in
  rw [e1] at hS
  have hS := hS.perm (aLs_perm.map (fun r => (pick dA ρ1 (fun _ => b) r, mCell (pick dA ρ1 (fun _ => b)) (pick dA c1 c1) mZ r)))
  refine law_go l hflags hL C0 hV (ρ := pick dA ρ1 (fun _ => b)) (cA := pick dA c1 c1) rfl ?_ hS ?_ (by decide) (by decide)
  · intro r hr hk
    have hr := aLs_perm.mem_iff.mpr hr
    exact nT_pick aLs_in hT1 r hr hk
  · refine ⟨hl.1, hl.2.1, rfl, fun i a hi => ?_⟩
    match i, hi with
    | 0, hi => cases hi; exact lv_at hl 1 rfl
    | 1, hi => cases hi; exact lv_at hl 0 rfl
    | 2, hi => cases hi
    | 3, hi => cases hi
    | 4, hi => cases hi
    | 5, hi => cases hi
    | 6, hi => cases hi
    | 7, hi => cases hi
    | 8, hi => cases hi
    | 9, hi => cases hi
    | 10, hi => cases hi
    | 11, hi => cases hi
    | k + 12, hi => simp at hi
