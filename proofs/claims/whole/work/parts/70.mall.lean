/-! THE MODEL: all orders of the text -/
theorem s_M_doesAll {d L : Nat} {M : mM} {t f : Nat → Int32} {l : List mOrd} (h : TxM M t L) (hS : ShF f) (hB : BdF f) (hl : pars t L = .inr l) : CT iM_doesAll (d + 6) [vR 6 0 0] (mS M f) (.inl (some (vI (runO f l 0).1))) (mS M (runO f l 0).2) 0 := by
  have h80 := h.1
  have h8 : ∀ g, mS M g (6, 0, 0) 8 = nI L := fun g => by rw [mS_ne (by simp)]; exact h.2.1
  have fin : ∀ (g : Nat → Int32) (n : Int32) (p : Nat), L ≤ p → p ≤ 200 → AW iM_doesAll (d + 6) 4 [some (vR 6 0 0), some (vI n), some (vI (nI p))] [] (mS M g) (.inl (some (vI (-1)))) (mS M g) 0 := by
    intro g n p hp hp2
    refine aw_iload_n k161_4 rfl ?_
    refine aw_aload_n k161_5 rfl ?_
    refine aw_getI k161_6 hC_M_doesAll fs_M_122 (by decide) ⟨rfl, rfl⟩ rfl ?_
    try simp only [h8]
    refine aw_icmp_ge 36 k161_9 (by decide) (fun c_9 => ?_) (fun c_9 => ?_)
    · refine aw_iconst (v := (-1)) k161_36 (by decide) ?_
      refine aw_ireturn k161_37 hR_M_doesAll ?_ ?_
      all_goals first | rfl | exact Or.inl rfl | exact Or.inr rfl | assumption | (simp_all; done) | ((repeat' split) <;> first | rfl | (simp only [Int32.lt_iff_toInt_lt, Int32.le_iff_toInt_le, Int64.lt_iff_toInt_lt, Int64.le_iff_toInt_le] at *; omega) | (simp_all; done))
    · exact absurd (nI_nle_of c_9) (by omega)
  have loop : ∀ (k p i : Nat) (g : Nat → Int32) (os : List mOrd), ords (tx t L) L k p = .inr os → ShF g → BdF g → AW iM_doesAll (d + 6) 4 [some (vR 6 0 0), some (vI (nI i)), some (vI (nI p))] [] (mS M g) (.inl (some (vI (runO g os i).1))) (mS M (runO g os i).2) 0 := by
    intro k
    induction k with
    | zero => intro p i g os ho; exact absurd ho (by simp [ords])
    | succ k ih =>
      intro p i g os ho gS gB
      unfold ords at ho
      cases h1 : one (tx t L) p with
      | inl e => rw [h1] at ho; exact absurd ho (by simp)
      | inr qo =>
        obtain ⟨q, o⟩ := qo
        have hpL := (one_ok h1).2
        have hqL := (one_le (t := t) (Nat.le_of_lt hpL)).2 q o h1
        rw [h1] at ho
        simp only at ho
        have hA := s_M_does (d := d) h gS gB h1
        have hob : ∃ rest, os = o :: rest := by
          split at ho
          · split at ho
            · cases h2 : ords (tx t L) L k (q + 1) with
              | inl e => rw [h2] at ho; exact absurd ho (by simp)
              | inr l2 =>
                rw [h2] at ho
                simp at ho
                exact ⟨l2, ho.symm⟩
            · exact absurd ho (by simp)
          · simp at ho
            exact ⟨[], ho.symm⟩
        obtain ⟨rest, rfl⟩ := hob
        cases hd : doO g o with
        | none =>
          rw [hd] at hA
          have er : runO g (o :: rest) i = (nI i, g) := by unfold runO; rw [hd]
          rw [er]
          have hA2 : CT iM_does (d + 5) [vR 6 0 0, vI (nI p)] (mS M g) (.inl (some (vI 0))) (mS M g) 0 := hA
          refine aw_iload_n k161_4 rfl ?_
          refine aw_aload_n k161_5 rfl ?_
          refine aw_getI k161_6 hC_M_doesAll fs_M_122 (by decide) ⟨rfl, rfl⟩ rfl ?_
          try simp only [h8]
          refine aw_icmp_ge 36 k161_9 (by decide) (fun c_9 => ?_) (fun c_9 => ?_)
          · exact absurd (nI_le_of c_9) (by omega)
          · refine aw_aload_n k161_12 rfl ?_
            refine aw_iload_n k161_13 rfl ?_
            refine aw_callV1 k161_14 hC_M_doesAll ok_M_does sv_M_146 hH_M_does ⟨rfl, rfl⟩ (by decide) hN_M_does (by rw [hL_M_does]; exact Nat.le_of_ble_eq_true rfl) (Nat.le_of_ble_eq_true rfl) hA2 ?_
            refine aw_if_ne 22 k161_17 (by decide) (fun c_17 => ?_) (fun c_17 => ?_)
            · exact absurd rfl c_17
            · refine aw_iload_n k161_20 rfl ?_
              refine aw_ireturn k161_21 hR_M_doesAll ?_ ?_
              all_goals first | rfl | exact Or.inl rfl | exact Or.inr rfl | assumption | (simp_all; done) | ((repeat' split) <;> first | rfl | (simp only [Int32.lt_iff_toInt_lt, Int32.le_iff_toInt_le, Int64.lt_iff_toInt_lt, Int64.le_iff_toInt_le] at *; omega) | (simp_all; done))
        | some g2 =>
          rw [hd] at hA
          have er : runO g (o :: rest) i = runO g2 rest (i + 1) := by rw [runO]; rw [hd]
          rw [er]
          have hA2 : CT iM_does (d + 5) [vR 6 0 0, vI (nI p)] (mS M g) (.inl (some (vI 1))) (mS M g2) 0 := hA
          obtain ⟨gS2, gB2, -⟩ := doO_ok gS gB (one_okL h1) hd
          have hO := s_M_behindOrder (d := d + 2) (M := mS M g2) h.s (Nat.le_of_lt hpL)
          rw [h1] at hO
          have hO2 : CT iM_behindOrder (d + 5) [vR 6 0 0, vI (nI p)] (mS M g2) (.inl (some (vI (nI q)))) (mS M g2) 0 := hO
          have nx : AW iM_doesAll (d + 6) 4 [some (vR 6 0 0), some (vI (nI (i + 1))), some (vI (nI (q + 1)))] [] (mS M g2) (.inl (some (vI (runO g2 rest (i + 1)).1))) (mS M (runO g2 rest (i + 1)).2) 0 := by
            split at ho
            · split at ho
              · cases h2 : ords (tx t L) L k (q + 1) with
                | inl e => rw [h2] at ho; exact absurd ho (by simp)
                | inr l2 =>
                  rw [h2] at ho
                  simp at ho
                  rw [← ho]
                  exact ih (q + 1) (i + 1) g2 l2 h2 gS2 gB2
              · exact absurd ho (by simp)
            · simp at ho
              rw [ho]
              exact fin g2 _ (q + 1) (by omega) (by omega)
          refine aw_iload_n k161_4 rfl ?_
          refine aw_aload_n k161_5 rfl ?_
          refine aw_getI k161_6 hC_M_doesAll fs_M_122 (by decide) ⟨rfl, rfl⟩ rfl ?_
          try simp only [h8]
          refine aw_icmp_ge 36 k161_9 (by decide) (fun c_9 => ?_) (fun c_9 => ?_)
          · exact absurd (nI_le_of c_9) (by omega)
          · refine aw_aload_n k161_12 rfl ?_
            refine aw_iload_n k161_13 rfl ?_
            refine aw_callV1 k161_14 hC_M_doesAll ok_M_does sv_M_146 hH_M_does ⟨rfl, rfl⟩ (by decide) hN_M_does (by rw [hL_M_does]; exact Nat.le_of_ble_eq_true rfl) (Nat.le_of_ble_eq_true rfl) hA2 ?_
            refine aw_if_ne 22 k161_17 (by decide) (fun c_17 => ?_) (fun c_17 => ?_)
            · refine aw_iinc (y := 1) k161_22 rfl (by decide) rfl ?_
              try simp only [h8]
              rw [nI_1 i]
              refine aw_aload_n k161_25 rfl ?_
              refine aw_iload_n k161_26 rfl ?_
              refine aw_callV1 k161_27 hC_M_doesAll ok_M_behindOrder sv_M_134 hH_M_behindOrder ⟨rfl, rfl⟩ (by decide) hN_M_behindOrder (by rw [hL_M_behindOrder]; exact Nat.le_of_ble_eq_true rfl) (Nat.le_of_ble_eq_true rfl) hO2 ?_
              refine aw_iconst (v := 1) k161_30 (by decide) ?_
              refine aw_iadd k161_31 ?_
              rw [nI_1 q]
              refine aw_istore_n k161_32 (Nat.le_of_ble_eq_true rfl) rfl ?_
              refine aw_goto (t := 4) k161_33 (by decide) ?_
              exact nx
            · exact absurd (show (1 : Int32) = 0 from c_17) (by decide)
  have i9 := loop 81 0 0 f l hl hS hB
  refine ct_go hL_M_doesAll rfl ?_
  refine aw_iconst (v := 0) k161_0 (by decide) ?_
  refine aw_istore_n k161_1 (Nat.le_of_ble_eq_true rfl) rfl ?_
  refine aw_iconst (v := 0) k161_2 (by decide) ?_
  refine aw_istore_n k161_3 (Nat.le_of_ble_eq_true rfl) rfl ?_
  exact i9
theorem ords_okL {t : Nat → Int32} {L : Nat} : ∀ {k p : Nat} {os : List mOrd}, ords (tx t L) L k p = .inr os → ∀ o ∈ os, okL o := by
  intro k
  induction k with
  | zero => intro p os h; exact absurd h (by simp [ords])
  | succ k ih =>
    intro p os h
    unfold ords at h
    cases h1 : one (tx t L) p with
    | inl e => rw [h1] at h; exact absurd h (by simp)
    | inr qo =>
      obtain ⟨q, o⟩ := qo
      have hok := one_okL h1
      rw [h1] at h
      simp only at h
      split at h
      · split at h
        · cases h2 : ords (tx t L) L k (q + 1) with
          | inl e => rw [h2] at h; exact absurd h (by simp)
          | inr l =>
            rw [h2] at h
            simp at h
            rw [← h]
            intro o' ho'
            rcases List.mem_cons.mp ho' with e | e
            · rw [e]; exact hok
            · exact ih h2 o' e
        · exact absurd h (by simp)
      · simp at h
        rw [← h]
        intro o' ho'
        rw [List.mem_singleton.mp ho']
        exact hok
theorem runO_ok : ∀ {l : List mOrd} {f : Nat → Int32} {i : Nat}, (∀ o ∈ l, okL o) → ShF f → BdF f → ShF (runO f l i).2 ∧ BdF (runO f l i).2 ∧ ∀ j, 190 ≤ j → (runO f l i).2 j = f j := by
  intro l
  induction l with
  | nil => intro f i _ hS hB; exact ⟨hS, hB, fun _ _ => rfl⟩
  | cons o l ih =>
    intro f i ho hS hB
    cases hd : doO f o with
    | none =>
      have er : runO f (o :: l) i = (nI i, f) := by unfold runO; rw [hd]
      rw [er]
      exact ⟨hS, hB, fun _ _ => rfl⟩
    | some g =>
      have er : runO f (o :: l) i = runO g l (i + 1) := by rw [runO]; rw [hd]
      rw [er]
      obtain ⟨gS, gB, gH⟩ := doO_ok hS hB (ho o List.mem_cons_self) hd
      obtain ⟨a, b, c⟩ := ih (f := g) (i := i + 1) (fun o' h' => ho o' (List.mem_cons_of_mem _ h')) gS gB
      exact ⟨a, b, fun j hj => (c j hj).trans (gH j hj)⟩
