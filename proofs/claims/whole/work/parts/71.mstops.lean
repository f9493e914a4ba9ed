/-! THE MODEL: the text's tellings and its carrying out -/
theorem MR.side {M M' : mM} {f t : Nat → Int32} {hs : List (Nat → Int32)} {sn : Option (Nat → Int32)} {L : Nat} (h : MR M f hs sn t L) (h0 : M' (13, 0, 0) = f) (hF : ∀ r, r ≠ (13, 0, 0) → r ≠ (13, 0, 1) → M' r = M r) : MR M' f hs sn t L := by
  obtain ⟨h1, ⟨a1, a2, a3⟩, ⟨b1, b2⟩, c1, c2, c3⟩ := h
  have e6 : M' (6, 0, 0) = M (6, 0, 0) := hF _ (by simp) (by simp)
  have e : ∀ j, j ≠ 0 → j ≠ 1 → M' (13, 0, j) = M (13, 0, j) := fun j p q => hF _ (by simp [p]) (by simp [q])
  refine ⟨h0, ⟨by rw [e6]; exact a1, a2, by rw [e 3 (by decide) (by decide)]; exact a3⟩, ⟨by rw [e6]; exact b1, by rw [e 2 (by decide) (by decide)]; exact b2⟩, c1, by rw [e6]; exact c2, by rw [e 4 (by decide) (by decide)]; exact c3⟩
theorem m_stops {d L : Nat} {M : mM} {f t : Nat → Int32} {hs : List (Nat → Int32)} {sn : Option (Nat → Int32)} {l : List mOrd} (h : MR M f hs sn t L) (hS : ShF f) (hB : BdF f) (hl : pars t L = .inr l) : ∃ M', CT iM_stops (d + 7) [vR 6 0 0] M (.inl (some (vI (runO f l 0).1))) M' 0 ∧ MR M' f hs sn t L ∧ MFr M M' ∧ M' (6, 0, 0) = M (6, 0, 0) := by
  have hA := s_M_putAside (d := d + 6) (M := M)
  rw [h.1] at hA
  have hM1 : mW M (13, 0, 1) (cpR f (M (13, 0, 1)) 190) (13, 0, 0) = f := by rw [mW_ne (by simp)]; exact h.1
  have hT1 : TxM (mW M (13, 0, 1) (cpR f (M (13, 0, 1)) 190)) t L := by
    obtain ⟨a, b, c⟩ := h.tx
    exact ⟨a, by rw [mW_ne (by simp)]; exact b, fun j hj => by rw [mW_ne (by simp)]; exact c j hj⟩
  have hD := s_M_doesAll (d := d) hT1 hS hB hl
  rw [mS_of hM1] at hD
  have hok := runO_ok (i := 0) (ords_okL hl) hS hB
  revert hA hM1 hT1 hD
  generalize hM1e : mW M (13, 0, 1) (cpR f (M (13, 0, 1)) 190) = M1
  intro hA hM1 hT1 hD
  have hP := s_M_putBack (d := d + 6) (M := mS M1 (runO f l 0).2)
  have hrow : cpR (mS M1 (runO f l 0).2 (13, 0, 1)) (mS M1 (runO f l 0).2 (13, 0, 0)) 190 = f := by
    rw [mS_ne (by simp), mS_at, ← hM1e, mW_at]
    funext j
    unfold cpR
    by_cases e : j < 190
    · rw [if_pos e, if_pos e]
    · rw [if_neg e]
      exact hok.2.2 j (by omega)
  rw [hrow] at hP
  have hne : ∀ r, r ≠ (13, 0, 0) → r ≠ (13, 0, 1) → mW (mS M1 (runO f l 0).2) (13, 0, 0) f r = M r := fun r p q => by rw [mW_ne p, mS_ne p, ← hM1e, mW_ne q]
  refine ⟨_, ct_go hL_M_stops rfl ?_, h.side mW_at hne, fun r p q => hne r (fun e => by subst e; exact q rfl) (fun e => by subst e; exact q rfl), hne _ (by simp) (by simp)⟩
  refine aw_aload_n k162_0 rfl ?_
  refine aw_callV0v k162_1 hC_M_stops ok_M_putAside sv_M_149 hH_M_putAside ⟨rfl, rfl⟩ (by decide) hN_M_putAside (by rw [hL_M_putAside]; exact Nat.le_of_ble_eq_true rfl) (Nat.le_of_ble_eq_true rfl) hA ?_
  refine aw_aload_n k162_4 rfl ?_
  refine aw_callV0 k162_5 hC_M_stops ok_M_doesAll sv_M_152 hH_M_doesAll ⟨rfl, rfl⟩ (by decide) hN_M_doesAll (by rw [hL_M_doesAll]; exact Nat.le_of_ble_eq_true rfl) (Nat.le_of_ble_eq_true rfl) hD ?_
  refine aw_istore_n k162_8 (Nat.le_of_ble_eq_true rfl) rfl ?_
  refine aw_aload_n k162_9 rfl ?_
  refine aw_callV0v k162_10 hC_M_stops ok_M_putBack sv_M_155 hH_M_putBack ⟨rfl, rfl⟩ (by decide) hN_M_putBack (by rw [hL_M_putBack]; exact Nat.le_of_ble_eq_true rfl) (Nat.le_of_ble_eq_true rfl) hP ?_
  refine aw_iload_n k162_13 rfl ?_
  refine aw_ireturn k162_14 hR_M_stops ?_ ?_
  all_goals first | rfl | exact Or.inl rfl | exact Or.inr rfl | assumption | (simp_all; done) | ((repeat' split) <;> first | rfl | (simp only [Int32.lt_iff_toInt_lt, Int32.le_iff_toInt_le, Int64.lt_iff_toInt_lt, Int64.le_iff_toInt_le] at *; omega) | (simp_all; done))
theorem MR.tx0 {M : mM} {f t : Nat → Int32} {hs : List (Nat → Int32)} {sn : Option (Nat → Int32)} {L : Nat} {x : Int32} (h : MR M f hs sn t L) : TxM (mUp M (6, 0, 0) 0 x) t L := (h.thr (x := x)).tx
theorem m_textError {d L : Nat} {M : mM} {f t : Nat → Int32} {hs : List (Nat → Int32)} {sn : Option (Nat → Int32)} (h : MR M f hs sn t L) : CT iM_textError (d + 8) [vR 6 0 0] M (.inl (some (vI (resF (pars t L))))) (mUp M (6, 0, 0) 0 0) 0 := by
  have hW := s_M_wrong (d := d + 3) (h.tx0 (x := 0))
  refine ct_go hL_M_textError rfl ?_
  refine aw_aload_n k158_0 rfl ?_
  refine aw_iconst (v := 0) k158_1 (by decide) ?_
  refine aw_putI k158_2 hC_M_textError fs_M_25 (by decide) ⟨rfl, rfl⟩ rfl po_6_0 ?_
  refine aw_aload_n k158_5 rfl ?_
  refine aw_callV0 k158_6 hC_M_textError ok_M_wrong sv_M_137 hH_M_wrong ⟨rfl, rfl⟩ (by decide) hN_M_wrong (by rw [hL_M_wrong]; exact Nat.le_of_ble_eq_true rfl) (Nat.le_of_ble_eq_true rfl) hW ?_
  refine aw_ireturn k158_9 hR_M_textError ?_ ?_
  all_goals first | rfl | exact Or.inl rfl | exact Or.inr rfl | assumption | (simp_all; done) | ((repeat' split) <;> first | rfl | (simp only [Int32.lt_iff_toInt_lt, Int32.le_iff_toInt_le, Int64.lt_iff_toInt_lt, Int64.le_iff_toInt_le] at *; omega) | (simp_all; done))
theorem m_impossibleOrderX {d L : Nat} {M : mM} {f t : Nat → Int32} {hs : List (Nat → Int32)} {sn : Option (Nat → Int32)} {e : Nat} (h : MR M f hs sn t L) (hp : pars t L = .inl e) : CT iM_impossibleOrder (d + 8) [vR 6 0 0] M (.inl (some (vI 0))) (mUp M (6, 0, 0) 0 1) 0 := by
  have hW := s_M_wrong (d := d + 3) h.tx
  have hne := pars_ne h.2.2.2.1 hp
  refine ct_go hL_M_impossibleOrder rfl ?_
  refine aw_aload_n k163_0 rfl ?_
  refine aw_aload_n k163_1 rfl ?_
  refine aw_callV0 k163_2 hC_M_impossibleOrder ok_M_wrong sv_M_137 hH_M_wrong ⟨rfl, rfl⟩ (by decide) hN_M_wrong (by rw [hL_M_wrong]; exact Nat.le_of_ble_eq_true rfl) (Nat.le_of_ble_eq_true rfl) hW ?_
  refine aw_iconst (v := (-1)) k163_5 (by decide) ?_
  refine aw_icmp_ne 13 k163_6 (by decide) (fun c_6 => ?_) (fun c_6 => ?_)
  · refine aw_iconst (v := 1) k163_13 (by decide) ?_
    refine aw_callV1 k163_14 hC_M_impossibleOrder ok_M_holds sv_M_102 hH_M_holds ⟨rfl, rfl⟩ (by decide) hN_M_holds (by rw [hL_M_holds]; exact Nat.le_of_ble_eq_true rfl) (Nat.le_of_ble_eq_true rfl) (holds_f (by decide)) ?_
    refine aw_if_eq 27 k163_17 (by decide) (fun c_17 => ?_) (fun c_17 => ?_)
    · refine aw_iconst (v := 0) k163_27 (by decide) ?_
      refine aw_ireturn k163_28 hR_M_impossibleOrder ?_ ?_
      all_goals first | rfl | exact Or.inl rfl | exact Or.inr rfl | assumption | (simp_all; done) | ((repeat' split) <;> first | rfl | (simp only [Int32.lt_iff_toInt_lt, Int32.le_iff_toInt_le, Int64.lt_iff_toInt_lt, Int64.le_iff_toInt_le] at *; omega) | (simp_all; done))
    · exact absurd rfl c_17
  · exact absurd c_6 hne
theorem m_impossibleOrder {d L : Nat} {M : mM} {f t : Nat → Int32} {hs : List (Nat → Int32)} {sn : Option (Nat → Int32)} {l : List mOrd} (h : MR M f hs sn t L) (hS : ShF f) (hB : BdF f) (hp : pars t L = .inr l) : ∃ M', CT iM_impossibleOrder (d + 8) [vR 6 0 0] M (.inl (some (vI (runO f l 0).1))) M' 0 ∧ mGood M M' f hs sn t L := by
  have hW := s_M_wrong (d := d + 3) h.tx
  have hr : resF (pars t L) = -1 := by rw [hp]; rfl
  rw [hr] at hW
  obtain ⟨M1, hA, hR, hF, h0⟩ := m_stops (d := d) (h.thr (x := 0)) hS hB hp
  refine ⟨M1, ct_go hL_M_impossibleOrder rfl ?_, hR, MFr.u6.tr hF, by rw [h0]; simp [mUp_at]⟩
  refine aw_aload_n k163_0 rfl ?_
  refine aw_aload_n k163_1 rfl ?_
  refine aw_callV0 k163_2 hC_M_impossibleOrder ok_M_wrong sv_M_137 hH_M_wrong ⟨rfl, rfl⟩ (by decide) hN_M_wrong (by rw [hL_M_wrong]; exact Nat.le_of_ble_eq_true rfl) (Nat.le_of_ble_eq_true rfl) hW ?_
  refine aw_iconst (v := (-1)) k163_5 (by decide) ?_
  refine aw_icmp_ne 13 k163_6 (by decide) (fun c_6 => ?_) (fun c_6 => ?_)
  · exact absurd rfl c_6
  · refine aw_iconst (v := 0) k163_9 (by decide) ?_
    refine aw_goto (t := 14) k163_10 (by decide) ?_
    refine aw_callV1 k163_14 hC_M_impossibleOrder ok_M_holds sv_M_102 hH_M_holds ⟨rfl, rfl⟩ (by decide) hN_M_holds (by rw [hL_M_holds]; exact Nat.le_of_ble_eq_true rfl) (Nat.le_of_ble_eq_true rfl) holds_t ?_
    refine aw_if_eq 27 k163_17 (by decide) (fun c_17 => ?_) (fun c_17 => ?_)
    · exact absurd (show (1 : Int32) = 0 from c_17) (by decide)
    · refine aw_aload_n k163_20 rfl ?_
      refine aw_callV0 k163_21 hC_M_impossibleOrder ok_M_stops sv_M_158 hH_M_stops ⟨rfl, rfl⟩ (by decide) hN_M_stops (by rw [hL_M_stops]; exact Nat.le_of_ble_eq_true rfl) (Nat.le_of_ble_eq_true rfl) hA ?_
      refine aw_goto (t := 28) k163_24 (by decide) ?_
      refine aw_ireturn k163_28 hR_M_impossibleOrder ?_ ?_
      all_goals first | rfl | exact Or.inl rfl | exact Or.inr rfl | assumption | (simp_all; done) | ((repeat' split) <;> first | rfl | (simp only [Int32.lt_iff_toInt_lt, Int32.le_iff_toInt_le, Int64.lt_iff_toInt_lt, Int64.le_iff_toInt_le] at *; omega) | (simp_all; done))
theorem m_carryOutX {d L : Nat} {M : mM} {f t : Nat → Int32} {hs : List (Nat → Int32)} {sn : Option (Nat → Int32)} {e : Nat} (h : MR M f hs sn t L) (hp : pars t L = .inl e) : CT iM_carryOut (d + 8) [vR 6 0 0] M (.inl (some (vI 0))) (mUp M (6, 0, 0) 0 1) 0 := by
  have hW := s_M_wrong (d := d + 3) h.tx
  have hne := pars_ne h.2.2.2.1 hp
  refine ct_go hL_M_carryOut rfl ?_
  refine aw_aload_n k164_0 rfl ?_
  refine aw_aload_n k164_1 rfl ?_
  refine aw_callV0 k164_2 hC_M_carryOut ok_M_wrong sv_M_137 hH_M_wrong ⟨rfl, rfl⟩ (by decide) hN_M_wrong (by rw [hL_M_wrong]; exact Nat.le_of_ble_eq_true rfl) (Nat.le_of_ble_eq_true rfl) hW ?_
  refine aw_iconst (v := (-1)) k164_5 (by decide) ?_
  refine aw_icmp_ne 17 k164_6 (by decide) (fun c_6 => ?_) (fun c_6 => ?_)
  · refine aw_iconst (v := 1) k164_17 (by decide) ?_
    refine aw_goto (t := 22) k164_18 (by decide) ?_
    refine aw_callV1 k164_22 hC_M_carryOut ok_M_holds sv_M_102 hH_M_holds ⟨rfl, rfl⟩ (by decide) hN_M_holds (by rw [hL_M_holds]; exact Nat.le_of_ble_eq_true rfl) (Nat.le_of_ble_eq_true rfl) (holds_f (by decide)) ?_
    refine aw_if_ne 30 k164_25 (by decide) (fun c_25 => ?_) (fun c_25 => ?_)
    · exact absurd rfl c_25
    · refine aw_iconst (v := 0) k164_28 (by decide) ?_
      refine aw_ireturn k164_29 hR_M_carryOut ?_ ?_
      all_goals first | rfl | exact Or.inl rfl | exact Or.inr rfl | assumption | (simp_all; done) | ((repeat' split) <;> first | rfl | (simp only [Int32.lt_iff_toInt_lt, Int32.le_iff_toInt_le, Int64.lt_iff_toInt_lt, Int64.le_iff_toInt_le] at *; omega) | (simp_all; done))
  · exact absurd c_6 hne
theorem m_carryOutY {d L : Nat} {M : mM} {f t : Nat → Int32} {hs : List (Nat → Int32)} {sn : Option (Nat → Int32)} {l : List mOrd} (h : MR M f hs sn t L) (hS : ShF f) (hB : BdF f) (hp : pars t L = .inr l) (hr9 : ¬ (runO f l 0).1 = -1) : ∃ M', CT iM_carryOut (d + 8) [vR 6 0 0] M (.inl (some (vI 0))) M' 0 ∧ MR M' f hs sn t L ∧ MFr M M' ∧ M' (6, 0, 0) 0 = 1 := by
  have hW := s_M_wrong (d := d + 3) h.tx
  have hr : resF (pars t L) = -1 := by rw [hp]; rfl
  rw [hr] at hW
  obtain ⟨M1, hA, hR, hF, h0⟩ := m_stops (d := d) h hS hB hp
  refine ⟨_, ct_go hL_M_carryOut rfl ?_, hR.thr (x := 1), hF.tr MFr.u6, by simp [mUp_at]⟩
  refine aw_aload_n k164_0 rfl ?_
  refine aw_aload_n k164_1 rfl ?_
  refine aw_callV0 k164_2 hC_M_carryOut ok_M_wrong sv_M_137 hH_M_wrong ⟨rfl, rfl⟩ (by decide) hN_M_wrong (by rw [hL_M_wrong]; exact Nat.le_of_ble_eq_true rfl) (Nat.le_of_ble_eq_true rfl) hW ?_
  refine aw_iconst (v := (-1)) k164_5 (by decide) ?_
  refine aw_icmp_ne 17 k164_6 (by decide) (fun c_6 => ?_) (fun c_6 => ?_)
  · exact absurd rfl c_6
  · refine aw_aload_n k164_9 rfl ?_
    refine aw_callV0 k164_10 hC_M_carryOut ok_M_stops sv_M_158 hH_M_stops ⟨rfl, rfl⟩ (by decide) hN_M_stops (by rw [hL_M_stops]; exact Nat.le_of_ble_eq_true rfl) (Nat.le_of_ble_eq_true rfl) hA ?_
    refine aw_iconst (v := (-1)) k164_13 (by decide) ?_
    refine aw_icmp_eq 21 k164_14 (by decide) (fun c_14 => ?_) (fun c_14 => ?_)
    · exact absurd c_14 hr9
    · refine aw_iconst (v := 1) k164_17 (by decide) ?_
      refine aw_goto (t := 22) k164_18 (by decide) ?_
      refine aw_callV1 k164_22 hC_M_carryOut ok_M_holds sv_M_102 hH_M_holds ⟨rfl, rfl⟩ (by decide) hN_M_holds (by rw [hL_M_holds]; exact Nat.le_of_ble_eq_true rfl) (Nat.le_of_ble_eq_true rfl) (holds_f (by decide)) ?_
      refine aw_if_ne 30 k164_25 (by decide) (fun c_25 => ?_) (fun c_25 => ?_)
      · exact absurd rfl c_25
      · refine aw_iconst (v := 0) k164_28 (by decide) ?_
        refine aw_ireturn k164_29 hR_M_carryOut ?_ ?_
        all_goals first | rfl | exact Or.inl rfl | exact Or.inr rfl | assumption | (simp_all; done) | ((repeat' split) <;> first | rfl | (simp only [Int32.lt_iff_toInt_lt, Int32.le_iff_toInt_le, Int64.lt_iff_toInt_lt, Int64.le_iff_toInt_le] at *; omega) | (simp_all; done))
