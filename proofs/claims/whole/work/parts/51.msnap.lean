/-! THE MODEL: the snapshot, the text's signs -/
theorem m_takeSnapshot {d L : Nat} {M : mM} {f t : Nat → Int32} {hs : List (Nat → Int32)} {sn : Option (Nat → Int32)} (h : MR M f hs sn t L) : ∃ M', CT iM_takeSnapshot (d + 8) [vR 6 0 0] M (.inl (some (vI (f 39)))) M' 0 ∧ mGood M M' f hs (some f) t L := by
  obtain ⟨h1, ⟨a1, a2, a3⟩, ⟨b1, b2⟩, c1, c2, c3⟩ := h
  obtain ⟨M0, hM0⟩ : ∃ M0, M0 = mUp M (6, 0, 0) 0 0 := ⟨_, rfl⟩
  have e0 : M0 (13, 0, 0) = f := by rw [hM0, mUp_ne (by simp)]; exact h1
  have e20 : ∀ g, mW M0 (13, 0, 2) g (13, 0, 0) = f := fun g => by rw [mW_ne (by simp)]; exact e0
  have eu0 : ∀ g, mUp (mW M0 (13, 0, 2) g) (6, 0, 0) 4 1 (13, 0, 0) = f := fun g => by rw [mUp_ne (by simp)]; exact e20 g
  have loop : ∀ (l k : Nat), k + l = 190 → AW iM_takeSnapshot (d + 8) 7 [some (vR 6 0 0), some (vI (nI k))] [] (mW M0 (13, 0, 2) (cpR f (M0 (13, 0, 2)) k)) (.inl (some (vI (f 39)))) (mUp (mW M0 (13, 0, 2) (cpR f (M0 (13, 0, 2)) 190)) (6, 0, 0) 4 1) 0 := by
    intro l
    induction l with
    | zero =>
      intro k hk
      obtain rfl : k = 190 := by omega
      refine aw_iload_n k166_7 rfl ?_
      refine aw_sipush (v := 190) k166_8 (by decide) ?_
      refine aw_icmp_ge 32 k166_11 (by decide) (fun c_11 => ?_) (fun c_11 => ?_)
      · refine aw_aload_n k166_32 rfl ?_
        refine aw_iconst (v := 1) k166_33 (by decide) ?_
        refine aw_putZ k166_34 hC_M_takeSnapshot fs_M_161 (by decide) ⟨rfl, rfl⟩ rfl po_6_4 (by first | exact Or.inl rfl | exact Or.inr rfl | assumption) ?_
        try simp only [eu0, tn39]
        refine aw_aload_n k166_37 rfl ?_
        refine aw_getR k166_38 hC_M_takeSnapshot fs_M_7 (by decide) ⟨rfl, rfl⟩ rfl ?_
        try simp only [eu0, tn39]
        refine aw_bipush (v := 39) k166_41 (by decide) ?_
        refine aw_iaload k166_43 (by first | exact ⟨rfl, rfl⟩ | exact ⟨by assumption, rfl⟩ | exact ⟨by assumption, by assumption⟩ | exact ⟨rfl, by decide⟩ | exact ⟨by assumption, by decide⟩ | exact ⟨by decide, rfl⟩ | exact ⟨by decide, by decide⟩ | exact ⟨by decide, by assumption⟩ | assumption) (by first | rfl | assumption) (by first | rfl | assumption) (vp_in_nI (n := 39) (by decide) (by decide)) ?_
        try simp only [eu0, tn39]
        refine aw_ireturn k166_44 hR_M_takeSnapshot ?_ ?_
        all_goals first | rfl | exact Or.inl rfl | exact Or.inr rfl | assumption | (simp_all; done) | ((repeat' split) <;> first | rfl | (simp only [Int32.lt_iff_toInt_lt, Int32.le_iff_toInt_le, Int64.lt_iff_toInt_lt, Int64.le_iff_toInt_le] at *; omega) | (simp_all; done))
      · exact absurd (Int32.le_refl _) c_11
    | succ l ih =>
      intro k hk
      have k2 : (nI k).toNatClampNeg = k := nI_clamp (by omega)
      have i2 : vp_in (nI k) 190 := vp_in_nI (by omega) (by decide)
      refine aw_iload_n k166_7 rfl ?_
      refine aw_sipush (v := 190) k166_8 (by decide) ?_
      refine aw_icmp_ge 32 k166_11 (by decide) (fun c_11 => ?_) (fun c_11 => ?_)
      · exact absurd (nI_le_of (a := 190) c_11) (by omega)
      · refine aw_aload_n k166_14 rfl ?_
        refine aw_getR k166_15 hC_M_takeSnapshot fs_M_16 (by decide) ⟨rfl, rfl⟩ rfl ?_
        try simp only [e20, mW_up, k2, cpR_up]
        refine aw_iload_n k166_18 rfl ?_
        refine aw_aload_n k166_19 rfl ?_
        refine aw_getR k166_20 hC_M_takeSnapshot fs_M_7 (by decide) ⟨rfl, rfl⟩ rfl ?_
        try simp only [e20, mW_up, k2, cpR_up]
        refine aw_iload_n k166_23 rfl ?_
        refine aw_iaload k166_24 (by first | exact ⟨rfl, rfl⟩ | exact ⟨by assumption, rfl⟩ | exact ⟨by assumption, by assumption⟩ | exact ⟨rfl, by decide⟩ | exact ⟨by assumption, by decide⟩ | exact ⟨by decide, rfl⟩ | exact ⟨by decide, by decide⟩ | exact ⟨by decide, by assumption⟩ | assumption) (by first | rfl | assumption) (by first | rfl | assumption) i2 ?_
        try simp only [e20, mW_up, k2, cpR_up]
        refine aw_iastore k166_25 (by first | exact ⟨rfl, rfl⟩ | exact ⟨by assumption, rfl⟩ | exact ⟨by assumption, by assumption⟩ | exact ⟨rfl, by decide⟩ | exact ⟨by assumption, by decide⟩ | exact ⟨by decide, rfl⟩ | exact ⟨by decide, by decide⟩ | exact ⟨by decide, by assumption⟩ | assumption) (by first | rfl | assumption) (by first | rfl | assumption) i2 ?_
        try simp only [e20, mW_up, k2, cpR_up]
        refine aw_iinc (y := 1) k166_26 rfl (by decide) rfl ?_
        try simp only [e20, mW_up, k2, cpR_up]
        rw [nI_1 k]
        refine aw_goto (t := 7) k166_29 (by decide) ?_
        exact ih (k + 1) (by omega)
  have := loop 190 0 (by omega)
  rw [cpR_0, mW_self, hM0] at this
  refine ⟨mUp (mW (mUp M (6, 0, 0) 0 0) (13, 0, 2) (cpR f (mUp M (6, 0, 0) 0 0 (13, 0, 2)) 190)) (6, 0, 0) 4 1, ct_go hL_M_takeSnapshot rfl ?_, ⟨?_, ⟨?_, a2, fun i g hg k hk => ?_⟩, ⟨by simp [mUp_at], fun g hg k hk => ?_⟩, c1, ?_, fun j hj => ?_⟩, fun r p q => ?_, ?_⟩
  rotate_left
  · rw [← hM0]; exact eu0 _
  · rw [← a1]; simp [mUp_at, mW]
  · rw [mUp_ne (by simp), mW_ne (by simp), mUp_ne (by simp)]; exact a3 i g hg k hk
  · simp at hg
    rw [mUp_ne (by simp), mW_at, ← hg]
    exact if_pos hk
  · rw [← c2]; simp [mUp_at, mW]
  · rw [mUp_ne (by simp), mW_ne (by simp), mUp_ne (by simp)]; exact c3 j hj
  · rw [mUp_ne (fun s => by subst s; exact p rfl), mW_ne (fun s => by subst s; exact q rfl), mUp_ne (fun s => by subst s; exact p rfl)]
  · simp [mUp_at, mW]
  · refine aw_aload_n k166_0 rfl ?_
    refine aw_iconst (v := 0) k166_1 (by decide) ?_
    refine aw_putI k166_2 hC_M_takeSnapshot fs_M_25 (by decide) ⟨rfl, rfl⟩ rfl po_6_0 ?_
    refine aw_iconst (v := 0) k166_5 (by decide) ?_
    refine aw_istore_n k166_6 (Nat.le_of_ble_eq_true rfl) rfl ?_
    exact this
theorem m_restoreX {d L : Nat} {M : mM} {f t : Nat → Int32} {hs : List (Nat → Int32)} (h : MR M f hs none t L) : CT iM_restoreSnapshot (d + 8) [vR 6 0 0] M (.inl (some (vI 0))) (mUp M (6, 0, 0) 0 1) 0 := by
  have h4 : M (6, 0, 0) 4 = 0 := h.2.2.1.1
  refine ct_go hL_M_restoreSnapshot rfl ?_
  refine aw_aload_n k167_0 rfl ?_
  refine aw_aload_n k167_1 rfl ?_
  refine aw_getI k167_2 hC_M_restoreSnapshot fs_M_161 (by decide) ⟨rfl, rfl⟩ rfl ?_
  try simp only [h4]
  refine aw_if_eq 12 k167_5 (by decide) (fun c_5 => ?_) (fun c_5 => ?_)
  · refine aw_iconst (v := 1) k167_12 (by decide) ?_
    refine aw_callV1 k167_13 hC_M_restoreSnapshot ok_M_holds sv_M_102 hH_M_holds ⟨rfl, rfl⟩ (by decide) hN_M_holds (by rw [hL_M_holds]; exact Nat.le_of_ble_eq_true rfl) (Nat.le_of_ble_eq_true rfl) (holds_f (by decide)) ?_
    refine aw_if_ne 21 k167_16 (by decide) (fun c_16 => ?_) (fun c_16 => ?_)
    · exact absurd rfl c_16
    · refine aw_iconst (v := 0) k167_19 (by decide) ?_
      refine aw_ireturn k167_20 hR_M_restoreSnapshot ?_ ?_
      all_goals first | rfl | exact Or.inl rfl | exact Or.inr rfl | assumption | (simp_all; done) | ((repeat' split) <;> first | rfl | (simp only [Int32.lt_iff_toInt_lt, Int32.le_iff_toInt_le, Int64.lt_iff_toInt_lt, Int64.le_iff_toInt_le] at *; omega) | (simp_all; done))
  · exact absurd rfl c_5
theorem m_restore {d L : Nat} {M : mM} {f g t : Nat → Int32} {hs : List (Nat → Int32)} (h : MR M f hs (some g) t L) : ∃ M' f', CT iM_restoreSnapshot (d + 8) [vR 6 0 0] M (.inl (some (vI (g 39)))) M' 0 ∧ mGood M M' f' ((f :: hs).take 4) (some g) t L ∧ ∀ j, j < 190 → f' j = g j := by
  have h4 : M (6, 0, 0) 4 = 1 := h.2.2.1.1
  obtain ⟨M1, hA, hR, hF, h0⟩ := m_rec (d := d + 7) (h.thr (x := 0))
  have hsn := hR.2.2.1.2 g rfl
  have e2 : ∀ G, mS M1 G (13, 0, 2) = M1 (13, 0, 2) := fun G => mS_ne (by simp)
  have e39 : ∀ A, cpR (M1 (13, 0, 2)) A 190 39 = g 39 := fun A => (if_pos (by decide)).trans (hsn 39 (by decide))
  have loop : ∀ (l k : Nat), k + l = 190 → AW iM_restoreSnapshot (d + 8) 27 [some (vR 6 0 0), some (vI (nI k))] [] (mS M1 (cpR (M1 (13, 0, 2)) (M1 (13, 0, 0)) k)) (.inl (some (vI (g 39)))) (mS M1 (cpR (M1 (13, 0, 2)) (M1 (13, 0, 0)) 190)) 0 := by
    intro l
    induction l with
    | zero =>
      intro k hk
      obtain rfl : k = 190 := by omega
      refine aw_iload_n k167_27 rfl ?_
      refine aw_sipush (v := 190) k167_28 (by decide) ?_
      refine aw_icmp_ge 52 k167_31 (by decide) (fun c_31 => ?_) (fun c_31 => ?_)
      · refine aw_aload_n k167_52 rfl ?_
        refine aw_getR k167_53 hC_M_restoreSnapshot fs_M_7 (by decide) ⟨rfl, rfl⟩ rfl ?_
        try simp only [mS_at, tn39, e39]
        refine aw_bipush (v := 39) k167_56 (by decide) ?_
        refine aw_iaload k167_58 (by first | exact ⟨rfl, rfl⟩ | exact ⟨by assumption, rfl⟩ | exact ⟨by assumption, by assumption⟩ | exact ⟨rfl, by decide⟩ | exact ⟨by assumption, by decide⟩ | exact ⟨by decide, rfl⟩ | exact ⟨by decide, by decide⟩ | exact ⟨by decide, by assumption⟩ | assumption) (by first | rfl | assumption) (by first | rfl | assumption) (vp_in_nI (n := 39) (by decide) (by decide)) ?_
        try simp only [mS_at, tn39, e39]
        refine aw_ireturn k167_59 hR_M_restoreSnapshot ?_ ?_
        all_goals first | rfl | exact Or.inl rfl | exact Or.inr rfl | assumption | (simp_all; done) | ((repeat' split) <;> first | rfl | (simp only [Int32.lt_iff_toInt_lt, Int32.le_iff_toInt_le, Int64.lt_iff_toInt_lt, Int64.le_iff_toInt_le] at *; omega) | (simp_all; done))
      · exact absurd (Int32.le_refl _) c_31
    | succ l ih =>
      intro k hk
      have k2 : (nI k).toNatClampNeg = k := nI_clamp (by omega)
      have i2 : vp_in (nI k) 190 := vp_in_nI (by omega) (by decide)
      refine aw_iload_n k167_27 rfl ?_
      refine aw_sipush (v := 190) k167_28 (by decide) ?_
      refine aw_icmp_ge 52 k167_31 (by decide) (fun c_31 => ?_) (fun c_31 => ?_)
      · exact absurd (nI_le_of (a := 190) c_31) (by omega)
      · refine aw_aload_n k167_34 rfl ?_
        refine aw_getR k167_35 hC_M_restoreSnapshot fs_M_7 (by decide) ⟨rfl, rfl⟩ rfl ?_
        try simp only [e2, mS_up, k2, cpR_up]
        refine aw_iload_n k167_38 rfl ?_
        refine aw_aload_n k167_39 rfl ?_
        refine aw_getR k167_40 hC_M_restoreSnapshot fs_M_16 (by decide) ⟨rfl, rfl⟩ rfl ?_
        try simp only [e2, mS_up, k2, cpR_up]
        refine aw_iload_n k167_43 rfl ?_
        refine aw_iaload k167_44 (by first | exact ⟨rfl, rfl⟩ | exact ⟨by assumption, rfl⟩ | exact ⟨by assumption, by assumption⟩ | exact ⟨rfl, by decide⟩ | exact ⟨by assumption, by decide⟩ | exact ⟨by decide, rfl⟩ | exact ⟨by decide, by decide⟩ | exact ⟨by decide, by assumption⟩ | assumption) (by first | rfl | assumption) (by first | rfl | assumption) i2 ?_
        try simp only [e2, mS_up, k2, cpR_up]
        refine aw_iastore k167_45 (by first | exact ⟨rfl, rfl⟩ | exact ⟨by assumption, rfl⟩ | exact ⟨by assumption, by assumption⟩ | exact ⟨rfl, by decide⟩ | exact ⟨by assumption, by decide⟩ | exact ⟨by decide, rfl⟩ | exact ⟨by decide, by decide⟩ | exact ⟨by decide, by assumption⟩ | assumption) (by first | rfl | assumption) (by first | rfl | assumption) i2 ?_
        try simp only [e2, mS_up, k2, cpR_up]
        refine aw_iinc (y := 1) k167_46 rfl (by decide) rfl ?_
        try simp only [e2, mS_up, k2, cpR_up]
        rw [nI_1 k]
        refine aw_goto (t := 27) k167_49 (by decide) ?_
        exact ih (k + 1) (by omega)
  have := loop 190 0 (by omega)
  rw [cpR_0, mS_self] at this
  refine ⟨_, cpR (M1 (13, 0, 2)) (M1 (13, 0, 0)) 190, ct_go hL_M_restoreSnapshot rfl ?_, ⟨hR.set, MFr.u6.tr (hF.tr MFr.s), by rw [mS_ne (by simp), h0]; simp [mUp_at]⟩, fun j hj => (if_pos hj).trans (hsn j hj)⟩
  refine aw_aload_n k167_0 rfl ?_
  refine aw_aload_n k167_1 rfl ?_
  refine aw_getI k167_2 hC_M_restoreSnapshot fs_M_161 (by decide) ⟨rfl, rfl⟩ rfl ?_
  try simp only [h4]
  refine aw_if_eq 12 k167_5 (by decide) (fun c_5 => ?_) (fun c_5 => ?_)
  · exact absurd c_5 (by decide)
  · refine aw_iconst (v := 0) k167_8 (by decide) ?_
    refine aw_goto (t := 13) k167_9 (by decide) ?_
    refine aw_callV1 k167_13 hC_M_restoreSnapshot ok_M_holds sv_M_102 hH_M_holds ⟨rfl, rfl⟩ (by decide) hN_M_holds (by rw [hL_M_holds]; exact Nat.le_of_ble_eq_true rfl) (Nat.le_of_ble_eq_true rfl) holds_t ?_
    refine aw_if_ne 21 k167_16 (by decide) (fun c_16 => ?_) (fun c_16 => ?_)
    · refine aw_aload_n k167_21 rfl ?_
      refine aw_callV0v k167_22 hC_M_restoreSnapshot ok_M_records sv_M_105 hH_M_records ⟨rfl, rfl⟩ (by decide) hN_M_records (by rw [hL_M_records]; exact Nat.le_of_ble_eq_true rfl) (Nat.le_of_ble_eq_true rfl) hA ?_
      refine aw_iconst (v := 0) k167_25 (by decide) ?_
      refine aw_istore_n k167_26 (Nat.le_of_ble_eq_true rfl) rfl ?_
      exact this
    · exact absurd (show (1 : Int32) = 0 from c_16) (by decide)
theorem m_typeX {d L : Nat} {M : mM} {f t : Nat → Int32} {hs : List (Nat → Int32)} {sn : Option (Nat → Int32)} {x : Int32} (h : MR M f hs sn t L) (hn : ¬ L < 80) : CT iM_type (d + 8) [vR 6 0 0, vI x] M (.inl (some (vI 0))) (mUp M (6, 0, 0) 0 1) 0 := by
  have h8 := h.2.2.2.2.1
  have hL := h.2.2.2.1
  refine ct_go hL_M_type rfl ?_
  refine aw_aload_n k150_0 rfl ?_
  refine aw_aload_n k150_1 rfl ?_
  refine aw_getI k150_2 hC_M_type fs_M_122 (by decide) ⟨rfl, rfl⟩ rfl ?_
  try simp only [h8]
  refine aw_bipush (v := 80) k150_5 (by decide) ?_
  refine aw_icmp_ge 14 k150_7 (by decide) (fun c_7 => ?_) (fun c_7 => ?_)
  · refine aw_iconst (v := 1) k150_14 (by decide) ?_
    refine aw_callV1 k150_15 hC_M_type ok_M_holds sv_M_102 hH_M_holds ⟨rfl, rfl⟩ (by decide) hN_M_holds (by rw [hL_M_holds]; exact Nat.le_of_ble_eq_true rfl) (Nat.le_of_ble_eq_true rfl) (holds_f (by decide)) ?_
    refine aw_if_ne 23 k150_18 (by decide) (fun c_18 => ?_) (fun c_18 => ?_)
    · exact absurd rfl c_18
    · refine aw_iconst (v := 0) k150_21 (by decide) ?_
      refine aw_ireturn k150_22 hR_M_type ?_ ?_
      all_goals first | rfl | exact Or.inl rfl | exact Or.inr rfl | assumption | (simp_all; done) | ((repeat' split) <;> first | rfl | (simp only [Int32.lt_iff_toInt_lt, Int32.le_iff_toInt_le, Int64.lt_iff_toInt_lt, Int64.le_iff_toInt_le] at *; omega) | (simp_all; done))
  · exact absurd (nI_nle_of (a := 80) c_7) (by omega)
theorem m_type {d L : Nat} {M : mM} {f t : Nat → Int32} {hs : List (Nat → Int32)} {sn : Option (Nat → Int32)} {x : Int32} (h : MR M f hs sn t L) (hn : L < 80) : ∃ M', CT iM_type (d + 8) [vR 6 0 0, vI x] M (.inl (some (vI (nI (L + 1))))) M' 0 ∧ mGood M M' f hs sn (fun j => if j = L then x else t j) (L + 1) := by
  obtain ⟨h1, ⟨a1, a2, a3⟩, ⟨b1, b2⟩, c1, c2, c3⟩ := h
  have k1 : (nI L).toNatClampNeg = L := nI_clamp (by omega)
  have i1 : vp_in (nI L) 80 := vp_in_nI hn (by decide)
  have g0 : ∀ v, mUp M (6, 0, 0) 0 v (6, 0, 0) 8 = nI L := fun v => by rw [← c2]; simp [mUp_at]
  have g1 : mUp (mUp M (6, 0, 0) 0 0) (13, 0, 4) L x (6, 0, 0) 8 = nI L := by rw [mUp_ne (by simp)]; exact g0 0
  have g2 : ∀ A v, mUp A (6, 0, 0) 8 v (6, 0, 0) 8 = v := fun A v => by simp [mUp_at]
  refine ⟨mUp (mUp (mUp M (6, 0, 0) 0 0) (13, 0, 4) L x) (6, 0, 0) 8 (nI (L + 1)), ct_go hL_M_type rfl ?_, ⟨?_, ⟨?_, a2, fun i g hg k hk => ?_⟩, ⟨?_, fun g hg k hk => ?_⟩, hn, ?_, fun j hj => ?_⟩, fun r p q => ?_, ?_⟩
  rotate_left
  · rw [mUp_ne (by simp), mUp_ne (by simp), mUp_ne (by simp)]; exact h1
  · rw [← a1]; simp [mUp_at]
  · rw [mUp_ne (by simp), mUp_ne (by simp), mUp_ne (by simp)]; exact a3 i g hg k hk
  · rw [← b1]; simp [mUp_at]
  · rw [mUp_ne (by simp), mUp_ne (by simp), mUp_ne (by simp)]; exact b2 g hg k hk
  · simp [mUp_at]
  · rw [mUp_ne (by simp)]
    by_cases e : j = L
    · subst e
      simp [mUp_at]
    · simp [mUp_at, e]
      exact c3 j (by omega)
  · rw [mUp_ne (fun s => by subst s; exact p rfl), mUp_ne (fun s => by subst s; exact q rfl), mUp_ne (fun s => by subst s; exact p rfl)]
  · simp [mUp_at]
  · refine aw_aload_n k150_0 rfl ?_
    refine aw_aload_n k150_1 rfl ?_
    refine aw_getI k150_2 hC_M_type fs_M_122 (by decide) ⟨rfl, rfl⟩ rfl ?_
    try simp only [c2, g0, g1, g2, k1]
    refine aw_bipush (v := 80) k150_5 (by decide) ?_
    refine aw_icmp_ge 14 k150_7 (by decide) (fun c_7 => ?_) (fun c_7 => ?_)
    · exact absurd (nI_le_of (a := 80) c_7) (by omega)
    · refine aw_iconst (v := 0) k150_10 (by decide) ?_
      refine aw_goto (t := 15) k150_11 (by decide) ?_
      refine aw_callV1 k150_15 hC_M_type ok_M_holds sv_M_102 hH_M_holds ⟨rfl, rfl⟩ (by decide) hN_M_holds (by rw [hL_M_holds]; exact Nat.le_of_ble_eq_true rfl) (Nat.le_of_ble_eq_true rfl) holds_t ?_
      refine aw_if_ne 23 k150_18 (by decide) (fun c_18 => ?_) (fun c_18 => ?_)
      · refine aw_aload_n k150_23 rfl ?_
        refine aw_getR k150_24 hC_M_type fs_M_22 (by decide) ⟨rfl, rfl⟩ rfl ?_
        try simp only [c2, g0, g1, g2, k1]
        refine aw_aload_n k150_27 rfl ?_
        refine aw_getI k150_28 hC_M_type fs_M_122 (by decide) ⟨rfl, rfl⟩ rfl ?_
        try simp only [c2, g0, g1, g2, k1]
        refine aw_iload_n k150_31 rfl ?_
        refine aw_iastore k150_32 (by first | exact ⟨rfl, rfl⟩ | exact ⟨by assumption, rfl⟩ | exact ⟨by assumption, by assumption⟩ | exact ⟨rfl, by decide⟩ | exact ⟨by assumption, by decide⟩ | exact ⟨by decide, rfl⟩ | exact ⟨by decide, by decide⟩ | exact ⟨by decide, by assumption⟩ | assumption) (by first | rfl | assumption) (by first | rfl | assumption) i1 ?_
        try simp only [c2, g0, g1, g2, k1]
        refine aw_aload_n k150_33 rfl ?_
        first | refine aw_dupI k150_34 ?_ | refine aw_dupR k150_34 ?_
        refine aw_getI k150_35 hC_M_type fs_M_122 (by decide) ⟨rfl, rfl⟩ rfl ?_
        try simp only [c2, g0, g1, g2, k1]
        refine aw_iconst (v := 1) k150_38 (by decide) ?_
        refine aw_iadd k150_39 ?_
        rw [nI_1]
        refine aw_putI k150_40 hC_M_type fs_M_122 (by decide) ⟨rfl, rfl⟩ rfl po_6_8 ?_
        try simp only [c2, g0, g1, g2, k1]
        refine aw_aload_n k150_43 rfl ?_
        refine aw_getI k150_44 hC_M_type fs_M_122 (by decide) ⟨rfl, rfl⟩ rfl ?_
        try simp only [c2, g0, g1, g2, k1]
        refine aw_ireturn k150_47 hR_M_type ?_ ?_
        all_goals first | rfl | exact Or.inl rfl | exact Or.inr rfl | assumption | (simp_all; done) | ((repeat' split) <;> first | rfl | (simp only [Int32.lt_iff_toInt_lt, Int32.le_iff_toInt_le, Int64.lt_iff_toInt_lt, Int64.le_iff_toInt_le] at *; omega) | (simp_all; done))
      · exact absurd (show (1 : Int32) = 0 from c_18) (by decide)
theorem m_clearText {d L : Nat} {M : mM} {f t : Nat → Int32} {hs : List (Nat → Int32)} {sn : Option (Nat → Int32)} (h : MR M f hs sn t L) : ∃ M', CT iM_clearText (d + 8) [vR 6 0 0] M (.inl (some (vI (nI L)))) M' 0 ∧ mGood M M' f hs sn t 0 := by
  obtain ⟨h1, ⟨a1, a2, a3⟩, ⟨b1, b2⟩, c1, c2, c3⟩ := h
  have g0 : ∀ v, mUp M (6, 0, 0) 0 v (6, 0, 0) 8 = nI L := fun v => by rw [← c2]; simp [mUp_at]
  refine ⟨mUp (mUp M (6, 0, 0) 0 0) (6, 0, 0) 8 0, ct_go hL_M_clearText rfl ?_, ⟨?_, ⟨?_, a2, fun i g hg k hk => ?_⟩, ⟨?_, fun g hg k hk => ?_⟩, by omega, ?_, fun j hj => by omega⟩, fun r p q => ?_, ?_⟩
  rotate_left
  · rw [mUp_ne (by simp), mUp_ne (by simp)]; exact h1
  · rw [← a1]; simp [mUp_at]
  · rw [mUp_ne (by simp), mUp_ne (by simp)]; exact a3 i g hg k hk
  · rw [← b1]; simp [mUp_at]
  · rw [mUp_ne (by simp), mUp_ne (by simp)]; exact b2 g hg k hk
  · simp [mUp_at]; rfl
  · rw [mUp_ne (fun s => by subst s; exact p rfl), mUp_ne (fun s => by subst s; exact p rfl)]
  · simp [mUp_at]
  · refine aw_aload_n k151_0 rfl ?_
    refine aw_iconst (v := 0) k151_1 (by decide) ?_
    refine aw_putI k151_2 hC_M_clearText fs_M_25 (by decide) ⟨rfl, rfl⟩ rfl po_6_0 ?_
    try simp only [g0]
    refine aw_aload_n k151_5 rfl ?_
    refine aw_getI k151_6 hC_M_clearText fs_M_122 (by decide) ⟨rfl, rfl⟩ rfl ?_
    try simp only [g0]
    refine aw_istore_n k151_9 (Nat.le_of_ble_eq_true rfl) rfl ?_
    refine aw_aload_n k151_10 rfl ?_
    refine aw_iconst (v := 0) k151_11 (by decide) ?_
    refine aw_putI k151_12 hC_M_clearText fs_M_122 (by decide) ⟨rfl, rfl⟩ rfl po_6_8 ?_
    try simp only [g0]
    refine aw_iload_n k151_15 rfl ?_
    refine aw_ireturn k151_16 hR_M_clearText ?_ ?_
    all_goals first | rfl | exact Or.inl rfl | exact Or.inr rfl | assumption | (simp_all; done) | ((repeat' split) <;> first | rfl | (simp only [Int32.lt_iff_toInt_lt, Int32.le_iff_toInt_le, Int64.lt_iff_toInt_lt, Int64.le_iff_toInt_le] at *; omega) | (simp_all; done))
