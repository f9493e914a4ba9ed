/-! THE MODEL: undo, snapshot, the text -/
theorem mW_s {M : mM} {g : Nat → Int32} : mW M (13, 0, 0) g = mS M g := rfl
theorem m_undoX {d L : Nat} {M : mM} {f t : Nat → Int32} {sn : Option (Nat → Int32)} (h : MR M f [] sn t L) : CT iM_undo (d + 8) [vR 6 0 0] M (.inl (some (vI 0))) (mUp M (6, 0, 0) 0 1) 0 := by
  have h6 : M (6, 0, 0) 6 = nI 0 := h.2.1.1
  refine ct_go hL_M_undo rfl ?_
  refine aw_aload_n k165_0 rfl ?_
  refine aw_aload_n k165_1 rfl ?_
  refine aw_getI k165_2 hC_M_undo fs_M_41 (by decide) ⟨rfl, rfl⟩ rfl ?_
  try simp only [h6]
  refine aw_if_le 12 k165_5 (by decide) (fun c_5 => ?_) (fun c_5 => ?_)
  · refine aw_iconst (v := 1) k165_12 (by decide) ?_
    refine aw_callV1 k165_13 hC_M_undo ok_M_holds sv_M_102 hH_M_holds ⟨rfl, rfl⟩ (by decide) hN_M_holds (by rw [hL_M_holds]; exact Nat.le_of_ble_eq_true rfl) (Nat.le_of_ble_eq_true rfl) (holds_f (by decide)) ?_
    refine aw_if_ne 21 k165_16 (by decide) (fun c_16 => ?_) (fun c_16 => ?_)
    · exact absurd rfl c_16
    · refine aw_iconst (v := 0) k165_19 (by decide) ?_
      refine aw_ireturn k165_20 hR_M_undo ?_ ?_
      all_goals first | rfl | exact Or.inl rfl | exact Or.inr rfl | assumption | (simp_all; done) | ((repeat' split) <;> first | rfl | (simp only [Int32.lt_iff_toInt_lt, Int32.le_iff_toInt_le, Int64.lt_iff_toInt_lt, Int64.le_iff_toInt_le] at *; omega) | (simp_all; done))
  · exact absurd (Int32.le_refl _) c_5
theorem m_undo {d L : Nat} {M : mM} {f g t : Nat → Int32} {hs : List (Nat → Int32)} {sn : Option (Nat → Int32)} (h : MR M f (g :: hs) sn t L) : ∃ M' f', CT iM_undo (d + 8) [vR 6 0 0] M (.inl (some (vI (nI hs.length)))) M' 0 ∧ mGood M M' f' hs sn t L ∧ ∀ j, j < 190 → f' j = g j := by
  obtain ⟨h1, ⟨a1, a2, a3⟩, ⟨b1, b2⟩, c1, c2, c3⟩ := h
  have hl : (g :: hs).length = hs.length + 1 := rfl
  rw [hl] at a1 a2 a3
  obtain ⟨M0, hM0⟩ : ∃ M0, M0 = mUp (mUp M (6, 0, 0) 0 0) (6, 0, 0) 6 (nI hs.length) := ⟨_, rfl⟩
  have e3 : M0 (13, 0, 3) = M (13, 0, 3) := by rw [hM0, mUp_ne (by simp), mUp_ne (by simp)]
  have e60 : ∀ g, mW M0 (13, 0, 0) g (6, 0, 0) = M0 (6, 0, 0) := fun g => mW_ne (by simp)
  have e6 : M0 (6, 0, 0) 6 = nI hs.length := by rw [hM0]; simp [mUp_at]
  have e30 : ∀ g, mW M0 (13, 0, 0) g (13, 0, 3) = M0 (13, 0, 3) := fun g => mW_ne (by simp)
  obtain ⟨G, hG⟩ : ∃ G : Nat → Int32, G = fun k => M0 (13, 0, 3) (190 * hs.length + k) := ⟨_, rfl⟩
  have hGk : ∀ k, M0 (13, 0, 3) (190 * hs.length + k) = G k := fun k => by rw [hG]
  have hGg : ∀ k, k < 190 → G k = g k := fun k hk => by
    rw [← hGk, e3, ← a3 0 g rfl k hk]
    exact congrArg _ (by omega)
  have loop : ∀ (l k : Nat), k + l = 190 → AW iM_undo (d + 8) 33 [some (vR 6 0 0), some (vI (nI k))] [] (mW M0 (13, 0, 0) (cpR G (M0 (13, 0, 0)) k)) (.inl (some (vI (nI hs.length)))) (mW M0 (13, 0, 0) (cpR G (M0 (13, 0, 0)) 190)) 0 := by
    intro l
    induction l with
    | zero =>
      intro k hk
      obtain rfl : k = 190 := by omega
      refine aw_iload_n k165_33 rfl ?_
      refine aw_sipush (v := 190) k165_34 (by decide) ?_
      refine aw_icmp_ge 67 k165_37 (by decide) (fun c_37 => ?_) (fun c_37 => ?_)
      · refine aw_aload_n k165_67 rfl ?_
        refine aw_getI k165_68 hC_M_undo fs_M_41 (by decide) ⟨rfl, rfl⟩ rfl ?_
        try simp only [e60, e6]
        refine aw_ireturn k165_71 hR_M_undo ?_ ?_
        all_goals first | rfl | exact Or.inl rfl | exact Or.inr rfl | assumption | (simp_all; done) | ((repeat' split) <;> first | rfl | (simp only [Int32.lt_iff_toInt_lt, Int32.le_iff_toInt_le, Int64.lt_iff_toInt_lt, Int64.le_iff_toInt_le] at *; omega) | (simp_all; done))
      · exact absurd (Int32.le_refl _) c_37
    | succ l ih =>
      intro k hk
      have x1 : (190 : Int32) * nI hs.length + nI k = nI (190 * hs.length + k) := by rw [show (190 : Int32) = nI 190 from rfl, nI_mul, nI_add]
      have k1 : (nI (190 * hs.length + k)).toNatClampNeg = 190 * hs.length + k := nI_clamp (by omega)
      have k2 : (nI k).toNatClampNeg = k := nI_clamp (by omega)
      have i1 : vp_in (nI (190 * hs.length + k)) 760 := vp_in_nI (by omega) (by decide)
      have i2 : vp_in (nI k) 190 := vp_in_nI (by omega) (by decide)
      refine aw_iload_n k165_33 rfl ?_
      refine aw_sipush (v := 190) k165_34 (by decide) ?_
      refine aw_icmp_ge 67 k165_37 (by decide) (fun c_37 => ?_) (fun c_37 => ?_)
      · exact absurd (nI_le_of (a := 190) c_37) (by omega)
      · refine aw_aload_n k165_40 rfl ?_
        refine aw_getR k165_41 hC_M_undo fs_M_7 (by decide) ⟨rfl, rfl⟩ rfl ?_
        try simp only [e60, e6, e30, hGk, mW_up, k1, k2, cpR_up]
        refine aw_iload_n k165_44 rfl ?_
        refine aw_aload_n k165_45 rfl ?_
        refine aw_getR k165_46 hC_M_undo fs_M_19 (by decide) ⟨rfl, rfl⟩ rfl ?_
        try simp only [e60, e6, e30, hGk, mW_up, k1, k2, cpR_up]
        refine aw_sipush (v := 190) k165_49 (by decide) ?_
        refine aw_aload_n k165_52 rfl ?_
        refine aw_getI k165_53 hC_M_undo fs_M_41 (by decide) ⟨rfl, rfl⟩ rfl ?_
        try simp only [e60, e6, e30, hGk, mW_up, k1, k2, cpR_up]
        refine aw_imul k165_56 ?_
        refine aw_iload_n k165_57 rfl ?_
        refine aw_iadd k165_58 ?_
        rw [x1]
        refine aw_iaload k165_59 (by first | exact ⟨rfl, rfl⟩ | exact ⟨by assumption, rfl⟩ | exact ⟨by assumption, by assumption⟩ | exact ⟨rfl, by decide⟩ | exact ⟨by assumption, by decide⟩ | exact ⟨by decide, rfl⟩ | exact ⟨by decide, by decide⟩ | exact ⟨by decide, by assumption⟩ | assumption) (by first | rfl | assumption) (by first | rfl | assumption) i1 ?_
        try simp only [e60, e6, e30, hGk, mW_up, k1, k2, cpR_up]
        refine aw_iastore k165_60 (by first | exact ⟨rfl, rfl⟩ | exact ⟨by assumption, rfl⟩ | exact ⟨by assumption, by assumption⟩ | exact ⟨rfl, by decide⟩ | exact ⟨by assumption, by decide⟩ | exact ⟨by decide, rfl⟩ | exact ⟨by decide, by decide⟩ | exact ⟨by decide, by assumption⟩ | assumption) (by first | rfl | assumption) (by first | rfl | assumption) i2 ?_
        try simp only [e60, e6, e30, hGk, mW_up, k1, k2, cpR_up]
        refine aw_iinc (y := 1) k165_61 rfl (by decide) rfl ?_
        try simp only [e60, e6, e30, hGk, mW_up, k1, k2, cpR_up]
        rw [nI_1 k]
        refine aw_goto (t := 33) k165_64 (by decide) ?_
        exact ih (k + 1) (by omega)
  have := loop 190 0 (by omega)
  rw [cpR_0, mW_self, hM0] at this
  have eu : ∀ v, mUp M (6, 0, 0) 0 v (6, 0, 0) 6 = nI (hs.length + 1) := fun v => by rw [← a1]; simp [mUp_at]
  have hp := nI_pred hs.length
  refine ⟨_, cpR G (M0 (13, 0, 0)) 190, ct_go hL_M_undo rfl ?_, ⟨⟨mW_at, ⟨by rw [e60]; exact e6, by omega, fun i g' hg' k hk => ?_⟩, ⟨?_, fun g' hg' k hk => ?_⟩, c1, ?_, fun j hj => ?_⟩, fun r p q => ?_, ?_⟩, fun j hj => ?_⟩
  rotate_left
  · have hi := (List.getElem?_eq_some_iff.mp hg').1
    rw [e30, e3, ← a3 (i + 1) g' (by simpa using hg') k hk]
    exact congrArg _ (by omega)
  · rw [e60, ← b1, hM0]; simp [mUp_at]
  · rw [mW_ne (by simp), hM0, mUp_ne (by simp), mUp_ne (by simp)]; exact b2 g' hg' k hk
  · rw [e60, ← c2, hM0]; simp [mUp_at]
  · rw [mW_ne (by simp), hM0, mUp_ne (by simp), mUp_ne (by simp)]; exact c3 j hj
  · rw [mW_ne (fun s => by subst s; exact q rfl), hM0, mUp_ne (fun s => by subst s; exact p rfl), mUp_ne (fun s => by subst s; exact p rfl)]
  · rw [e60, hM0]; simp [mUp_at]
  · rw [← hGg j hj]
    exact if_pos hj
  · rw [hM0]
    refine aw_aload_n k165_0 rfl ?_
    refine aw_aload_n k165_1 rfl ?_
    refine aw_getI k165_2 hC_M_undo fs_M_41 (by decide) ⟨rfl, rfl⟩ rfl ?_
    try simp only [a1, eu]
    refine aw_if_le 12 k165_5 (by decide) (fun c_5 => ?_) (fun c_5 => ?_)
    · exact absurd (nI_le_of (b := 0) c_5) (by omega)
    · refine aw_iconst (v := 0) k165_8 (by decide) ?_
      refine aw_goto (t := 13) k165_9 (by decide) ?_
      refine aw_callV1 k165_13 hC_M_undo ok_M_holds sv_M_102 hH_M_holds ⟨rfl, rfl⟩ (by decide) hN_M_holds (by rw [hL_M_holds]; exact Nat.le_of_ble_eq_true rfl) (Nat.le_of_ble_eq_true rfl) holds_t ?_
      refine aw_if_ne 21 k165_16 (by decide) (fun c_16 => ?_) (fun c_16 => ?_)
      · refine aw_aload_n k165_21 rfl ?_
        first | refine aw_dupI k165_22 ?_ | refine aw_dupR k165_22 ?_
        refine aw_getI k165_23 hC_M_undo fs_M_41 (by decide) ⟨rfl, rfl⟩ rfl ?_
        try simp only [a1, eu]
        refine aw_iconst (v := 1) k165_26 (by decide) ?_
        refine aw_isub k165_27 ?_
        rw [hp]
        refine aw_putI k165_28 hC_M_undo fs_M_41 (by decide) ⟨rfl, rfl⟩ rfl po_6_6 ?_
        try simp only [a1, eu]
        refine aw_iconst (v := 0) k165_31 (by decide) ?_
        refine aw_istore_n k165_32 (Nat.le_of_ble_eq_true rfl) rfl ?_
        exact this
      · exact absurd (show (1 : Int32) = 0 from c_16) (by decide)
