/-! THE MODEL'S TELLINGS, the rest -/
theorem m_sharedSides {d L : Nat} {M : mM} {f t : Nat → Int32} {hs : List (Nat → Int32)} {sn : Option (Nat → Int32)} (h : MR M f hs sn t L) (hS : ShF f) (hB : BdF f) {x : Int32} (hx : hasF f x = true) {y : Int32} (hy : hasF f y = true) : CT iM_sharedSides (d + 8) [vR 6 0 0, vI x, vI y] M (.inl (some (vI (nI (shaF f x.toNatClampNeg y.toNatClampNeg))))) (mUp M (6, 0, 0) 0 0) 0 := by
  have e : mUp M (6, 0, 0) 0 0 (13, 0, 0) = f := by rw [mUp_ne (by simp)]; exact h.1
  have hc := m_isF (d := d + 6) (x := x) h hS
  rw [hx] at hc
  obtain ⟨ex, hlt⟩ := hasF_at hx hS.2.2.1 hS.2.2.2.1
  have hfm : FM (mUp M (6, 0, 0) 0 0 (13, 0, 0)) x.toNatClampNeg (bN f x.toNatClampNeg) := by rw [e]; exact hS.fm hlt
  have hb9 : ∀ k, k < bN f x.toNatClampNeg → bi (fX f x.toNatClampNeg k) 400000 ∧ bi (fY f x.toNatClampNeg k) 400000 := hB.2.2.2.1 _ hlt
  have h12 : bN f x.toNatClampNeg ≤ 12 := hfm.2.2.2
  have h03 : 0 < bN f x.toNatClampNeg := hfm.2.2.1
  have hc2 := m_isF (d := d + 6) (x := y) h hS
  rw [hy] at hc2
  obtain ⟨ey, hlty⟩ := hasF_at hy hS.2.2.1 hS.2.2.2.1
  have hfmy : FM (mUp M (6, 0, 0) 0 0 (13, 0, 0)) y.toNatClampNeg (bN f y.toNatClampNeg) := by rw [e]; exact hS.fm hlty
  obtain ⟨p, hp⟩ : ∃ p : Nat → Bool, p = fun i => anyB (sdG (fX f y.toNatClampNeg) (fY f y.toNatClampNeg) (fX f x.toNatClampNeg) (fY f x.toNatClampNeg) (bN f y.toNatClampNeg) i (nx (bN f x.toNatClampNeg) i)) (bN f y.toNatClampNeg) := ⟨_, rfl⟩
  have hev : shaF f x.toNatClampNeg y.toNatClampNeg = cntB p (bN f x.toNatClampNeg) := by rw [hp]; rfl
  rw [hev]
  have hE : ∀ j, j < bN f x.toNatClampNeg → CT iM_isShared (d + 7) [vR 6 0 0, vI x, vI (nI j), vI y] (mUp M (6, 0, 0) 0 0) (.inl (some (vI (bI (p j))))) (mUp M (6, 0, 0) 0 0) 0 := fun j hj => by
    have := s_M_isShared (d := d + 4) hfm hfmy hj
    rw [e, anyB_c (fun i hi => shB_eq), ← ex, ← ey] at this
    rw [hp]
    exact this
  have hco := s_M_corners (d := d + 7) (M := mUp M (6, 0, 0) 0 0) hfm.1
  rw [e, (hS.2.2.2.2 _ hlt).1, ← ex] at hco
  clear hev hp hfm
  generalize bN f x.toNatClampNeg = m at hE hco h12 h03 ⊢
  have loop : ∀ (k j : Nat) (b : Int32), j + k = m → b = nI (cntB p j) → AW iM_sharedSides (d + 8) 35 [some (vR 6 0 0), some (vI x), some (vI y), some (vI b), some (vI (nI j))] [] (mUp M (6, 0, 0) 0 0) (.inl (some (vI (nI (cntB p m))))) (mUp M (6, 0, 0) 0 0) 0 := by
    intro k
    induction k with
    | zero =>
      intro j b hj hb
      obtain rfl : j = m := by omega
      subst hb
      refine aw_iload k182_35 rfl ?_
      refine aw_aload_n k182_37 rfl ?_
      refine aw_iload_n k182_38 rfl ?_
      refine aw_callV1 k182_39 hC_M_sharedSides ok_M_corners sv_M_37 hH_M_corners ⟨rfl, rfl⟩ (by decide) hN_M_corners (by rw [hL_M_corners]; exact Nat.le_of_ble_eq_true rfl) (Nat.le_of_ble_eq_true rfl) hco ?_
      refine aw_icmp_ge 70 k182_42 (by decide) (fun c_42 => ?_) (fun c_42 => ?_)
      · refine aw_iload_n k182_70 rfl ?_
        refine aw_ireturn k182_71 hR_M_sharedSides ?_ ?_
        all_goals first | rfl | exact Or.inl rfl | exact Or.inr rfl | assumption | (simp_all; done) | ((repeat' split) <;> first | rfl | (simp only [Int32.lt_iff_toInt_lt, Int32.le_iff_toInt_le, Int64.lt_iff_toInt_lt, Int64.le_iff_toInt_le] at *; omega) | (simp_all; done))
      · exact absurd (Int32.le_refl _) c_42
    | succ k ih =>
      intro j b hj hb
      subst hb
      have hjm : j < m := by omega
      have hEj := hE j hjm
      refine aw_iload k182_35 rfl ?_
      refine aw_aload_n k182_37 rfl ?_
      refine aw_iload_n k182_38 rfl ?_
      refine aw_callV1 k182_39 hC_M_sharedSides ok_M_corners sv_M_37 hH_M_corners ⟨rfl, rfl⟩ (by decide) hN_M_corners (by rw [hL_M_corners]; exact Nat.le_of_ble_eq_true rfl) (Nat.le_of_ble_eq_true rfl) hco ?_
      refine aw_icmp_ge 70 k182_42 (by decide) (fun c_42 => ?_) (fun c_42 => ?_)
      · exact absurd (nI_le_of c_42) (by omega)
      · refine aw_iload_n k182_45 rfl ?_
        refine aw_aload_n k182_46 rfl ?_
        refine aw_iload_n k182_47 rfl ?_
        refine aw_iload k182_48 rfl ?_
        refine aw_iload_n k182_50 rfl ?_
        refine aw_callV3 k182_51 hC_M_sharedSides ok_M_isShared sv_M_178 hH_M_isShared ⟨rfl, rfl⟩ (by decide) hN_M_isShared (by rw [hL_M_isShared]; exact Nat.le_of_ble_eq_true rfl) (Nat.le_of_ble_eq_true rfl) hEj ?_
        refine aw_if_eq 61 k182_54 (by decide) (fun c_54 => ?_) (fun c_54 => ?_)
        · refine aw_iconst (v := 0) k182_61 (by decide) ?_
          refine aw_iadd k182_62 ?_
          refine aw_istore_n k182_63 (Nat.le_of_ble_eq_true rfl) rfl ?_
          refine aw_iinc (y := 1) k182_64 rfl (by decide) rfl ?_
          rw [nI_1 j]
          refine aw_goto (t := 35) k182_67 (by decide) ?_
          first
            | (have g := bI_1 c_54
               exact ih (j + 1) _ (by omega) (cntB_t g))
            | (have g := bI_0 c_54
               exact ih (j + 1) _ (by omega) (add0 (cntB_f g)))
        · refine aw_iconst (v := 1) k182_57 (by decide) ?_
          refine aw_goto (t := 62) k182_58 (by decide) ?_
          refine aw_iadd k182_62 ?_
          refine aw_istore_n k182_63 (Nat.le_of_ble_eq_true rfl) rfl ?_
          refine aw_iinc (y := 1) k182_64 rfl (by decide) rfl ?_
          rw [nI_1 j]
          refine aw_goto (t := 35) k182_67 (by decide) ?_
          first
            | (have g := bI_1 c_54
               exact ih (j + 1) _ (by omega) (cntB_t g))
            | (have g := bI_0 c_54
               exact ih (j + 1) _ (by omega) (add0 (cntB_f g)))
  refine ct_go hL_M_sharedSides rfl ?_
  refine aw_aload_n k182_0 rfl ?_
  refine aw_aload_n k182_1 rfl ?_
  refine aw_iload_n k182_2 rfl ?_
  refine aw_callV1 k182_3 hC_M_sharedSides ok_M_isField sv_M_33 hH_M_isField ⟨rfl, rfl⟩ (by decide) hN_M_isField (by rw [hL_M_isField]; exact Nat.le_of_ble_eq_true rfl) (Nat.le_of_ble_eq_true rfl) hc ?_
  refine aw_if_eq 21 k182_6 (by decide) (fun c_6 => ?_) (fun c_6 => ?_)
  · exact absurd (show (1 : Int32) = 0 from c_6) (by decide)
  · refine aw_aload_n k182_9 rfl ?_
    refine aw_iload_n k182_10 rfl ?_
    refine aw_callV1 k182_11 hC_M_sharedSides ok_M_isField sv_M_33 hH_M_isField ⟨rfl, rfl⟩ (by decide) hN_M_isField (by rw [hL_M_isField]; exact Nat.le_of_ble_eq_true rfl) (Nat.le_of_ble_eq_true rfl) hc2 ?_
    refine aw_if_eq 21 k182_14 (by decide) (fun c_14 => ?_) (fun c_14 => ?_)
    · exact absurd (show (1 : Int32) = 0 from c_14) (by decide)
    · refine aw_iconst (v := 0) k182_17 (by decide) ?_
      refine aw_goto (t := 22) k182_18 (by decide) ?_
      refine aw_callV1 k182_22 hC_M_sharedSides ok_M_holds sv_M_102 hH_M_holds ⟨rfl, rfl⟩ (by decide) hN_M_holds (by rw [hL_M_holds]; exact Nat.le_of_ble_eq_true rfl) (Nat.le_of_ble_eq_true rfl) holds_t ?_
      refine aw_if_ne 30 k182_25 (by decide) (fun c_25 => ?_) (fun c_25 => ?_)
      · refine aw_iconst (v := 0) k182_30 (by decide) ?_
        refine aw_istore_n k182_31 (Nat.le_of_ble_eq_true rfl) rfl ?_
        refine aw_iconst (v := 0) k182_32 (by decide) ?_
        refine aw_istore k182_33 (Nat.le_of_ble_eq_true rfl) rfl ?_
        exact loop m 0 _ (by omega) rfl
      · exact absurd (show (1 : Int32) = 0 from c_25) (by decide)
theorem mx_sharedSides {d L : Nat} {M : mM} {f t : Nat → Int32} {hs : List (Nat → Int32)} {sn : Option (Nat → Int32)} (h : MR M f hs sn t L) (hS : ShF f) (hB : BdF f) {x y : Int32} (hx : ¬ (hasF f x = true ∧ hasF f y = true)) : CT iM_sharedSides (d + 8) [vR 6 0 0, vI x, vI y] M (.inl (some (vI 0))) (mUp M (6, 0, 0) 0 1) 0 := by
  have hc := m_isF (d := d + 6) (x := x) h hS
  have hc2 := m_isF (d := d + 6) (x := y) h hS
  refine ct_go hL_M_sharedSides rfl ?_
  by_cases h1 : hasF f x = true
  · rw [Bool.eq_false_iff.mpr (fun q => hx ⟨h1, q⟩)] at hc2
    rw [h1] at hc
    refine aw_aload_n k182_0 rfl ?_
    refine aw_aload_n k182_1 rfl ?_
    refine aw_iload_n k182_2 rfl ?_
    refine aw_callV1 k182_3 hC_M_sharedSides ok_M_isField sv_M_33 hH_M_isField ⟨rfl, rfl⟩ (by decide) hN_M_isField (by rw [hL_M_isField]; exact Nat.le_of_ble_eq_true rfl) (Nat.le_of_ble_eq_true rfl) hc ?_
    refine aw_if_eq 21 k182_6 (by decide) (fun c_6 => ?_) (fun c_6 => ?_)
    · exact absurd (show (1 : Int32) = 0 from c_6) (by decide)
    · refine aw_aload_n k182_9 rfl ?_
      refine aw_iload_n k182_10 rfl ?_
      refine aw_callV1 k182_11 hC_M_sharedSides ok_M_isField sv_M_33 hH_M_isField ⟨rfl, rfl⟩ (by decide) hN_M_isField (by rw [hL_M_isField]; exact Nat.le_of_ble_eq_true rfl) (Nat.le_of_ble_eq_true rfl) hc2 ?_
      refine aw_if_eq 21 k182_14 (by decide) (fun c_14 => ?_) (fun c_14 => ?_)
      · refine aw_iconst (v := 1) k182_21 (by decide) ?_
        refine aw_callV1 k182_22 hC_M_sharedSides ok_M_holds sv_M_102 hH_M_holds ⟨rfl, rfl⟩ (by decide) hN_M_holds (by rw [hL_M_holds]; exact Nat.le_of_ble_eq_true rfl) (Nat.le_of_ble_eq_true rfl) (holds_f (by decide)) ?_
        refine aw_if_ne 30 k182_25 (by decide) (fun c_25 => ?_) (fun c_25 => ?_)
        · exact absurd rfl c_25
        · refine aw_iconst (v := 0) k182_28 (by decide) ?_
          refine aw_ireturn k182_29 hR_M_sharedSides ?_ ?_
          all_goals first | rfl | exact Or.inl rfl | exact Or.inr rfl | assumption | (simp_all; done) | ((repeat' split) <;> first | rfl | (simp only [Int32.lt_iff_toInt_lt, Int32.le_iff_toInt_le, Int64.lt_iff_toInt_lt, Int64.le_iff_toInt_le] at *; omega) | (simp_all; done))
      · exact absurd rfl c_14
  · rw [Bool.eq_false_iff.mpr h1] at hc
    refine aw_aload_n k182_0 rfl ?_
    refine aw_aload_n k182_1 rfl ?_
    refine aw_iload_n k182_2 rfl ?_
    refine aw_callV1 k182_3 hC_M_sharedSides ok_M_isField sv_M_33 hH_M_isField ⟨rfl, rfl⟩ (by decide) hN_M_isField (by rw [hL_M_isField]; exact Nat.le_of_ble_eq_true rfl) (Nat.le_of_ble_eq_true rfl) hc ?_
    refine aw_if_eq 21 k182_6 (by decide) (fun c_6 => ?_) (fun c_6 => ?_)
    · refine aw_iconst (v := 1) k182_21 (by decide) ?_
      refine aw_callV1 k182_22 hC_M_sharedSides ok_M_holds sv_M_102 hH_M_holds ⟨rfl, rfl⟩ (by decide) hN_M_holds (by rw [hL_M_holds]; exact Nat.le_of_ble_eq_true rfl) (Nat.le_of_ble_eq_true rfl) (holds_f (by decide)) ?_
      refine aw_if_ne 30 k182_25 (by decide) (fun c_25 => ?_) (fun c_25 => ?_)
      · exact absurd rfl c_25
      · refine aw_iconst (v := 0) k182_28 (by decide) ?_
        refine aw_ireturn k182_29 hR_M_sharedSides ?_ ?_
        all_goals first | rfl | exact Or.inl rfl | exact Or.inr rfl | assumption | (simp_all; done) | ((repeat' split) <;> first | rfl | (simp only [Int32.lt_iff_toInt_lt, Int32.le_iff_toInt_le, Int64.lt_iff_toInt_lt, Int64.le_iff_toInt_le] at *; omega) | (simp_all; done))
    · exact absurd rfl c_6
theorem m_sheetsFor {d L : Nat} {M : mM} {f t : Nat → Int32} {hs : List (Nat → Int32)} {sn : Option (Nat → Int32)} (h : MR M f hs sn t L) (hS : ShF f) (hB : BdF f) {x : Int32} (hx : hasF f x = true) {y : Int32} (hy : 10 ≤ y ∧ y ≤ 1000) : CT iM_sheetsFor (d + 8) [vR 6 0 0, vI x, vI y] M (.inl (some (vI (pcs (exX f x.toNatClampNeg) (20 * y) * pcs (exY f x.toNatClampNeg) (20 * y))))) (mUp M (6, 0, 0) 0 0) 0 := by
  have e : mUp M (6, 0, 0) 0 0 (13, 0, 0) = f := by rw [mUp_ne (by simp)]; exact h.1
  have hc := m_isF (d := d + 6) (x := x) h hS
  rw [hx] at hc
  obtain ⟨ex, hlt⟩ := hasF_at hx hS.2.2.1 hS.2.2.2.1
  have hfm : FM (mUp M (6, 0, 0) 0 0 (13, 0, 0)) x.toNatClampNeg (bN f x.toNatClampNeg) := by rw [e]; exact hS.fm hlt
  have hb9 : ∀ k, k < bN f x.toNatClampNeg → bi (fX f x.toNatClampNeg k) 400000 ∧ bi (fY f x.toNatClampNeg k) 400000 := hB.2.2.2.1 _ hlt
  have h12 : bN f x.toNatClampNeg ≤ 12 := hfm.2.2.2
  have h03 : 0 < bN f x.toNatClampNeg := hfm.2.2.1
  obtain ⟨z, hz⟩ : ∃ z, bN f x.toNatClampNeg = z + 1 := ⟨bN f x.toNatClampNeg - 1, by omega⟩
  rw [hz] at hfm hb9
  have hX := s_M_extent (d := d + 5) (w := 0) hfm (by decide)
  have hY := s_M_extent (d := d + 5) (w := 1) hfm (by decide)
  have rX : 0 ≤ (exX f x.toNatClampNeg).toInt ∧ (exX f x.toNatClampNeg).toInt ≤ 800000 := by
    unfold exX
    rw [hz]
    exact ex_bd (fun k hk => (hb9 k (by omega)).1)
  have rY : 0 ≤ (exY f x.toNatClampNeg).toInt ∧ (exY f x.toNatClampNeg).toInt ≤ 800000 := by
    unfold exY
    rw [hz]
    exact ex_bd (fun k hk => (hb9 k (by omega)).2)
  have eX : maxV (fX f x.toNatClampNeg) z - minV (fX f x.toNatClampNeg) z = exX f x.toNatClampNeg := by unfold exX; rw [hz]; rfl
  have eY : maxV (fY f x.toNatClampNeg) z - minV (fY f x.toNatClampNeg) z = exY f x.toNatClampNeg := by unfold exY; rw [hz]; rfl
  rw [e, cW0, ← ex, eX] at hX
  rw [e, cW1, ← ex, eY] at hY
  have hy1 := hy.1
  have hy2 := hy.2
  rw [Int32.le_iff_toInt_le] at hy1 hy2
  have z10 : (10 : Int32).toInt = 10 := rfl
  have z1000 : (1000 : Int32).toInt = 1000 := rfl
  have z20 : (20 : Int32).toInt = 20 := rfl
  have e20 : (20 * y).toInt = 20 * y.toInt := by rw [Int32.toInt_mul, z20, bm32 (by omega) (by omega)]
  have hb0 : ¬ (20 * y) = 0 := fun q => by
    have := congrArg Int32.toInt q
    rw [e20] at this
    have z : (0 : Int32).toInt = 0 := rfl
    omega
  rw [← up_eq (b := 20 * y) rX (by omega), ← up_eq (b := 20 * y) rY (by omega)]
  refine ct_go hL_M_sheetsFor rfl ?_
  refine aw_aload_n k192_0 rfl ?_
  refine aw_aload_n k192_1 rfl ?_
  refine aw_iload_n k192_2 rfl ?_
  refine aw_callV1 k192_3 hC_M_sheetsFor ok_M_isField sv_M_33 hH_M_isField ⟨rfl, rfl⟩ (by decide) hN_M_isField (by rw [hL_M_isField]; exact Nat.le_of_ble_eq_true rfl) (Nat.le_of_ble_eq_true rfl) hc ?_
  refine aw_if_ne 13 k192_6 (by decide) (fun c_6 => ?_) (fun c_6 => ?_)
  · refine aw_iload_n k192_13 rfl ?_
    refine aw_bipush (v := 10) k192_14 (by decide) ?_
    refine aw_sipush (v := 1000) k192_16 (by decide) ?_
    refine aw_callS3 k192_19 hC_M_sheetsFor ok_M_in ss_M_29 hH_M_in (by rw [hL_M_in]; exact Nat.le_of_ble_eq_true rfl) (Nat.le_of_ble_eq_true rfl) (in_t hy) ?_
    refine aw_if_eq 29 k192_22 (by decide) (fun c_22 => ?_) (fun c_22 => ?_)
    · exact absurd (show (1 : Int32) = 0 from c_22) (by decide)
    · refine aw_iconst (v := 0) k192_25 (by decide) ?_
      refine aw_goto (t := 30) k192_26 (by decide) ?_
      refine aw_callV1 k192_30 hC_M_sheetsFor ok_M_holds sv_M_102 hH_M_holds ⟨rfl, rfl⟩ (by decide) hN_M_holds (by rw [hL_M_holds]; exact Nat.le_of_ble_eq_true rfl) (Nat.le_of_ble_eq_true rfl) holds_t ?_
      refine aw_if_ne 38 k192_33 (by decide) (fun c_33 => ?_) (fun c_33 => ?_)
      · refine aw_aload_n k192_38 rfl ?_
        refine aw_iload_n k192_39 rfl ?_
        refine aw_iconst (v := 0) k192_40 (by decide) ?_
        refine aw_callV2 k192_41 hC_M_sheetsFor ok_M_extent sv_M_194 hH_M_extent ⟨rfl, rfl⟩ (by decide) hN_M_extent (by rw [hL_M_extent]; exact Nat.le_of_ble_eq_true rfl) (Nat.le_of_ble_eq_true rfl) hX ?_
        refine aw_bipush (v := 20) k192_44 (by decide) ?_
        refine aw_iload_n k192_46 rfl ?_
        refine aw_imul k192_47 ?_
        refine aw_callS2 k192_48 hC_M_sheetsFor ok_M_up ss_M_197 hH_M_up (by rw [hL_M_up]; exact Nat.le_of_ble_eq_true rfl) (Nat.le_of_ble_eq_true rfl) (s_M_up hb0) ?_
        refine aw_aload_n k192_51 rfl ?_
        refine aw_iload_n k192_52 rfl ?_
        refine aw_iconst (v := 1) k192_53 (by decide) ?_
        refine aw_callV2 k192_54 hC_M_sheetsFor ok_M_extent sv_M_194 hH_M_extent ⟨rfl, rfl⟩ (by decide) hN_M_extent (by rw [hL_M_extent]; exact Nat.le_of_ble_eq_true rfl) (Nat.le_of_ble_eq_true rfl) hY ?_
        refine aw_bipush (v := 20) k192_57 (by decide) ?_
        refine aw_iload_n k192_59 rfl ?_
        refine aw_imul k192_60 ?_
        refine aw_callS2 k192_61 hC_M_sheetsFor ok_M_up ss_M_197 hH_M_up (by rw [hL_M_up]; exact Nat.le_of_ble_eq_true rfl) (Nat.le_of_ble_eq_true rfl) (s_M_up hb0) ?_
        refine aw_imul k192_64 ?_
        refine aw_ireturn k192_65 hR_M_sheetsFor ?_ ?_
        all_goals first | rfl | exact Or.inl rfl | exact Or.inr rfl | assumption | (simp_all; done) | ((repeat' split) <;> first | rfl | (simp only [Int32.lt_iff_toInt_lt, Int32.le_iff_toInt_le, Int64.lt_iff_toInt_lt, Int64.le_iff_toInt_le] at *; omega) | (simp_all; done))
      · exact absurd (show (1 : Int32) = 0 from c_33) (by decide)
  · exact absurd (show (1 : Int32) = 0 from c_6) (by decide)
theorem mx_sheetsFor {d L : Nat} {M : mM} {f t : Nat → Int32} {hs : List (Nat → Int32)} {sn : Option (Nat → Int32)} (h : MR M f hs sn t L) (hS : ShF f) (hB : BdF f) {x : Int32} (hx : hasF f x = false) {y : Int32} : CT iM_sheetsFor (d + 8) [vR 6 0 0, vI x, vI y] M (.inl (some (vI 0))) (mUp M (6, 0, 0) 0 1) 0 := by
  have hc := m_isF (d := d + 6) (x := x) h hS
  rw [hx] at hc
  refine ct_go hL_M_sheetsFor rfl ?_
  refine aw_aload_n k192_0 rfl ?_
  refine aw_aload_n k192_1 rfl ?_
  refine aw_iload_n k192_2 rfl ?_
  refine aw_callV1 k192_3 hC_M_sheetsFor ok_M_isField sv_M_33 hH_M_isField ⟨rfl, rfl⟩ (by decide) hN_M_isField (by rw [hL_M_isField]; exact Nat.le_of_ble_eq_true rfl) (Nat.le_of_ble_eq_true rfl) hc ?_
  refine aw_if_ne 13 k192_6 (by decide) (fun c_6 => ?_) (fun c_6 => ?_)
  · exact absurd rfl c_6
  · refine aw_iconst (v := 1) k192_9 (by decide) ?_
    refine aw_goto (t := 30) k192_10 (by decide) ?_
    refine aw_callV1 k192_30 hC_M_sheetsFor ok_M_holds sv_M_102 hH_M_holds ⟨rfl, rfl⟩ (by decide) hN_M_holds (by rw [hL_M_holds]; exact Nat.le_of_ble_eq_true rfl) (Nat.le_of_ble_eq_true rfl) (holds_f (by decide)) ?_
    refine aw_if_ne 38 k192_33 (by decide) (fun c_33 => ?_) (fun c_33 => ?_)
    · exact absurd rfl c_33
    · refine aw_iconst (v := 0) k192_36 (by decide) ?_
      refine aw_ireturn k192_37 hR_M_sheetsFor ?_ ?_
      all_goals first | rfl | exact Or.inl rfl | exact Or.inr rfl | assumption | (simp_all; done) | ((repeat' split) <;> first | rfl | (simp only [Int32.lt_iff_toInt_lt, Int32.le_iff_toInt_le, Int64.lt_iff_toInt_lt, Int64.le_iff_toInt_le] at *; omega) | (simp_all; done))
theorem my_sheetsFor {d L : Nat} {M : mM} {f t : Nat → Int32} {hs : List (Nat → Int32)} {sn : Option (Nat → Int32)} (h : MR M f hs sn t L) (hS : ShF f) (hB : BdF f) {x : Int32} (hx : hasF f x = true) {y : Int32} (hy : ¬ (10 ≤ y ∧ y ≤ 1000)) : CT iM_sheetsFor (d + 8) [vR 6 0 0, vI x, vI y] M (.inl (some (vI 0))) (mUp M (6, 0, 0) 0 2) 0 := by
  have hc := m_isF (d := d + 6) (x := x) h hS
  rw [hx] at hc
  refine ct_go hL_M_sheetsFor rfl ?_
  refine aw_aload_n k192_0 rfl ?_
  refine aw_aload_n k192_1 rfl ?_
  refine aw_iload_n k192_2 rfl ?_
  refine aw_callV1 k192_3 hC_M_sheetsFor ok_M_isField sv_M_33 hH_M_isField ⟨rfl, rfl⟩ (by decide) hN_M_isField (by rw [hL_M_isField]; exact Nat.le_of_ble_eq_true rfl) (Nat.le_of_ble_eq_true rfl) hc ?_
  refine aw_if_ne 13 k192_6 (by decide) (fun c_6 => ?_) (fun c_6 => ?_)
  · refine aw_iload_n k192_13 rfl ?_
    refine aw_bipush (v := 10) k192_14 (by decide) ?_
    refine aw_sipush (v := 1000) k192_16 (by decide) ?_
    refine aw_callS3 k192_19 hC_M_sheetsFor ok_M_in ss_M_29 hH_M_in (by rw [hL_M_in]; exact Nat.le_of_ble_eq_true rfl) (Nat.le_of_ble_eq_true rfl) (in_f hy) ?_
    refine aw_if_eq 29 k192_22 (by decide) (fun c_22 => ?_) (fun c_22 => ?_)
    · refine aw_iconst (v := 2) k192_29 (by decide) ?_
      refine aw_callV1 k192_30 hC_M_sheetsFor ok_M_holds sv_M_102 hH_M_holds ⟨rfl, rfl⟩ (by decide) hN_M_holds (by rw [hL_M_holds]; exact Nat.le_of_ble_eq_true rfl) (Nat.le_of_ble_eq_true rfl) (holds_f (by decide)) ?_
      refine aw_if_ne 38 k192_33 (by decide) (fun c_33 => ?_) (fun c_33 => ?_)
      · exact absurd rfl c_33
      · refine aw_iconst (v := 0) k192_36 (by decide) ?_
        refine aw_ireturn k192_37 hR_M_sheetsFor ?_ ?_
        all_goals first | rfl | exact Or.inl rfl | exact Or.inr rfl | assumption | (simp_all; done) | ((repeat' split) <;> first | rfl | (simp only [Int32.lt_iff_toInt_lt, Int32.le_iff_toInt_le, Int64.lt_iff_toInt_lt, Int64.le_iff_toInt_le] at *; omega) | (simp_all; done))
    · exact absurd rfl c_22
  · exact absurd (show (1 : Int32) = 0 from c_6) (by decide)
theorem m_scaleFor {d L : Nat} {M : mM} {f t : Nat → Int32} {hs : List (Nat → Int32)} {sn : Option (Nat → Int32)} (h : MR M f hs sn t L) (hS : ShF f) (hB : BdF f) {x : Int32} (hx : hasF f x = true) : CT iM_scaleFor (d + 8) [vR 6 0 0, vI x] M (.inl (some (vI (scF (exX f x.toNatClampNeg) (exY f x.toNatClampNeg))))) (mUp M (6, 0, 0) 0 0) 0 := by
  have e : mUp M (6, 0, 0) 0 0 (13, 0, 0) = f := by rw [mUp_ne (by simp)]; exact h.1
  have hc := m_isF (d := d + 6) (x := x) h hS
  rw [hx] at hc
  obtain ⟨ex, hlt⟩ := hasF_at hx hS.2.2.1 hS.2.2.2.1
  have hfm : FM (mUp M (6, 0, 0) 0 0 (13, 0, 0)) x.toNatClampNeg (bN f x.toNatClampNeg) := by rw [e]; exact hS.fm hlt
  have hb9 : ∀ k, k < bN f x.toNatClampNeg → bi (fX f x.toNatClampNeg k) 400000 ∧ bi (fY f x.toNatClampNeg k) 400000 := hB.2.2.2.1 _ hlt
  have h12 : bN f x.toNatClampNeg ≤ 12 := hfm.2.2.2
  have h03 : 0 < bN f x.toNatClampNeg := hfm.2.2.1
  obtain ⟨z, hz⟩ : ∃ z, bN f x.toNatClampNeg = z + 1 := ⟨bN f x.toNatClampNeg - 1, by omega⟩
  rw [hz] at hfm hb9
  have hX := s_M_extent (d := d + 5) (w := 0) hfm (by decide)
  have hY := s_M_extent (d := d + 5) (w := 1) hfm (by decide)
  have rX : 0 ≤ (exX f x.toNatClampNeg).toInt ∧ (exX f x.toNatClampNeg).toInt ≤ 800000 := by
    unfold exX
    rw [hz]
    exact ex_bd (fun k hk => (hb9 k (by omega)).1)
  have rY : 0 ≤ (exY f x.toNatClampNeg).toInt ∧ (exY f x.toNatClampNeg).toInt ≤ 800000 := by
    unfold exY
    rw [hz]
    exact ex_bd (fun k hk => (hb9 k (by omega)).2)
  have eX : maxV (fX f x.toNatClampNeg) z - minV (fX f x.toNatClampNeg) z = exX f x.toNatClampNeg := by unfold exX; rw [hz]; rfl
  have eY : maxV (fY f x.toNatClampNeg) z - minV (fY f x.toNatClampNeg) z = exY f x.toNatClampNeg := by unfold exY; rw [hz]; rfl
  rw [e, cW0, ← ex, eX] at hX
  rw [e, cW1, ← ex, eY] at hY
  rw [← scl_eq rX rY]
  clear eX eY
  generalize exX f x.toNatClampNeg = a at hX rX ⊢
  generalize exY f x.toNatClampNeg = b at hY rY ⊢
  obtain ⟨l, hl⟩ : ∃ l, l = upM (if b < a then a else b) 20 := ⟨_, rfl⟩
  have hs : scM a b = if 1000 < l then -1 else if l < 10 then 10 else l := by rw [hl]; rfl
  rw [hs]
  have a46 : AW iM_scaleFor (d + 8) 46 [some (vR 6 0 0), some (vI x), some (vI a), some (vI b), none] [vI (if b < a then a else b)] (mUp M (6, 0, 0) 0 0) (.inl (some (vI (if 1000 < l then -1 else if l < 10 then 10 else l)))) (mUp M (6, 0, 0) 0 0) 0 := by
    refine aw_bipush (v := 20) k193_46 (by decide) ?_
    refine aw_callS2 k193_48 hC_M_scaleFor ok_M_up ss_M_197 hH_M_up (by rw [hL_M_up]; exact Nat.le_of_ble_eq_true rfl) (Nat.le_of_ble_eq_true rfl) (s_M_up (by decide)) ?_
    rw [← hl]
    refine aw_istore k193_51 (Nat.le_of_ble_eq_true rfl) rfl ?_
    refine aw_iload k193_53 rfl ?_
    refine aw_sipush (v := 1000) k193_55 (by decide) ?_
    refine aw_icmp_le 65 k193_58 (by decide) (fun c_58 => ?_) (fun c_58 => ?_)
    · refine aw_iload k193_65 rfl ?_
      refine aw_bipush (v := 10) k193_67 (by decide) ?_
      refine aw_icmp_ge 77 k193_69 (by decide) (fun c_69 => ?_) (fun c_69 => ?_)
      · refine aw_iload k193_77 rfl ?_
        refine aw_ireturn k193_79 hR_M_scaleFor ?_ ?_
        · first
            | (have g := Int32.not_le.mp c_58
               rw [if_pos g])
            | (have g := Int32.not_lt.mpr c_58
               have g2 := Int32.not_le.mp c_69
               rw [if_neg g, if_pos g2])
            | (have g := Int32.not_lt.mpr c_58
               have g2 := Int32.not_lt.mpr c_69
               rw [if_neg g, if_neg g2])
        · rfl
      · refine aw_bipush (v := 10) k193_72 (by decide) ?_
        refine aw_goto (t := 79) k193_74 (by decide) ?_
        refine aw_ireturn k193_79 hR_M_scaleFor ?_ ?_
        · first
            | (have g := Int32.not_le.mp c_58
               rw [if_pos g])
            | (have g := Int32.not_lt.mpr c_58
               have g2 := Int32.not_le.mp c_69
               rw [if_neg g, if_pos g2])
            | (have g := Int32.not_lt.mpr c_58
               have g2 := Int32.not_lt.mpr c_69
               rw [if_neg g, if_neg g2])
        · rfl
    · refine aw_iconst (v := (-1)) k193_61 (by decide) ?_
      refine aw_goto (t := 79) k193_62 (by decide) ?_
      refine aw_ireturn k193_79 hR_M_scaleFor ?_ ?_
      · first
          | (have g := Int32.not_le.mp c_58
             rw [if_pos g])
          | (have g := Int32.not_lt.mpr c_58
             have g2 := Int32.not_le.mp c_69
             rw [if_neg g, if_pos g2])
          | (have g := Int32.not_lt.mpr c_58
             have g2 := Int32.not_lt.mpr c_69
             rw [if_neg g, if_neg g2])
      · rfl
  refine ct_go hL_M_scaleFor rfl ?_
  refine aw_aload_n k193_0 rfl ?_
  refine aw_aload_n k193_1 rfl ?_
  refine aw_iload_n k193_2 rfl ?_
  refine aw_callV1 k193_3 hC_M_scaleFor ok_M_isField sv_M_33 hH_M_isField ⟨rfl, rfl⟩ (by decide) hN_M_isField (by rw [hL_M_isField]; exact Nat.le_of_ble_eq_true rfl) (Nat.le_of_ble_eq_true rfl) hc ?_
  refine aw_if_eq 13 k193_6 (by decide) (fun c_6 => ?_) (fun c_6 => ?_)
  · exact absurd (show (1 : Int32) = 0 from c_6) (by decide)
  · refine aw_iconst (v := 0) k193_9 (by decide) ?_
    refine aw_goto (t := 14) k193_10 (by decide) ?_
    refine aw_callV1 k193_14 hC_M_scaleFor ok_M_holds sv_M_102 hH_M_holds ⟨rfl, rfl⟩ (by decide) hN_M_holds (by rw [hL_M_holds]; exact Nat.le_of_ble_eq_true rfl) (Nat.le_of_ble_eq_true rfl) holds_t ?_
    refine aw_if_ne 22 k193_17 (by decide) (fun c_17 => ?_) (fun c_17 => ?_)
    · refine aw_aload_n k193_22 rfl ?_
      refine aw_iload_n k193_23 rfl ?_
      refine aw_iconst (v := 0) k193_24 (by decide) ?_
      refine aw_callV2 k193_25 hC_M_scaleFor ok_M_extent sv_M_194 hH_M_extent ⟨rfl, rfl⟩ (by decide) hN_M_extent (by rw [hL_M_extent]; exact Nat.le_of_ble_eq_true rfl) (Nat.le_of_ble_eq_true rfl) hX ?_
      refine aw_istore_n k193_28 (Nat.le_of_ble_eq_true rfl) rfl ?_
      refine aw_aload_n k193_29 rfl ?_
      refine aw_iload_n k193_30 rfl ?_
      refine aw_iconst (v := 1) k193_31 (by decide) ?_
      refine aw_callV2 k193_32 hC_M_scaleFor ok_M_extent sv_M_194 hH_M_extent ⟨rfl, rfl⟩ (by decide) hN_M_extent (by rw [hL_M_extent]; exact Nat.le_of_ble_eq_true rfl) (Nat.le_of_ble_eq_true rfl) hY ?_
      refine aw_istore_n k193_35 (Nat.le_of_ble_eq_true rfl) rfl ?_
      refine aw_iload_n k193_36 rfl ?_
      refine aw_iload_n k193_37 rfl ?_
      refine aw_icmp_le 45 k193_38 (by decide) (fun c_38 => ?_) (fun c_38 => ?_)
      · refine aw_iload_n k193_45 rfl ?_
        first
          | (have g := Int32.not_le.mp c_38
             rw [if_pos g] at a46
             exact a46)
          | (have g := Int32.not_lt.mpr c_38
             rw [if_neg g] at a46
             exact a46)
      · refine aw_iload_n k193_41 rfl ?_
        refine aw_goto (t := 46) k193_42 (by decide) ?_
        first
          | (have g := Int32.not_le.mp c_38
             rw [if_pos g] at a46
             exact a46)
          | (have g := Int32.not_lt.mpr c_38
             rw [if_neg g] at a46
             exact a46)
    · exact absurd (show (1 : Int32) = 0 from c_17) (by decide)
theorem mx_scaleFor {d L : Nat} {M : mM} {f t : Nat → Int32} {hs : List (Nat → Int32)} {sn : Option (Nat → Int32)} (h : MR M f hs sn t L) (hS : ShF f) (hB : BdF f) {x : Int32} (hx : hasF f x = false) : CT iM_scaleFor (d + 8) [vR 6 0 0, vI x] M (.inl (some (vI 0))) (mUp M (6, 0, 0) 0 1) 0 := by
  have hc := m_isF (d := d + 6) (x := x) h hS
  rw [hx] at hc
  refine ct_go hL_M_scaleFor rfl ?_
  refine aw_aload_n k193_0 rfl ?_
  refine aw_aload_n k193_1 rfl ?_
  refine aw_iload_n k193_2 rfl ?_
  refine aw_callV1 k193_3 hC_M_scaleFor ok_M_isField sv_M_33 hH_M_isField ⟨rfl, rfl⟩ (by decide) hN_M_isField (by rw [hL_M_isField]; exact Nat.le_of_ble_eq_true rfl) (Nat.le_of_ble_eq_true rfl) hc ?_
  refine aw_if_eq 13 k193_6 (by decide) (fun c_6 => ?_) (fun c_6 => ?_)
  · refine aw_iconst (v := 1) k193_13 (by decide) ?_
    refine aw_callV1 k193_14 hC_M_scaleFor ok_M_holds sv_M_102 hH_M_holds ⟨rfl, rfl⟩ (by decide) hN_M_holds (by rw [hL_M_holds]; exact Nat.le_of_ble_eq_true rfl) (Nat.le_of_ble_eq_true rfl) (holds_f (by decide)) ?_
    refine aw_if_ne 22 k193_17 (by decide) (fun c_17 => ?_) (fun c_17 => ?_)
    · exact absurd rfl c_17
    · refine aw_iconst (v := 0) k193_20 (by decide) ?_
      refine aw_ireturn k193_21 hR_M_scaleFor ?_ ?_
      all_goals first | rfl | exact Or.inl rfl | exact Or.inr rfl | assumption | (simp_all; done) | ((repeat' split) <;> first | rfl | (simp only [Int32.lt_iff_toInt_lt, Int32.le_iff_toInt_le, Int64.lt_iff_toInt_lt, Int64.le_iff_toInt_le] at *; omega) | (simp_all; done))
  · exact absurd rfl c_6
