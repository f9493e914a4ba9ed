/-! THE MODEL'S TELLINGS, further -/
theorem m_turnsOneWay {d L : Nat} {M : mM} {f t : Nat → Int32} {hs : List (Nat → Int32)} {sn : Option (Nat → Int32)} (h : MR M f hs sn t L) (hS : ShF f) (hB : BdF f) {x : Int32} (hx : hasF f x = true) : CT iM_turnsOneWay (d + 8) [vR 6 0 0, vI x] M (.inl (some (vI (bI (decide (nI (leF f x.toNatClampNeg) = 0) || decide (nI (riF f x.toNatClampNeg) = 0)))))) (mUp M (6, 0, 0) 0 0) 0 := by
  have e : mUp M (6, 0, 0) 0 0 (13, 0, 0) = f := by rw [mUp_ne (by simp)]; exact h.1
  have hc := m_isF (d := d + 6) (x := x) h hS
  rw [hx] at hc
  obtain ⟨ex, hlt⟩ := hasF_at hx hS.2.2.1 hS.2.2.2.1
  have hfm : FM (mUp M (6, 0, 0) 0 0 (13, 0, 0)) x.toNatClampNeg (bN f x.toNatClampNeg) := by rw [e]; exact hS.fm hlt
  have hb9 : ∀ k, k < bN f x.toNatClampNeg → bi (fX f x.toNatClampNeg k) 400000 ∧ bi (fY f x.toNatClampNeg k) 400000 := hB.2.2.2.1 _ hlt
  have h12 : bN f x.toNatClampNeg ≤ 12 := hfm.2.2.2
  have h03 : 0 < bN f x.toNatClampNeg := hfm.2.2.1
  have hk := m_left (d := d + 3) hfm (by rw [e])
  have hk2 := m_right (d := d + 3) hfm (by rw [e])
  rw [e, ← ex] at hk hk2
  refine ct_go hL_M_turnsOneWay rfl ?_
  refine aw_aload_n k180_0 rfl ?_
  refine aw_aload_n k180_1 rfl ?_
  refine aw_iload_n k180_2 rfl ?_
  refine aw_callV1 k180_3 hC_M_turnsOneWay ok_M_isField sv_M_33 hH_M_isField ⟨rfl, rfl⟩ (by decide) hN_M_isField (by rw [hL_M_isField]; exact Nat.le_of_ble_eq_true rfl) (Nat.le_of_ble_eq_true rfl) hc ?_
  refine aw_if_eq 13 k180_6 (by decide) (fun c_6 => ?_) (fun c_6 => ?_)
  · exact absurd (show (1 : Int32) = 0 from c_6) (by decide)
  · refine aw_iconst (v := 0) k180_9 (by decide) ?_
    refine aw_goto (t := 14) k180_10 (by decide) ?_
    refine aw_callV1 k180_14 hC_M_turnsOneWay ok_M_holds sv_M_102 hH_M_holds ⟨rfl, rfl⟩ (by decide) hN_M_holds (by rw [hL_M_holds]; exact Nat.le_of_ble_eq_true rfl) (Nat.le_of_ble_eq_true rfl) holds_t ?_
    refine aw_if_eq 42 k180_17 (by decide) (fun c_17 => ?_) (fun c_17 => ?_)
    · exact absurd (show (1 : Int32) = 0 from c_17) (by decide)
    · refine aw_aload_n k180_20 rfl ?_
      refine aw_iload_n k180_21 rfl ?_
      refine aw_iconst (v := 1) k180_22 (by decide) ?_
      refine aw_callV2 k180_23 hC_M_turnsOneWay ok_M_turns sv_M_169 hH_M_turns ⟨rfl, rfl⟩ (by decide) hN_M_turns (by rw [hL_M_turns]; exact Nat.le_of_ble_eq_true rfl) (Nat.le_of_ble_eq_true rfl) hk ?_
      refine aw_if_eq 38 k180_26 (by decide) (fun c_26 => ?_) (fun c_26 => ?_)
      · refine aw_iconst (v := 1) k180_38 (by decide) ?_
        refine aw_goto (t := 43) k180_39 (by decide) ?_
        refine aw_zreturn k180_43 hR_M_turnsOneWay ?_ ?_ ?_
        · first | exact Or.inl rfl | exact Or.inr rfl
        · first | exact bI_t (or_t1 (decide_eq_true c_26)) | exact bI_t (or_t2 (decide_eq_true c_35)) | exact bI_f (or_f (decide_eq_false c_26) (decide_eq_false c_35))
        · rfl
      · refine aw_aload_n k180_29 rfl ?_
        refine aw_iload_n k180_30 rfl ?_
        refine aw_iconst (v := 0) k180_31 (by decide) ?_
        refine aw_callV2 k180_32 hC_M_turnsOneWay ok_M_turns sv_M_169 hH_M_turns ⟨rfl, rfl⟩ (by decide) hN_M_turns (by rw [hL_M_turns]; exact Nat.le_of_ble_eq_true rfl) (Nat.le_of_ble_eq_true rfl) hk2 ?_
        refine aw_if_ne 42 k180_35 (by decide) (fun c_35 => ?_) (fun c_35 => ?_)
        · refine aw_iconst (v := 0) k180_42 (by decide) ?_
          refine aw_zreturn k180_43 hR_M_turnsOneWay ?_ ?_ ?_
          · first | exact Or.inl rfl | exact Or.inr rfl
          · first | exact bI_t (or_t1 (decide_eq_true c_26)) | exact bI_t (or_t2 (decide_eq_true c_35)) | exact bI_f (or_f (decide_eq_false c_26) (decide_eq_false c_35))
          · rfl
        · refine aw_iconst (v := 1) k180_38 (by decide) ?_
          refine aw_goto (t := 43) k180_39 (by decide) ?_
          refine aw_zreturn k180_43 hR_M_turnsOneWay ?_ ?_ ?_
          · first | exact Or.inl rfl | exact Or.inr rfl
          · first | exact bI_t (or_t1 (decide_eq_true c_26)) | exact bI_t (or_t2 (decide_eq_true c_35)) | exact bI_f (or_f (decide_eq_false c_26) (decide_eq_false c_35))
          · rfl
theorem mx_turnsOneWay {d L : Nat} {M : mM} {f t : Nat → Int32} {hs : List (Nat → Int32)} {sn : Option (Nat → Int32)} (h : MR M f hs sn t L) (hS : ShF f) (hB : BdF f) {x : Int32} (hx : hasF f x = false) : CT iM_turnsOneWay (d + 8) [vR 6 0 0, vI x] M (.inl (some (vI 0))) (mUp M (6, 0, 0) 0 1) 0 := by
  have hc := m_isF (d := d + 6) (x := x) h hS
  rw [hx] at hc
  refine ct_go hL_M_turnsOneWay rfl ?_
  refine aw_aload_n k180_0 rfl ?_
  refine aw_aload_n k180_1 rfl ?_
  refine aw_iload_n k180_2 rfl ?_
  refine aw_callV1 k180_3 hC_M_turnsOneWay ok_M_isField sv_M_33 hH_M_isField ⟨rfl, rfl⟩ (by decide) hN_M_isField (by rw [hL_M_isField]; exact Nat.le_of_ble_eq_true rfl) (Nat.le_of_ble_eq_true rfl) hc ?_
  refine aw_if_eq 13 k180_6 (by decide) (fun c_6 => ?_) (fun c_6 => ?_)
  · refine aw_iconst (v := 1) k180_13 (by decide) ?_
    refine aw_callV1 k180_14 hC_M_turnsOneWay ok_M_holds sv_M_102 hH_M_holds ⟨rfl, rfl⟩ (by decide) hN_M_holds (by rw [hL_M_holds]; exact Nat.le_of_ble_eq_true rfl) (Nat.le_of_ble_eq_true rfl) (holds_f (by decide)) ?_
    refine aw_if_eq 42 k180_17 (by decide) (fun c_17 => ?_) (fun c_17 => ?_)
    · refine aw_iconst (v := 0) k180_42 (by decide) ?_
      refine aw_zreturn k180_43 hR_M_turnsOneWay ?_ ?_ ?_
      all_goals first | rfl | exact Or.inl rfl | exact Or.inr rfl | assumption | (simp_all; done) | ((repeat' split) <;> first | rfl | (simp only [Int32.lt_iff_toInt_lt, Int32.le_iff_toInt_le, Int64.lt_iff_toInt_lt, Int64.le_iff_toInt_le] at *; omega) | (simp_all; done))
    · exact absurd rfl c_17
  · exact absurd rfl c_6
theorem m_sidesEastOf {d L : Nat} {M : mM} {f t : Nat → Int32} {hs : List (Nat → Int32)} {sn : Option (Nat → Int32)} (h : MR M f hs sn t L) (hS : ShF f) (hB : BdF f) {x : Int32} (hx : hasF f x = true) {y z : Int32} (hy : inR y 200000) (hz : inR z 200000) : CT iM_sidesEastOf (d + 8) [vR 6 0 0, vI x, vI y, vI z] M (.inl (some (vI (nI (meF f x.toNatClampNeg y z))))) (mUp M (6, 0, 0) 0 0) 0 := by
  have e : mUp M (6, 0, 0) 0 0 (13, 0, 0) = f := by rw [mUp_ne (by simp)]; exact h.1
  have hc := m_isF (d := d + 6) (x := x) h hS
  rw [hx] at hc
  obtain ⟨ex, hlt⟩ := hasF_at hx hS.2.2.1 hS.2.2.2.1
  have hfm : FM (mUp M (6, 0, 0) 0 0 (13, 0, 0)) x.toNatClampNeg (bN f x.toNatClampNeg) := by rw [e]; exact hS.fm hlt
  have hb9 : ∀ k, k < bN f x.toNatClampNeg → bi (fX f x.toNatClampNeg k) 400000 ∧ bi (fY f x.toNatClampNeg k) 400000 := hB.2.2.2.1 _ hlt
  have h12 : bN f x.toNatClampNeg ≤ 12 := hfm.2.2.2
  have h03 : 0 < bN f x.toNatClampNeg := hfm.2.2.1
  have byy : bi y 200000 := ⟨by have := hy.1; rw [Int32.le_iff_toInt_le] at this; exact this, by have := hy.2; rw [Int32.le_iff_toInt_le] at this; exact this⟩
  have bz : bi z 200000 := ⟨by have := hz.1; rw [Int32.le_iff_toInt_le] at this; exact this, by have := hz.2; rw [Int32.le_iff_toInt_le] at this; exact this⟩
  obtain ⟨p, hp⟩ : ∃ p : Nat → Bool, p = fun i => metV (fX f x.toNatClampNeg) (fY f x.toNatClampNeg) y z i (nx (bN f x.toNatClampNeg) i) := ⟨_, rfl⟩
  have hev : meF f x.toNatClampNeg y z = cntB p (bN f x.toNatClampNeg) := by rw [hp]; rfl
  rw [hev]
  have hE : ∀ j, j < bN f x.toNatClampNeg → CT iM_isEast (d + 7) [vR 6 0 0, vI x, vI (nI j), vI y, vI z] (mUp M (6, 0, 0) 0 0) (.inl (some (vI (bI (p j))))) (mUp M (6, 0, 0) 0 0) 0 := fun j hj => by
    have := s_M_isEast (d := d + 4) (x := y) (y := z) hfm hj
    rw [e, cW0, cW1, met_eq ⟨(hb9 j hj).1, (hb9 _ (nx_in hj)).1⟩ ⟨(hb9 j hj).2, (hb9 _ (nx_in hj)).2⟩ byy bz, ← ex] at this
    rw [hp]
    exact this
  have hco := s_M_corners (d := d + 7) (M := mUp M (6, 0, 0) 0 0) hfm.1
  rw [e, (hS.2.2.2.2 _ hlt).1, ← ex] at hco
  clear hev hp hfm
  generalize bN f x.toNatClampNeg = m at hE hco h12 h03 ⊢
  have loop : ∀ (k j : Nat) (b : Int32), j + k = m → b = nI (cntB p j) → AW iM_sidesEastOf (d + 8) 54 [some (vR 6 0 0), some (vI x), some (vI y), some (vI z), some (vI b), some (vI (nI j))] [] (mUp M (6, 0, 0) 0 0) (.inl (some (vI (nI (cntB p m))))) (mUp M (6, 0, 0) 0 0) 0 := by
    intro k
    induction k with
    | zero =>
      intro j b hj hb
      obtain rfl : j = m := by omega
      subst hb
      refine aw_iload k181_54 rfl ?_
      refine aw_aload_n k181_56 rfl ?_
      refine aw_iload_n k181_57 rfl ?_
      refine aw_callV1 k181_58 hC_M_sidesEastOf ok_M_corners sv_M_37 hH_M_corners ⟨rfl, rfl⟩ (by decide) hN_M_corners (by rw [hL_M_corners]; exact Nat.le_of_ble_eq_true rfl) (Nat.le_of_ble_eq_true rfl) hco ?_
      refine aw_icmp_ge 92 k181_61 (by decide) (fun c_61 => ?_) (fun c_61 => ?_)
      · refine aw_iload k181_92 rfl ?_
        refine aw_ireturn k181_94 hR_M_sidesEastOf ?_ ?_
        all_goals first | rfl | exact Or.inl rfl | exact Or.inr rfl | assumption | (simp_all; done) | ((repeat' split) <;> first | rfl | (simp only [Int32.lt_iff_toInt_lt, Int32.le_iff_toInt_le, Int64.lt_iff_toInt_lt, Int64.le_iff_toInt_le] at *; omega) | (simp_all; done))
      · exact absurd (Int32.le_refl _) c_61
    | succ k ih =>
      intro j b hj hb
      subst hb
      have hjm : j < m := by omega
      have hEj := hE j hjm
      refine aw_iload k181_54 rfl ?_
      refine aw_aload_n k181_56 rfl ?_
      refine aw_iload_n k181_57 rfl ?_
      refine aw_callV1 k181_58 hC_M_sidesEastOf ok_M_corners sv_M_37 hH_M_corners ⟨rfl, rfl⟩ (by decide) hN_M_corners (by rw [hL_M_corners]; exact Nat.le_of_ble_eq_true rfl) (Nat.le_of_ble_eq_true rfl) hco ?_
      refine aw_icmp_ge 92 k181_61 (by decide) (fun c_61 => ?_) (fun c_61 => ?_)
      · exact absurd (nI_le_of c_61) (by omega)
      · refine aw_iload k181_64 rfl ?_
        refine aw_aload_n k181_66 rfl ?_
        refine aw_iload_n k181_67 rfl ?_
        refine aw_iload k181_68 rfl ?_
        refine aw_iload_n k181_70 rfl ?_
        refine aw_iload_n k181_71 rfl ?_
        refine aw_callV4 k181_72 hC_M_sidesEastOf ok_M_isEast sv_M_175 hH_M_isEast ⟨rfl, rfl⟩ (by decide) hN_M_isEast (by rw [hL_M_isEast]; exact Nat.le_of_ble_eq_true rfl) (Nat.le_of_ble_eq_true rfl) hEj ?_
        refine aw_if_eq 82 k181_75 (by decide) (fun c_75 => ?_) (fun c_75 => ?_)
        · refine aw_iconst (v := 0) k181_82 (by decide) ?_
          refine aw_iadd k181_83 ?_
          refine aw_istore k181_84 (Nat.le_of_ble_eq_true rfl) rfl ?_
          refine aw_iinc (y := 1) k181_86 rfl (by decide) rfl ?_
          rw [nI_1 j]
          refine aw_goto (t := 54) k181_89 (by decide) ?_
          first
            | (have g := bI_1 c_75
               exact ih (j + 1) _ (by omega) (cntB_t g))
            | (have g := bI_0 c_75
               exact ih (j + 1) _ (by omega) (add0 (cntB_f g)))
        · refine aw_iconst (v := 1) k181_78 (by decide) ?_
          refine aw_goto (t := 83) k181_79 (by decide) ?_
          refine aw_iadd k181_83 ?_
          refine aw_istore k181_84 (Nat.le_of_ble_eq_true rfl) rfl ?_
          refine aw_iinc (y := 1) k181_86 rfl (by decide) rfl ?_
          rw [nI_1 j]
          refine aw_goto (t := 54) k181_89 (by decide) ?_
          first
            | (have g := bI_1 c_75
               exact ih (j + 1) _ (by omega) (cntB_t g))
            | (have g := bI_0 c_75
               exact ih (j + 1) _ (by omega) (add0 (cntB_f g)))
  refine ct_go hL_M_sidesEastOf rfl ?_
  refine aw_aload_n k181_0 rfl ?_
  refine aw_aload_n k181_1 rfl ?_
  refine aw_iload_n k181_2 rfl ?_
  refine aw_callV1 k181_3 hC_M_sidesEastOf ok_M_isField sv_M_33 hH_M_isField ⟨rfl, rfl⟩ (by decide) hN_M_isField (by rw [hL_M_isField]; exact Nat.le_of_ble_eq_true rfl) (Nat.le_of_ble_eq_true rfl) hc ?_
  refine aw_if_ne 13 k181_6 (by decide) (fun c_6 => ?_) (fun c_6 => ?_)
  · refine aw_iload_n k181_13 rfl ?_
    refine aw_ldc k181_14 hC_M_sidesEastOf ci_M_173 ?_
    refine aw_ldc k181_16 hC_M_sidesEastOf ci_M_174 ?_
    refine aw_callS3 k181_18 hC_M_sidesEastOf ok_M_in ss_M_29 hH_M_in (by rw [hL_M_in]; exact Nat.le_of_ble_eq_true rfl) (Nat.le_of_ble_eq_true rfl) (in_t hy) ?_
    refine aw_if_eq 39 k181_21 (by decide) (fun c_21 => ?_) (fun c_21 => ?_)
    · exact absurd (show (1 : Int32) = 0 from c_21) (by decide)
    · refine aw_iload_n k181_24 rfl ?_
      refine aw_ldc k181_25 hC_M_sidesEastOf ci_M_173 ?_
      refine aw_ldc k181_27 hC_M_sidesEastOf ci_M_174 ?_
      refine aw_callS3 k181_29 hC_M_sidesEastOf ok_M_in ss_M_29 hH_M_in (by rw [hL_M_in]; exact Nat.le_of_ble_eq_true rfl) (Nat.le_of_ble_eq_true rfl) (in_t hz) ?_
      refine aw_if_eq 39 k181_32 (by decide) (fun c_32 => ?_) (fun c_32 => ?_)
      · exact absurd (show (1 : Int32) = 0 from c_32) (by decide)
      · refine aw_iconst (v := 0) k181_35 (by decide) ?_
        refine aw_goto (t := 40) k181_36 (by decide) ?_
        refine aw_callV1 k181_40 hC_M_sidesEastOf ok_M_holds sv_M_102 hH_M_holds ⟨rfl, rfl⟩ (by decide) hN_M_holds (by rw [hL_M_holds]; exact Nat.le_of_ble_eq_true rfl) (Nat.le_of_ble_eq_true rfl) holds_t ?_
        refine aw_if_ne 48 k181_43 (by decide) (fun c_43 => ?_) (fun c_43 => ?_)
        · refine aw_iconst (v := 0) k181_48 (by decide) ?_
          refine aw_istore k181_49 (Nat.le_of_ble_eq_true rfl) rfl ?_
          refine aw_iconst (v := 0) k181_51 (by decide) ?_
          refine aw_istore k181_52 (Nat.le_of_ble_eq_true rfl) rfl ?_
          exact loop m 0 _ (by omega) rfl
        · exact absurd (show (1 : Int32) = 0 from c_43) (by decide)
  · exact absurd (show (1 : Int32) = 0 from c_6) (by decide)
theorem mx_sidesEastOf {d L : Nat} {M : mM} {f t : Nat → Int32} {hs : List (Nat → Int32)} {sn : Option (Nat → Int32)} (h : MR M f hs sn t L) (hS : ShF f) (hB : BdF f) {x : Int32} (hx : hasF f x = false) {y z : Int32} : CT iM_sidesEastOf (d + 8) [vR 6 0 0, vI x, vI y, vI z] M (.inl (some (vI 0))) (mUp M (6, 0, 0) 0 1) 0 := by
  have hc := m_isF (d := d + 6) (x := x) h hS
  rw [hx] at hc
  refine ct_go hL_M_sidesEastOf rfl ?_
  refine aw_aload_n k181_0 rfl ?_
  refine aw_aload_n k181_1 rfl ?_
  refine aw_iload_n k181_2 rfl ?_
  refine aw_callV1 k181_3 hC_M_sidesEastOf ok_M_isField sv_M_33 hH_M_isField ⟨rfl, rfl⟩ (by decide) hN_M_isField (by rw [hL_M_isField]; exact Nat.le_of_ble_eq_true rfl) (Nat.le_of_ble_eq_true rfl) hc ?_
  refine aw_if_ne 13 k181_6 (by decide) (fun c_6 => ?_) (fun c_6 => ?_)
  · exact absurd rfl c_6
  · refine aw_iconst (v := 1) k181_9 (by decide) ?_
    refine aw_goto (t := 40) k181_10 (by decide) ?_
    refine aw_callV1 k181_40 hC_M_sidesEastOf ok_M_holds sv_M_102 hH_M_holds ⟨rfl, rfl⟩ (by decide) hN_M_holds (by rw [hL_M_holds]; exact Nat.le_of_ble_eq_true rfl) (Nat.le_of_ble_eq_true rfl) (holds_f (by decide)) ?_
    refine aw_if_ne 48 k181_43 (by decide) (fun c_43 => ?_) (fun c_43 => ?_)
    · exact absurd rfl c_43
    · refine aw_iconst (v := 0) k181_46 (by decide) ?_
      refine aw_ireturn k181_47 hR_M_sidesEastOf ?_ ?_
      all_goals first | rfl | exact Or.inl rfl | exact Or.inr rfl | assumption | (simp_all; done) | ((repeat' split) <;> first | rfl | (simp only [Int32.lt_iff_toInt_lt, Int32.le_iff_toInt_le, Int64.lt_iff_toInt_lt, Int64.le_iff_toInt_le] at *; omega) | (simp_all; done))
theorem my_sidesEastOf {d L : Nat} {M : mM} {f t : Nat → Int32} {hs : List (Nat → Int32)} {sn : Option (Nat → Int32)} (h : MR M f hs sn t L) (hS : ShF f) (hB : BdF f) {x : Int32} (hx : hasF f x = true) {y z : Int32} (hz : ¬ (inR y 200000 ∧ inR z 200000)) : CT iM_sidesEastOf (d + 8) [vR 6 0 0, vI x, vI y, vI z] M (.inl (some (vI 0))) (mUp M (6, 0, 0) 0 2) 0 := by
  have hc := m_isF (d := d + 6) (x := x) h hS
  rw [hx] at hc
  refine ct_go hL_M_sidesEastOf rfl ?_
  by_cases hy : inR y 200000
  · have hz2 : ¬ inR z 200000 := fun q => hz ⟨hy, q⟩
    refine aw_aload_n k181_0 rfl ?_
    refine aw_aload_n k181_1 rfl ?_
    refine aw_iload_n k181_2 rfl ?_
    refine aw_callV1 k181_3 hC_M_sidesEastOf ok_M_isField sv_M_33 hH_M_isField ⟨rfl, rfl⟩ (by decide) hN_M_isField (by rw [hL_M_isField]; exact Nat.le_of_ble_eq_true rfl) (Nat.le_of_ble_eq_true rfl) hc ?_
    refine aw_if_ne 13 k181_6 (by decide) (fun c_6 => ?_) (fun c_6 => ?_)
    · refine aw_iload_n k181_13 rfl ?_
      refine aw_ldc k181_14 hC_M_sidesEastOf ci_M_173 ?_
      refine aw_ldc k181_16 hC_M_sidesEastOf ci_M_174 ?_
      refine aw_callS3 k181_18 hC_M_sidesEastOf ok_M_in ss_M_29 hH_M_in (by rw [hL_M_in]; exact Nat.le_of_ble_eq_true rfl) (Nat.le_of_ble_eq_true rfl) (in_t hy) ?_
      refine aw_if_eq 39 k181_21 (by decide) (fun c_21 => ?_) (fun c_21 => ?_)
      · exact absurd (show (1 : Int32) = 0 from c_21) (by decide)
      · refine aw_iload_n k181_24 rfl ?_
        refine aw_ldc k181_25 hC_M_sidesEastOf ci_M_173 ?_
        refine aw_ldc k181_27 hC_M_sidesEastOf ci_M_174 ?_
        refine aw_callS3 k181_29 hC_M_sidesEastOf ok_M_in ss_M_29 hH_M_in (by rw [hL_M_in]; exact Nat.le_of_ble_eq_true rfl) (Nat.le_of_ble_eq_true rfl) (in_f hz2) ?_
        refine aw_if_eq 39 k181_32 (by decide) (fun c_32 => ?_) (fun c_32 => ?_)
        · refine aw_iconst (v := 2) k181_39 (by decide) ?_
          refine aw_callV1 k181_40 hC_M_sidesEastOf ok_M_holds sv_M_102 hH_M_holds ⟨rfl, rfl⟩ (by decide) hN_M_holds (by rw [hL_M_holds]; exact Nat.le_of_ble_eq_true rfl) (Nat.le_of_ble_eq_true rfl) (holds_f (by decide)) ?_
          refine aw_if_ne 48 k181_43 (by decide) (fun c_43 => ?_) (fun c_43 => ?_)
          · exact absurd rfl c_43
          · refine aw_iconst (v := 0) k181_46 (by decide) ?_
            refine aw_ireturn k181_47 hR_M_sidesEastOf ?_ ?_
            all_goals first | rfl | exact Or.inl rfl | exact Or.inr rfl | assumption | (simp_all; done) | ((repeat' split) <;> first | rfl | (simp only [Int32.lt_iff_toInt_lt, Int32.le_iff_toInt_le, Int64.lt_iff_toInt_lt, Int64.le_iff_toInt_le] at *; omega) | (simp_all; done))
        · exact absurd rfl c_32
    · exact absurd (show (1 : Int32) = 0 from c_6) (by decide)
  · refine aw_aload_n k181_0 rfl ?_
    refine aw_aload_n k181_1 rfl ?_
    refine aw_iload_n k181_2 rfl ?_
    refine aw_callV1 k181_3 hC_M_sidesEastOf ok_M_isField sv_M_33 hH_M_isField ⟨rfl, rfl⟩ (by decide) hN_M_isField (by rw [hL_M_isField]; exact Nat.le_of_ble_eq_true rfl) (Nat.le_of_ble_eq_true rfl) hc ?_
    refine aw_if_ne 13 k181_6 (by decide) (fun c_6 => ?_) (fun c_6 => ?_)
    · refine aw_iload_n k181_13 rfl ?_
      refine aw_ldc k181_14 hC_M_sidesEastOf ci_M_173 ?_
      refine aw_ldc k181_16 hC_M_sidesEastOf ci_M_174 ?_
      refine aw_callS3 k181_18 hC_M_sidesEastOf ok_M_in ss_M_29 hH_M_in (by rw [hL_M_in]; exact Nat.le_of_ble_eq_true rfl) (Nat.le_of_ble_eq_true rfl) (in_f hy) ?_
      refine aw_if_eq 39 k181_21 (by decide) (fun c_21 => ?_) (fun c_21 => ?_)
      · refine aw_iconst (v := 2) k181_39 (by decide) ?_
        refine aw_callV1 k181_40 hC_M_sidesEastOf ok_M_holds sv_M_102 hH_M_holds ⟨rfl, rfl⟩ (by decide) hN_M_holds (by rw [hL_M_holds]; exact Nat.le_of_ble_eq_true rfl) (Nat.le_of_ble_eq_true rfl) (holds_f (by decide)) ?_
        refine aw_if_ne 48 k181_43 (by decide) (fun c_43 => ?_) (fun c_43 => ?_)
        · exact absurd rfl c_43
        · refine aw_iconst (v := 0) k181_46 (by decide) ?_
          refine aw_ireturn k181_47 hR_M_sidesEastOf ?_ ?_
          all_goals first | rfl | exact Or.inl rfl | exact Or.inr rfl | assumption | (simp_all; done) | ((repeat' split) <;> first | rfl | (simp only [Int32.lt_iff_toInt_lt, Int32.le_iff_toInt_le, Int64.lt_iff_toInt_lt, Int64.le_iff_toInt_le] at *; omega) | (simp_all; done))
      · exact absurd rfl c_21
    · exact absurd (show (1 : Int32) = 0 from c_6) (by decide)
