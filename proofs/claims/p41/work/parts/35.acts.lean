theorem s_A_addLeg {d L : Nat} {M : mM} {f t : Nat → Int32} {hs : List (Nat → Int32)} {sn : Option (Nat → Int32)} (h : CR M f hs sn t L) {x y l : Int32} (hx : inR x 9999 ∧ inR y 9999 ∧ 1 ≤ l ∧ l ≤ 20000) (hn : fN f < 12) : ∃ M', CT iA_addLeg (d + 8) [vR 5 0 0, vI x, vI y, vI l] M (.inl (some (vI (fAdd f x y l 0)))) M' 0 ∧ CR M' (fAdd f x y l) ((f :: hs).take 4) sn t L ∧ CFr M M' := by
  obtain ⟨M1, hA, hC, hR1, hF⟩ := s_A_beginTrial (d := d + 4) h
  have h5 := hR1.n.2.2.1
  have hrel := tApp_rel (e := x) (o := y) (l := l) hR1 hn
  obtain ⟨M2, hA2, hC2, hF2⟩ := s_A_settleTrial (d := d + 3) (hC.trial hrel.2) hrel.1
  have h5' := hC2.1.n.2.2.1.trans hC2.1.n.1.symm
  refine ⟨M2, ct_go hL_A_addLeg rfl ?_, hC2, hF.tr (hrel.2.c.tr hF2)⟩
  refine aw_iload_n k51_0 rfl ?_
  refine aw_sipush (v := 9999) k51_1 (by decide) ?_
  refine aw_callS2 k51_4 hC_A_addLeg ok_A_isWithin ss_A_40 hH_A_isWithin (by rw [hL_A_isWithin]; exact Nat.le_of_ble_eq_true rfl) (Nat.le_of_ble_eq_true rfl) (iw_t hx.1) ?_
  refine aw_if_eq 20 k51_7 (by decide) (fun c_7 => ?_) (fun c_7 => ?_)
  · exact absurd (show (1 : Int32) = 0 from c_7) (by decide)
  · refine aw_iload_n k51_10 rfl ?_
    refine aw_sipush (v := 9999) k51_11 (by decide) ?_
    refine aw_callS2 k51_14 hC_A_addLeg ok_A_isWithin ss_A_40 hH_A_isWithin (by rw [hL_A_isWithin]; exact Nat.le_of_ble_eq_true rfl) (Nat.le_of_ble_eq_true rfl) (iw_t hx.2.1) ?_
    refine aw_if_ne 30 k51_17 (by decide) (fun c_17 => ?_) (fun c_17 => ?_)
    · refine aw_iload_n k51_30 rfl ?_
      refine aw_iconst (v := 1) k51_31 (by decide) ?_
      refine aw_icmp_lt 42 k51_32 (by decide) (fun c_32 => ?_) (fun c_32 => ?_)
      · exact absurd hx.2.2.1 (Int32.not_le.mpr c_32)
      · refine aw_iload_n k51_35 rfl ?_
        refine aw_sipush (v := 20000) k51_36 (by decide) ?_
        refine aw_icmp_le 52 k51_39 (by decide) (fun c_39 => ?_) (fun c_39 => ?_)
        · refine aw_aload_n k51_52 rfl ?_
          refine aw_callV0v k51_53 hC_A_addLeg ok_A_beginTrial sv_A_53 hH_A_beginTrial ⟨rfl, rfl⟩ (by decide) hN_A_beginTrial (by rw [hL_A_beginTrial]; exact Nat.le_of_ble_eq_true rfl) (Nat.le_of_ble_eq_true rfl) hA ?_
          refine aw_aload_n k51_56 rfl ?_
          refine aw_getR k51_57 hC_A_addLeg fs_A_16 (by decide) ⟨rfl, rfl⟩ rfl ?_
          refine aw_getR k51_60 hC_A_addLeg fs_A_56 (by decide) ⟨(by first | assumption | decide), rfl⟩ rfl ?_
          refine aw_iload_n k51_63 rfl ?_
          refine aw_iload_n k51_64 rfl ?_
          refine aw_iload_n k51_65 rfl ?_
          refine aw_callV3 k51_66 hC_A_addLeg ok_T_append sv_A_60 hH_T_append ⟨(by first | assumption | decide), rfl⟩ (by decide) hN_T_append (by rw [hL_T_append]; exact Nat.le_of_ble_eq_true rfl) (Nat.le_of_ble_eq_true rfl) (s_T_append (by decide) hn h5) ?_
          refine aw_if_ne 82 k51_69 (by decide) (fun c_69 => ?_) (fun c_69 => ?_)
          · refine aw_aload_n k51_82 rfl ?_
            refine aw_callV0v k51_83 hC_A_addLeg ok_A_settleTrial sv_A_71 hH_A_settleTrial ⟨rfl, rfl⟩ (by decide) hN_A_settleTrial (by rw [hL_A_settleTrial]; exact Nat.le_of_ble_eq_true rfl) (Nat.le_of_ble_eq_true rfl) hA2 ?_
            refine aw_aload_n k51_86 rfl ?_
            refine aw_getR k51_87 hC_A_addLeg fs_A_10 (by decide) ⟨rfl, rfl⟩ rfl ?_
            refine aw_getR k51_90 hC_A_addLeg fs_A_56 (by decide) ⟨(by first | assumption | decide), rfl⟩ rfl ?_
            refine aw_getI k51_93 hC_A_addLeg fs_A_74 (by decide) ⟨(by first | assumption | decide), rfl⟩ rfl ?_
            refine aw_ireturn k51_96 hR_A_addLeg ?_ ?_
            exact h5'; rfl
          · exact absurd (show (1 : Int32) = 0 from c_69) (by decide)
        · exact absurd hx.2.2.2 c_39
    · exact absurd (show (1 : Int32) = 0 from c_17) (by decide)
theorem s_A_takeBack {d L : Nat} {M : mM} {f t : Nat → Int32} {hs : List (Nat → Int32)} {sn : Option (Nat → Int32)} (h : CR M f hs sn t L) (hn : 0 < fN f) : ∃ M', CT iA_takeBack (d + 8) [vR 5 0 0] M (.inl (some (vI (fTake f 0)))) M' 0 ∧ CR M' (fTake f) ((f :: hs).take 4) sn t L ∧ CFr M M' := by
  obtain ⟨M1, hA, hC, hR1, hF⟩ := s_A_beginTrial (d := d + 4) h
  have hT := hR1.n
  have h5 : M1 (4, 1, 0) 5 = nI (fN f - 1 + 1) := by rw [hT.2.2.1]; exact congrArg nI (by omega)
  have hn2 : fN f - 1 < 12 := by have := hT.2.1; omega
  have hrel := tDrop_rel hR1 hn
  obtain ⟨M2, hA2, hC2, hF2⟩ := s_A_settleTrial (d := d + 3) (hC.trial hrel.2) hrel.1
  have h5' := hC2.1.n.2.2.1.trans hC2.1.n.1.symm
  refine ⟨M2, ct_go hL_A_takeBack rfl ?_, hC2, hF.tr (hrel.2.c.tr hF2)⟩
  refine aw_aload_n k52_0 rfl ?_
  refine aw_callV0v k52_1 hC_A_takeBack ok_A_beginTrial sv_A_53 hH_A_beginTrial ⟨rfl, rfl⟩ (by decide) hN_A_beginTrial (by rw [hL_A_beginTrial]; exact Nat.le_of_ble_eq_true rfl) (Nat.le_of_ble_eq_true rfl) hA ?_
  refine aw_aload_n k52_4 rfl ?_
  refine aw_getR k52_5 hC_A_takeBack fs_A_16 (by decide) ⟨rfl, rfl⟩ rfl ?_
  refine aw_getR k52_8 hC_A_takeBack fs_A_56 (by decide) ⟨(by first | assumption | decide), rfl⟩ rfl ?_
  refine aw_callV0 k52_11 hC_A_takeBack ok_T_dropLast sv_A_78 hH_T_dropLast ⟨(by first | assumption | decide), rfl⟩ (by decide) hN_T_dropLast (by rw [hL_T_dropLast]; exact Nat.le_of_ble_eq_true rfl) (Nat.le_of_ble_eq_true rfl) (s_T_dropLast (by decide) hn2 h5) ?_
  refine aw_if_ne 27 k52_14 (by decide) (fun c_14 => ?_) (fun c_14 => ?_)
  · refine aw_aload_n k52_27 rfl ?_
    refine aw_callV0v k52_28 hC_A_takeBack ok_A_settleTrial sv_A_71 hH_A_settleTrial ⟨rfl, rfl⟩ (by decide) hN_A_settleTrial (by rw [hL_A_settleTrial]; exact Nat.le_of_ble_eq_true rfl) (Nat.le_of_ble_eq_true rfl) hA2 ?_
    refine aw_aload_n k52_31 rfl ?_
    refine aw_getR k52_32 hC_A_takeBack fs_A_10 (by decide) ⟨rfl, rfl⟩ rfl ?_
    refine aw_getR k52_35 hC_A_takeBack fs_A_56 (by decide) ⟨(by first | assumption | decide), rfl⟩ rfl ?_
    refine aw_getI k52_38 hC_A_takeBack fs_A_74 (by decide) ⟨(by first | assumption | decide), rfl⟩ rfl ?_
    refine aw_ireturn k52_41 hR_A_takeBack ?_ ?_
    exact h5'; rfl
  · exact absurd (show (1 : Int32) = 0 from c_14) (by decide)
theorem s_A_setOrigin {d L : Nat} {M : mM} {f t : Nat → Int32} {hs : List (Nat → Int32)} {sn : Option (Nat → Int32)} (h : CR M f hs sn t L) {x y : Int32} (hx : inR x 50000 ∧ inR y 50000) : ∃ M', CT iA_setOrigin (d + 8) [vR 5 0 0, vI x, vI y] M (.inl (some (vI (fOrg f x y 0)))) M' 0 ∧ CR M' (fOrg f x y) ((f :: hs).take 4) sn t L ∧ CFr M M' := by
  obtain ⟨M1, hA, hC, hR1, hF⟩ := s_A_beginTrial (d := d + 4) h
  have hrel := tOrg_rel (x := x) (y := y) hR1
  obtain ⟨M2, hA2, hC2, hF2⟩ := s_A_settleTrial (d := d + 3) (hC.trial hrel.2) hrel.1
  have h5' := hC2.1.n.2.2.1.trans hC2.1.n.1.symm
  refine ⟨M2, ct_go hL_A_setOrigin rfl ?_, hC2, hF.tr (hrel.2.c.tr hF2)⟩
  refine aw_iload_n k53_0 rfl ?_
  refine aw_ldc k53_1 hC_A_setOrigin ci_A_84 ?_
  refine aw_callS2 k53_3 hC_A_setOrigin ok_A_isWithin ss_A_40 hH_A_isWithin (by rw [hL_A_isWithin]; exact Nat.le_of_ble_eq_true rfl) (Nat.le_of_ble_eq_true rfl) (iw_t hx.1) ?_
  refine aw_if_eq 18 k53_6 (by decide) (fun c_6 => ?_) (fun c_6 => ?_)
  · exact absurd (show (1 : Int32) = 0 from c_6) (by decide)
  · refine aw_iload_n k53_9 rfl ?_
    refine aw_ldc k53_10 hC_A_setOrigin ci_A_84 ?_
    refine aw_callS2 k53_12 hC_A_setOrigin ok_A_isWithin ss_A_40 hH_A_isWithin (by rw [hL_A_isWithin]; exact Nat.le_of_ble_eq_true rfl) (Nat.le_of_ble_eq_true rfl) (iw_t hx.2) ?_
    refine aw_if_ne 28 k53_15 (by decide) (fun c_15 => ?_) (fun c_15 => ?_)
    · refine aw_aload_n k53_28 rfl ?_
      refine aw_callV0v k53_29 hC_A_setOrigin ok_A_beginTrial sv_A_53 hH_A_beginTrial ⟨rfl, rfl⟩ (by decide) hN_A_beginTrial (by rw [hL_A_beginTrial]; exact Nat.le_of_ble_eq_true rfl) (Nat.le_of_ble_eq_true rfl) hA ?_
      refine aw_aload_n k53_32 rfl ?_
      refine aw_getR k53_33 hC_A_setOrigin fs_A_16 (by decide) ⟨rfl, rfl⟩ rfl ?_
      refine aw_getR k53_36 hC_A_setOrigin fs_A_56 (by decide) ⟨(by first | assumption | decide), rfl⟩ rfl ?_
      refine aw_iload_n k53_39 rfl ?_
      refine aw_iload_n k53_40 rfl ?_
      refine aw_callV2v k53_41 hC_A_setOrigin ok_T_moveOrigin sv_A_87 hH_T_moveOrigin ⟨(by first | assumption | decide), rfl⟩ (by decide) hN_T_moveOrigin (by rw [hL_T_moveOrigin]; exact Nat.le_of_ble_eq_true rfl) (Nat.le_of_ble_eq_true rfl) (s_T_moveOrigin (by decide)) ?_
      refine aw_aload_n k53_44 rfl ?_
      refine aw_callV0v k53_45 hC_A_setOrigin ok_A_settleTrial sv_A_71 hH_A_settleTrial ⟨rfl, rfl⟩ (by decide) hN_A_settleTrial (by rw [hL_A_settleTrial]; exact Nat.le_of_ble_eq_true rfl) (Nat.le_of_ble_eq_true rfl) hA2 ?_
      refine aw_aload_n k53_48 rfl ?_
      refine aw_getR k53_49 hC_A_setOrigin fs_A_10 (by decide) ⟨rfl, rfl⟩ rfl ?_
      refine aw_getR k53_52 hC_A_setOrigin fs_A_56 (by decide) ⟨(by first | assumption | decide), rfl⟩ rfl ?_
      refine aw_getI k53_55 hC_A_setOrigin fs_A_74 (by decide) ⟨(by first | assumption | decide), rfl⟩ rfl ?_
      refine aw_ireturn k53_58 hR_A_setOrigin ?_ ?_
      exact h5'; rfl
    · exact absurd (show (1 : Int32) = 0 from c_15) (by decide)
theorem s_A_keep {d L : Nat} {M : mM} {f t : Nat → Int32} {hs : List (Nat → Int32)} {sn : Option (Nat → Int32)} (h : CR M f hs sn t L) (hn : canKeepF f = true) : ∃ M', CT iA_keep (d + 8) [vR 5 0 0] M (.inl (some (vI (fKeep f 39 - 1)))) M' 0 ∧ CR M' (fKeep f) ((f :: hs).take 4) sn t L ∧ CFr M M' := by
  obtain ⟨M1, hA, hC, hR1, hF⟩ := s_A_beginTrial (d := d + 4) h
  obtain ⟨M2, hA2, hR2, hF2⟩ := s_S_keepTraverse (d := d + 2) hR1
  rw [hn] at hA2 hR2
  rw [if_pos rfl] at hR2
  obtain ⟨M3, hA3, hC3, hF3⟩ := s_A_settleTrial (d := d + 3) (hC.trial hF2) hR2
  have h5' := hC3.1.c.2.2.1.trans hC3.1.c.1.symm
  refine ⟨M3, ct_go hL_A_keep rfl ?_, hC3, hF.tr (hF2.c.tr hF3)⟩
  refine aw_aload_n k54_0 rfl ?_
  refine aw_callV0v k54_1 hC_A_keep ok_A_beginTrial sv_A_53 hH_A_beginTrial ⟨rfl, rfl⟩ (by decide) hN_A_beginTrial (by rw [hL_A_beginTrial]; exact Nat.le_of_ble_eq_true rfl) (Nat.le_of_ble_eq_true rfl) hA ?_
  refine aw_aload_n k54_4 rfl ?_
  refine aw_getR k54_5 hC_A_keep fs_A_16 (by decide) ⟨rfl, rfl⟩ rfl ?_
  try simp only [h5']
  refine aw_callV0 k54_8 hC_A_keep ok_S_keepTraverse sv_A_91 hH_S_keepTraverse ⟨(by first | assumption | decide), rfl⟩ (by decide) hN_S_keepTraverse (by rw [hL_S_keepTraverse]; exact Nat.le_of_ble_eq_true rfl) (Nat.le_of_ble_eq_true rfl) hA2 ?_
  refine aw_if_ne 24 k54_11 (by decide) (fun c_11 => ?_) (fun c_11 => ?_)
  · refine aw_aload_n k54_24 rfl ?_
    refine aw_callV0v k54_25 hC_A_keep ok_A_settleTrial sv_A_71 hH_A_settleTrial ⟨rfl, rfl⟩ (by decide) hN_A_settleTrial (by rw [hL_A_settleTrial]; exact Nat.le_of_ble_eq_true rfl) (Nat.le_of_ble_eq_true rfl) hA3 ?_
    refine aw_aload_n k54_28 rfl ?_
    refine aw_getR k54_29 hC_A_keep fs_A_10 (by decide) ⟨rfl, rfl⟩ rfl ?_
    try simp only [h5']
    refine aw_getI k54_32 hC_A_keep fs_A_96 (by decide) ⟨(by first | assumption | decide), rfl⟩ rfl ?_
    try simp only [h5']
    refine aw_iconst (v := 1) k54_35 (by decide) ?_
    refine aw_isub k54_36 ?_
    refine aw_ireturn k54_37 hR_A_keep ?_ ?_
    all_goals first | rfl | exact Or.inl rfl | exact Or.inr rfl | assumption | (simp_all; done) | ((repeat' split) <;> first | rfl | (simp only [Int32.lt_iff_toInt_lt, Int32.le_iff_toInt_le, Int64.lt_iff_toInt_lt, Int64.le_iff_toInt_le] at *; omega) | (simp_all; done))
  · exact absurd (show (1 : Int32) = 0 from c_11) (by decide)
theorem s_A_giveUp {d L : Nat} {M : mM} {f t : Nat → Int32} {hs : List (Nat → Int32)} {sn : Option (Nat → Int32)} (h : CR M f hs sn t L) {x : Int32} (hn : hasF f x = true) : ∃ M', CT iA_giveUp (d + 8) [vR 5 0 0, vI x] M (.inl (some (vI (fGive f x.toNatClampNeg 39)))) M' 0 ∧ CR M' (fGive f x.toNatClampNeg) ((f :: hs).take 4) sn t L ∧ CFr M M' := by
  obtain ⟨M1, hA, hC, hR1, hF⟩ := s_A_beginTrial (d := d + 4) h
  obtain ⟨M2, hA2, hR2, hF2⟩ := s_S_dropField (d := d + 5) (x := x) hR1
  rw [hn] at hA2 hR2
  rw [if_pos rfl] at hR2
  obtain ⟨M3, hA3, hC3, hF3⟩ := s_A_settleTrial (d := d + 3) (hC.trial hF2) hR2
  have h5' := hC3.1.c.2.2.1.trans hC3.1.c.1.symm
  refine ⟨M3, ct_go hL_A_giveUp rfl ?_, hC3, hF.tr (hF2.c.tr hF3)⟩
  refine aw_aload_n k55_0 rfl ?_
  refine aw_callV0v k55_1 hC_A_giveUp ok_A_beginTrial sv_A_53 hH_A_beginTrial ⟨rfl, rfl⟩ (by decide) hN_A_beginTrial (by rw [hL_A_beginTrial]; exact Nat.le_of_ble_eq_true rfl) (Nat.le_of_ble_eq_true rfl) hA ?_
  refine aw_aload_n k55_4 rfl ?_
  refine aw_getR k55_5 hC_A_giveUp fs_A_16 (by decide) ⟨rfl, rfl⟩ rfl ?_
  refine aw_iload_n k55_8 rfl ?_
  refine aw_callV1 k55_9 hC_A_giveUp ok_S_dropField sv_A_99 hH_S_dropField ⟨(by first | assumption | decide), rfl⟩ (by decide) hN_S_dropField (by rw [hL_S_dropField]; exact Nat.le_of_ble_eq_true rfl) (Nat.le_of_ble_eq_true rfl) hA2 ?_
  refine aw_if_ne 25 k55_12 (by decide) (fun c_12 => ?_) (fun c_12 => ?_)
  · refine aw_aload_n k55_25 rfl ?_
    refine aw_callV0v k55_26 hC_A_giveUp ok_A_settleTrial sv_A_71 hH_A_settleTrial ⟨rfl, rfl⟩ (by decide) hN_A_settleTrial (by rw [hL_A_settleTrial]; exact Nat.le_of_ble_eq_true rfl) (Nat.le_of_ble_eq_true rfl) hA3 ?_
    refine aw_aload_n k55_29 rfl ?_
    refine aw_getR k55_30 hC_A_giveUp fs_A_10 (by decide) ⟨rfl, rfl⟩ rfl ?_
    refine aw_getI k55_33 hC_A_giveUp fs_A_96 (by decide) ⟨(by first | assumption | decide), rfl⟩ rfl ?_
    refine aw_ireturn k55_36 hR_A_giveUp ?_ ?_
    exact h5'; rfl
  · exact absurd (show (1 : Int32) = 0 from c_12) (by decide)
theorem s_A_undo {d L : Nat} {M : mM} {f t : Nat → Int32} {hs : List (Nat → Int32)} {sn : Option (Nat → Int32)} {g : Nat → Int32} (h : CR M f (g :: hs) sn t L) : ∃ M', CT iA_undo (d + 8) [vR 5 0 0] M (.inl (some (vI (nI hs.length)))) M' 0 ∧ CR M' g hs sn t L ∧ CFr M M' := by
  obtain ⟨g1, ⟨a, a1, a2, a3, a4, a5⟩, ⟨b1, b2⟩, c1, c2, c3⟩ := h
  have hg := a5 0 g rfl
  have e0 : 3 + (a + 3 - 0) % 4 = 3 + (a + 3) % 4 := by omega
  rw [e0] at hg
  simp at a4
  obtain ⟨M1, hA, hR1, k1, k2, hF1⟩ := s_H_giveBack (d := d + 4) (t := 0) a1 (n := hs.length) (by omega) a2 a3 hg (by decide)
  have hin : ∀ s, s ≠ 0 → ∀ r, InS s r → M1 r = M r := fun s hs r hr => hF1 r (fun q => by subst q; have := hr.2; simp at this) (fun q => hs (hr.1.symm.trans q.1))
  have e : ∀ k, k ≠ 0 → k ≠ 1 → k ≠ 3 → k ≠ 4 → k ≠ 7 → k ≠ 8 → k ≠ 9 → ∀ i j, M1 (k, i, j) = M (k, i, j) := fun k p1 p1' p2 p3 p4 p5 p6 i j => hF1 _ (by simp [p1']) (fun q => by have := q.2; omega)
  have e5 := e 5 (by decide) (by decide) (by decide) (by decide) (by decide) (by decide) (by decide)
  have e2 := e 2 (by decide) (by decide) (by decide) (by decide) (by decide) (by decide) (by decide)
  have e12 := e 12 (by decide) (by decide) (by decide) (by decide) (by decide) (by decide) (by decide)
  refine ⟨M1, ct_go hL_A_undo rfl ?_, ⟨hR1, ⟨(a + 3) % 4, by omega, k1, k2, by omega, fun i g' hg' => ?_⟩, ⟨by rw [e5]; exact b1, fun g' hg' => (b2 g' hg').congr (hin 2 (by omega))⟩, c1, by rw [e2]; exact c2, fun j hj => by rw [e12]; exact c3 j hj⟩, fun r hr => hF1 r (fun q => by subst q; simp at hr) (fun q => by have := q.2; omega)⟩
  · refine aw_aload_n k56_0 rfl ?_
    refine aw_getR k56_1 hC_A_undo fs_A_25 (by decide) ⟨rfl, rfl⟩ rfl ?_
    refine aw_aload_n k56_4 rfl ?_
    refine aw_getR k56_5 hC_A_undo fs_A_10 (by decide) ⟨rfl, rfl⟩ rfl ?_
    refine aw_callV1 k56_8 hC_A_undo ok_H_giveBack sv_A_134 hH_H_giveBack ⟨rfl, rfl⟩ (by decide) hN_H_giveBack (by rw [hL_H_giveBack]; exact Nat.le_of_ble_eq_true rfl) (Nat.le_of_ble_eq_true rfl) hA ?_
    refine aw_if_ne 24 k56_11 (by decide) (fun c_11 => ?_) (fun c_11 => ?_)
    · refine aw_aload_n k56_24 rfl ?_
      refine aw_getR k56_25 hC_A_undo fs_A_25 (by decide) ⟨rfl, rfl⟩ rfl ?_
      refine aw_getI k56_28 hC_A_undo fs_A_140 (by decide) ⟨rfl, rfl⟩ rfl ?_
      refine aw_ireturn k56_31 hR_A_undo ?_ ?_
      exact k2; rfl
    · exact absurd (show (1 : Int32) = 0 from c_11) (by decide)
  · have hi := (List.getElem?_eq_some_iff.mp hg').1
    have e3 : 3 + ((a + 3) % 4 + 3 - i) % 4 = 3 + (a + 3 - (i + 1)) % 4 := by omega
    rw [e3]
    exact (a5 (i + 1) g' (by simpa using hg')).congr (hin _ (by omega))
theorem s_A_takeSnapshot {d L : Nat} {M : mM} {f t : Nat → Int32} {hs : List (Nat → Int32)} {sn : Option (Nat → Int32)} (h : CR M f hs sn t L) : ∃ M', CT iA_takeSnapshot (d + 8) [vR 5 0 0] M (.inl (some (vI (f 39)))) M' 0 ∧ CR M' f hs (some f) t L ∧ CFr M M' := by
  obtain ⟨g1, ⟨a, a1, a2, a3, a4, a5⟩, ⟨b1, b2⟩, c1, c2, c3⟩ := h
  obtain ⟨M1, hA, hR, hF⟩ := s_S_copyFrom (d := d + 5) (s := 2) (by decide) g1 (by decide)
  have hin : ∀ s, s ≠ 2 → ∀ r, InS s r → mUp M1 (5, 0, 0) 5 1 r = M r := fun s hs r hr => by
    rw [mUp_ne (fun q => by subst q; have := hr.2; simp at this)]
    exact hF r (fun q => hs (hr.1.symm.trans q.1))
  have e : ∀ k, k ≠ 0 → k ≠ 5 → k ≠ 3 → k ≠ 4 → k ≠ 7 → k ≠ 8 → k ≠ 9 → ∀ i j, mUp M1 (5, 0, 0) 5 1 (k, i, j) = M (k, i, j) := fun k p1 p1' p2 p3 p4 p5 p6 i j => by
    rw [mUp_ne (by simp [p1'])]
    exact hF _ (fun q => by have := q.2; omega)
  have e1 := e 1 (by decide) (by decide) (by decide) (by decide) (by decide) (by decide) (by decide)
  have e2 := e 2 (by decide) (by decide) (by decide) (by decide) (by decide) (by decide) (by decide)
  have e12 := e 12 (by decide) (by decide) (by decide) (by decide) (by decide) (by decide) (by decide)
  have hR0 : RelS (mUp M1 (5, 0, 0) 5 1) 0 f := g1.congr (hin 0 (by decide))
  have h39 := hR0.c.2.2.1.trans hR0.c.1.symm
  refine ⟨_, ct_go hL_A_takeSnapshot rfl ?_, ⟨hR0, ⟨a, a1, by rw [e1]; exact a2, by rw [e1]; exact a3, a4, fun i g' hg' => (a5 i g' hg').congr (hin _ (by omega))⟩, ⟨by simp [mUp_at], fun g' hg' => ?_⟩, c1, by rw [e2]; exact c2, fun j hj => by rw [e12]; exact c3 j hj⟩, fun r hr => ?_⟩
  · refine aw_aload_n k57_0 rfl ?_
    refine aw_getR k57_1 hC_A_takeSnapshot fs_A_19 (by decide) ⟨rfl, rfl⟩ rfl ?_
    refine aw_aload_n k57_4 rfl ?_
    refine aw_getR k57_5 hC_A_takeSnapshot fs_A_10 (by decide) ⟨rfl, rfl⟩ rfl ?_
    refine aw_callV1v k57_8 hC_A_takeSnapshot ok_S_copyFrom sv_A_143 hH_S_copyFrom ⟨(by first | assumption | decide), rfl⟩ (by decide) hN_S_copyFrom (by rw [hL_S_copyFrom]; exact Nat.le_of_ble_eq_true rfl) (Nat.le_of_ble_eq_true rfl) hA ?_
    refine aw_aload_n k57_11 rfl ?_
    refine aw_iconst (v := 1) k57_12 (by decide) ?_
    refine aw_putZ k57_13 hC_A_takeSnapshot fs_A_36 (by decide) ⟨rfl, rfl⟩ rfl po_5_5 (by first | exact Or.inl rfl | exact Or.inr rfl | assumption) ?_
    refine aw_aload_n k57_16 rfl ?_
    refine aw_getR k57_17 hC_A_takeSnapshot fs_A_10 (by decide) ⟨rfl, rfl⟩ rfl ?_
    refine aw_getI k57_20 hC_A_takeSnapshot fs_A_96 (by decide) ⟨(by first | assumption | decide), rfl⟩ rfl ?_
    refine aw_ireturn k57_23 hR_A_takeSnapshot ?_ ?_
    exact h39; rfl
  · simp at hg'
    subst hg'
    exact hR.congr (fun r hr => mUp_ne (fun q => by subst q; have := hr.2; simp at this))
  · rw [mUp_ne (fun q => by subst q; simp at hr)]
    exact hF r (fun q => by have := q.2; omega)
theorem s_A_restoreSnapshot {d L : Nat} {M : mM} {f t : Nat → Int32} {hs : List (Nat → Int32)} {sn : Option (Nat → Int32)} {g : Nat → Int32} (h : CR M f hs (some g) t L) : ∃ M', CT iA_restoreSnapshot (d + 8) [vR 5 0 0] M (.inl (some (vI (g 39)))) M' 0 ∧ CR M' g ((f :: hs).take 4) (some g) t L ∧ CFr M M' := by
  have b1 : M (5, 0, 0) 5 = 1 := h.2.2.1.1
  obtain ⟨M1, hA, hR, hF⟩ := s_S_copyFrom (d := d + 5) (s := 1) (by decide) (h.2.2.1.2 g rfl) (by decide)
  obtain ⟨M2, hA2, hC2, hF2⟩ := s_A_settleTrial (d := d + 3) (h.trial hF) hR
  have h39 := hC2.1.c.2.2.1.trans hC2.1.c.1.symm
  refine ⟨M2, ct_go hL_A_restoreSnapshot rfl ?_, hC2, hF.c.tr hF2⟩
  refine aw_aload_n k58_0 rfl ?_
  refine aw_getI k58_1 hC_A_restoreSnapshot fs_A_36 (by decide) ⟨rfl, rfl⟩ rfl ?_
  try simp only [b1]
  refine aw_if_ne 17 k58_4 (by decide) (fun c_4 => ?_) (fun c_4 => ?_)
  · refine aw_aload_n k58_17 rfl ?_
    refine aw_getR k58_18 hC_A_restoreSnapshot fs_A_16 (by decide) ⟨rfl, rfl⟩ rfl ?_
    try simp only [b1]
    refine aw_aload_n k58_21 rfl ?_
    refine aw_getR k58_22 hC_A_restoreSnapshot fs_A_19 (by decide) ⟨rfl, rfl⟩ rfl ?_
    try simp only [b1]
    refine aw_callV1v k58_25 hC_A_restoreSnapshot ok_S_copyFrom sv_A_143 hH_S_copyFrom ⟨(by first | assumption | decide), rfl⟩ (by decide) hN_S_copyFrom (by rw [hL_S_copyFrom]; exact Nat.le_of_ble_eq_true rfl) (Nat.le_of_ble_eq_true rfl) hA ?_
    refine aw_aload_n k58_28 rfl ?_
    refine aw_callV0v k58_29 hC_A_restoreSnapshot ok_A_settleTrial sv_A_71 hH_A_settleTrial ⟨rfl, rfl⟩ (by decide) hN_A_settleTrial (by rw [hL_A_settleTrial]; exact Nat.le_of_ble_eq_true rfl) (Nat.le_of_ble_eq_true rfl) hA2 ?_
    refine aw_aload_n k58_32 rfl ?_
    refine aw_getR k58_33 hC_A_restoreSnapshot fs_A_10 (by decide) ⟨rfl, rfl⟩ rfl ?_
    try simp only [b1]
    refine aw_getI k58_36 hC_A_restoreSnapshot fs_A_96 (by decide) ⟨(by first | assumption | decide), rfl⟩ rfl ?_
    try simp only [b1]
    refine aw_ireturn k58_39 hR_A_restoreSnapshot ?_ ?_
    exact h39; rfl
  · exact absurd c_4 (by decide)
