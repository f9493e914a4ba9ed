/-! PURE: a field's methods, further -/
theorem bI_0 {b : Bool} (h : bI b = 0) : b = false := by cases b <;> first | rfl | exact absurd h (by decide)
theorem bI_1 {b : Bool} (h : ¬ bI b = 0) : b = true := by cases b <;> first | rfl | exact absurd rfl h
theorem and_t {a b : Bool} (h1 : a = true) (h2 : b = true) : (a && b) = true := by rw [h1, h2]; rfl
theorem and_f1 {a b : Bool} (h : a = false) : (a && b) = false := by rw [h]; rfl
theorem and_f2 {a b : Bool} (h : b = false) : (a && b) = false := by rw [h]; cases a <;> rfl
theorem or_t1 {a b : Bool} (h : a = true) : (a || b) = true := by rw [h]; rfl
theorem or_t2 {a b : Bool} (h : b = true) : (a || b) = true := by rw [h]; cases a <;> rfl
theorem or_f {a b : Bool} (h1 : a = false) (h2 : b = false) : (a || b) = false := by rw [h1, h2]; rfl
theorem s_F_sidesMetFrom {d s j m : Nat} {M : mM} {x y : Int32} (h : FdM M s j m) : CT iF_sidesMetFrom (d + 3) [vR 0 s j, vI x, vI y] M (.inl (some (vI (nI (cntB (fun i => metV (M (8, s, j)) (M (9, s, j)) x y i (nx m i)) m))))) M 0 := by
  obtain ⟨hs, hj, hm, h12⟩ := id h
  refine ct_go hL_F_sidesMetFrom rfl ?_
  generalize hp : (fun i => metV (M (8, s, j)) (M (9, s, j)) x y i (nx m i)) = p
  have hpi : ∀ i, metV (M (8, s, j)) (M (9, s, j)) x y i (nx m i) = p i := fun i => by rw [← hp]
  have loop : ∀ (k i : Nat) (t : Int32), i + k = m → t = nI (cntB p i) → AW iF_sidesMetFrom (d + 3) 5 [some (vR 0 s j), some (vI x), some (vI y), some (vI t), some (vI (nI i))] [] M (.inl (some (vI (nI (cntB p m))))) M 0 := by
    intro k
    induction k with
    | zero =>
      intro i t hi ht
      obtain rfl : i = m := by omega
      refine aw_iload k14_5 rfl ?_
      refine aw_aload_n k14_7 rfl ?_
      refine aw_getI k14_8 hC_F_sidesMetFrom fs_F_24 (by decide) ⟨(by first | assumption | decide), (by first | assumption | decide)⟩ rfl ?_
      rw [hm]
      refine aw_icmp_ge 40 k14_11 (by decide) (fun c_11 => ?_) (fun c_11 => ?_)
      · refine aw_iload_n k14_40 rfl ?_
        refine aw_ireturn k14_41 hR_F_sidesMetFrom ?_ ?_
        exact ht; rfl
      · exact absurd (nI_leI (by omega) (by omega) |>.mpr (Nat.le_refl i)) c_11
    | succ k ih =>
      intro i t hi ht
      refine aw_iload k14_5 rfl ?_
      refine aw_aload_n k14_7 rfl ?_
      refine aw_getI k14_8 hC_F_sidesMetFrom fs_F_24 (by decide) ⟨(by first | assumption | decide), (by first | assumption | decide)⟩ rfl ?_
      rw [hm]
      refine aw_icmp_ge 40 k14_11 (by decide) (fun c_11 => ?_) (fun c_11 => ?_)
      · exact absurd (nI_le_of c_11) (by omega)
      · refine aw_aload_n k14_14 rfl ?_
        refine aw_iload_n k14_15 rfl ?_
        refine aw_iload_n k14_16 rfl ?_
        refine aw_iload k14_17 rfl ?_
        refine aw_aload_n k14_19 rfl ?_
        refine aw_iload k14_20 rfl ?_
        refine aw_callV1 k14_22 hC_F_sidesMetFrom ok_F_cornerAfter sv_F_32 hH_F_cornerAfter ⟨(by first | assumption | decide), (by first | assumption | decide)⟩ (by decide) hN_F_cornerAfter (by rw [hL_F_cornerAfter]; exact Nat.le_of_ble_eq_true rfl) (Nat.le_of_ble_eq_true rfl) (s_F_cornerAfter h (by omega)) ?_
        refine aw_callV4 k14_25 hC_F_sidesMetFrom ok_F_isMetFrom sv_F_55 hH_F_isMetFrom ⟨(by first | assumption | decide), (by first | assumption | decide)⟩ (by decide) hN_F_isMetFrom (by rw [hL_F_isMetFrom]; exact Nat.le_of_ble_eq_true rfl) (Nat.le_of_ble_eq_true rfl) (s_F_isMetFrom hs hj (by omega) (nx_lt h12)) ?_
        rw [hpi]
        refine aw_if_eq 34 k14_28 (by decide) (fun c_28 => ?_) (fun c_28 => ?_)
        · refine aw_iinc (y := 1) k14_34 rfl (by decide) rfl ?_
          rw [nI_1]
          refine aw_goto (t := 5) k14_37 (by decide) ?_
          refine ih (i + 1) _ (by omega) ?_
          rw [ht]
          first | exact cntB_f (bI_0 c_28) | exact cntB_t (bI_1 c_28)
        · refine aw_iinc (y := 1) k14_31 rfl (by decide) rfl ?_
          refine aw_iinc (y := 1) k14_34 rfl (by decide) rfl ?_
          rw [nI_1]
          refine aw_goto (t := 5) k14_37 (by decide) ?_
          refine ih (i + 1) _ (by omega) ?_
          rw [ht]
          first | exact cntB_f (bI_0 c_28) | exact cntB_t (bI_1 c_28)
  refine aw_iconst (v := 0) k14_0 (by decide) ?_
  refine aw_istore_n k14_1 (Nat.le_of_ble_eq_true rfl) rfl ?_
  refine aw_iconst (v := 0) k14_2 (by decide) ?_
  refine aw_istore k14_3 (Nat.le_of_ble_eq_true rfl) rfl ?_
  exact loop m 0 _ (by omega) rfl
def samePt (M : mM) (s j i s' j' i' : Nat) : Bool := decide (M (8, s, j) i = M (8, s', j') i') && decide (M (9, s, j) i = M (9, s', j') i')
theorem s_F_isSamePoint {d s j i s' j' i' : Nat} {M : mM} (hs : s < 7) (hj : j < 6) (hi : i < 12) (hs' : s' < 7) (hj' : j' < 6) (hi' : i' < 12) : CT iF_isSamePoint (d + 2) [vR 0 s j, vI (nI i), vR 0 s' j', vI (nI i')] M (.inl (some (vI (bI (samePt M s j i s' j' i'))))) M 0 := by
  refine ct_go hL_F_isSamePoint rfl ?_
  refine aw_aload_n k18_0 rfl ?_
  refine aw_iload_n k18_1 rfl ?_
  refine aw_callV1 k18_2 hC_F_isSamePoint ok_F_eastAt sv_F_36 hH_F_eastAt ⟨(by first | assumption | decide), (by first | assumption | decide)⟩ (by decide) hN_F_eastAt (by rw [hL_F_eastAt]; exact Nat.le_of_ble_eq_true rfl) (Nat.le_of_ble_eq_true rfl) (s_F_eastAt hs hj hi) ?_
  refine aw_aload_n k18_5 rfl ?_
  refine aw_iload_n k18_6 rfl ?_
  refine aw_callV1 k18_7 hC_F_isSamePoint ok_F_eastAt sv_F_36 hH_F_eastAt ⟨(by first | assumption | decide), (by first | assumption | decide)⟩ (by decide) hN_F_eastAt (by rw [hL_F_eastAt]; exact Nat.le_of_ble_eq_true rfl) (Nat.le_of_ble_eq_true rfl) (s_F_eastAt hs' hj' hi') ?_
  refine aw_icmp_ne 30 k18_10 (by decide) (fun c_10 => ?_) (fun c_10 => ?_)
  · refine aw_iconst (v := 0) k18_30 (by decide) ?_
    refine aw_zreturn k18_31 hR_F_isSamePoint ?_ ?_ ?_
    · first | exact Or.inl rfl | exact Or.inr rfl
    · first | exact bI_t (and_t (decide_eq_true c_10) (decide_eq_true c_23)) | exact bI_f (and_f2 (decide_eq_false c_23)) | exact bI_f (and_f1 (decide_eq_false c_10))
    · rfl
  · refine aw_aload_n k18_13 rfl ?_
    refine aw_iload_n k18_14 rfl ?_
    refine aw_callV1 k18_15 hC_F_isSamePoint ok_F_northAt sv_F_39 hH_F_northAt ⟨(by first | assumption | decide), (by first | assumption | decide)⟩ (by decide) hN_F_northAt (by rw [hL_F_northAt]; exact Nat.le_of_ble_eq_true rfl) (Nat.le_of_ble_eq_true rfl) (s_F_northAt hs hj hi) ?_
    refine aw_aload_n k18_18 rfl ?_
    refine aw_iload_n k18_19 rfl ?_
    refine aw_callV1 k18_20 hC_F_isSamePoint ok_F_northAt sv_F_39 hH_F_northAt ⟨(by first | assumption | decide), (by first | assumption | decide)⟩ (by decide) hN_F_northAt (by rw [hL_F_northAt]; exact Nat.le_of_ble_eq_true rfl) (Nat.le_of_ble_eq_true rfl) (s_F_northAt hs' hj' hi') ?_
    refine aw_icmp_ne 30 k18_23 (by decide) (fun c_23 => ?_) (fun c_23 => ?_)
    · refine aw_iconst (v := 0) k18_30 (by decide) ?_
      refine aw_zreturn k18_31 hR_F_isSamePoint ?_ ?_ ?_
      · first | exact Or.inl rfl | exact Or.inr rfl
      · first | exact bI_t (and_t (decide_eq_true c_10) (decide_eq_true c_23)) | exact bI_f (and_f2 (decide_eq_false c_23)) | exact bI_f (and_f1 (decide_eq_false c_10))
      · rfl
    · refine aw_iconst (v := 1) k18_26 (by decide) ?_
      refine aw_goto (t := 31) k18_27 (by decide) ?_
      refine aw_zreturn k18_31 hR_F_isSamePoint ?_ ?_ ?_
      · first | exact Or.inl rfl | exact Or.inr rfl
      · first | exact bI_t (and_t (decide_eq_true c_10) (decide_eq_true c_23)) | exact bI_f (and_f2 (decide_eq_false c_23)) | exact bI_f (and_f1 (decide_eq_false c_10))
      · rfl
def anyB (p : Nat → Bool) : Nat → Bool
  | 0 => false
  | n + 1 => anyB p n || p n
theorem anyB_t {p : Nat → Bool} {i n : Nat} (h : p i = true) (hi : i < n) : anyB p n = true := by
  induction n with
  | zero => omega
  | succ n ih =>
    show (anyB p n || p n) = true
    by_cases e : i = n
    · subst e
      exact or_t2 h
    · exact or_t1 (ih (by omega))
theorem anyB_f {p : Nat → Bool} {n : Nat} (h1 : anyB p n = false) (h2 : p n = false) : anyB p (n + 1) = false := or_f h1 h2
/-- the side from, to of another field is a side here -/
def hasSd (M : mM) (s j m s' j' a b : Nat) (i : Nat) : Bool := (samePt M s j i s' j' a && samePt M s j (nx m i) s' j' b) || (samePt M s j i s' j' b && samePt M s j (nx m i) s' j' a)
theorem s_F_hasSide {d s j m s' j' a b : Nat} {M : mM} (h : FdM M s j m) (hs' : s' < 7) (hj' : j' < 6) (ha : a < 12) (hb : b < 12) : CT iF_hasSide (d + 3) [vR 0 s j, vR 0 s' j', vI (nI a), vI (nI b)] M (.inl (some (vI (bI (anyB (hasSd M s j m s' j' a b) m))))) M 0 := by
  obtain ⟨hs, hj, hm, h12⟩ := id h
  refine ct_go hL_F_hasSide rfl ?_
  have loop : ∀ (k i : Nat) (z : Option mAV), i + k = m → anyB (hasSd M s j m s' j' a b) i = false → AW iF_hasSide (d + 3) 3 [some (vR 0 s j), some (vR 0 s' j'), some (vI (nI a)), some (vI (nI b)), some (vI (nI i)), z] [] M (.inl (some (vI (bI (anyB (hasSd M s j m s' j' a b) m))))) M 0 := by
    intro k
    induction k with
    | zero =>
      intro i z hi ht
      obtain rfl : i = m := by omega
      refine aw_iload k17_3 rfl ?_
      refine aw_aload_n k17_5 rfl ?_
      refine aw_getI k17_6 hC_F_hasSide fs_F_24 (by decide) ⟨(by first | assumption | decide), (by first | assumption | decide)⟩ rfl ?_
      rw [hm]
      refine aw_icmp_ge 74 k17_9 (by decide) (fun c_9 => ?_) (fun c_9 => ?_)
      · refine aw_iconst (v := 0) k17_74 (by decide) ?_
        refine aw_zreturn k17_75 hR_F_hasSide ?_ ?_ ?_
        · exact Or.inl rfl
        · exact bI_f ht
        · rfl
      · exact absurd (nI_leI (by omega) (by omega) |>.mpr (Nat.le_refl i)) c_9
    | succ k ih =>
      intro i z hi ht
      refine aw_iload k17_3 rfl ?_
      refine aw_aload_n k17_5 rfl ?_
      refine aw_getI k17_6 hC_F_hasSide fs_F_24 (by decide) ⟨(by first | assumption | decide), (by first | assumption | decide)⟩ rfl ?_
      rw [hm]
      refine aw_icmp_ge 74 k17_9 (by decide) (fun c_9 => ?_) (fun c_9 => ?_)
      · exact absurd (nI_le_of c_9) (by omega)
      · refine aw_aload_n k17_12 rfl ?_
        refine aw_iload k17_13 rfl ?_
        refine aw_callV1 k17_15 hC_F_hasSide ok_F_cornerAfter sv_F_32 hH_F_cornerAfter ⟨(by first | assumption | decide), (by first | assumption | decide)⟩ (by decide) hN_F_cornerAfter (by rw [hL_F_cornerAfter]; exact Nat.le_of_ble_eq_true rfl) (Nat.le_of_ble_eq_true rfl) (s_F_cornerAfter h (by omega)) ?_
        refine aw_istore k17_18 (Nat.le_of_ble_eq_true rfl) rfl ?_
        refine aw_aload_n k17_20 rfl ?_
        refine aw_iload k17_21 rfl ?_
        refine aw_aload_n k17_23 rfl ?_
        refine aw_iload_n k17_24 rfl ?_
        refine aw_callV3 k17_25 hC_F_hasSide ok_F_isSamePoint sv_F_63 hH_F_isSamePoint ⟨(by first | assumption | decide), (by first | assumption | decide)⟩ (by decide) hN_F_isSamePoint (by rw [hL_F_isSamePoint]; exact Nat.le_of_ble_eq_true rfl) (Nat.le_of_ble_eq_true rfl) (s_F_isSamePoint hs hj (by omega) hs' hj' ha) ?_
        refine aw_if_eq 44 k17_28 (by decide) (fun c_28 => ?_) (fun c_28 => ?_)
        · refine aw_aload_n k17_44 rfl ?_
          refine aw_iload k17_45 rfl ?_
          refine aw_aload_n k17_47 rfl ?_
          refine aw_iload_n k17_48 rfl ?_
          refine aw_callV3 k17_49 hC_F_hasSide ok_F_isSamePoint sv_F_63 hH_F_isSamePoint ⟨(by first | assumption | decide), (by first | assumption | decide)⟩ (by decide) hN_F_isSamePoint (by rw [hL_F_isSamePoint]; exact Nat.le_of_ble_eq_true rfl) (Nat.le_of_ble_eq_true rfl) (s_F_isSamePoint hs hj (by omega) hs' hj' hb) ?_
          refine aw_if_eq 68 k17_52 (by decide) (fun c_52 => ?_) (fun c_52 => ?_)
          · refine aw_iinc (y := 1) k17_68 rfl (by decide) rfl ?_
            rw [nI_1]
            refine aw_goto (t := 3) k17_71 (by decide) ?_
            refine ih (i + 1) _ (by omega) (anyB_f ht (or_f ?_ ?_))
            · first | exact and_f1 (bI_0 c_28) | exact and_f2 (bI_0 c_39)
            · first | exact and_f1 (bI_0 c_52) | exact and_f2 (bI_0 c_63)
          · refine aw_aload_n k17_55 rfl ?_
            refine aw_iload k17_56 rfl ?_
            refine aw_aload_n k17_58 rfl ?_
            refine aw_iload_n k17_59 rfl ?_
            refine aw_callV3 k17_60 hC_F_hasSide ok_F_isSamePoint sv_F_63 hH_F_isSamePoint ⟨(by first | assumption | decide), (by first | assumption | decide)⟩ (by decide) hN_F_isSamePoint (by rw [hL_F_isSamePoint]; exact Nat.le_of_ble_eq_true rfl) (Nat.le_of_ble_eq_true rfl) (s_F_isSamePoint hs hj (nx_lt h12) hs' hj' ha) ?_
            refine aw_if_eq 68 k17_63 (by decide) (fun c_63 => ?_) (fun c_63 => ?_)
            · refine aw_iinc (y := 1) k17_68 rfl (by decide) rfl ?_
              rw [nI_1]
              refine aw_goto (t := 3) k17_71 (by decide) ?_
              refine ih (i + 1) _ (by omega) (anyB_f ht (or_f ?_ ?_))
              · first | exact and_f1 (bI_0 c_28) | exact and_f2 (bI_0 c_39)
              · first | exact and_f1 (bI_0 c_52) | exact and_f2 (bI_0 c_63)
            · refine aw_iconst (v := 1) k17_66 (by decide) ?_
              refine aw_zreturn k17_67 hR_F_hasSide ?_ ?_ ?_
              · exact Or.inr rfl
              · exact bI_t (anyB_t (i := i) (or_t2 (and_t (bI_1 c_52) (bI_1 c_63))) (by omega))
              · rfl
        · refine aw_aload_n k17_31 rfl ?_
          refine aw_iload k17_32 rfl ?_
          refine aw_aload_n k17_34 rfl ?_
          refine aw_iload_n k17_35 rfl ?_
          refine aw_callV3 k17_36 hC_F_hasSide ok_F_isSamePoint sv_F_63 hH_F_isSamePoint ⟨(by first | assumption | decide), (by first | assumption | decide)⟩ (by decide) hN_F_isSamePoint (by rw [hL_F_isSamePoint]; exact Nat.le_of_ble_eq_true rfl) (Nat.le_of_ble_eq_true rfl) (s_F_isSamePoint hs hj (nx_lt h12) hs' hj' hb) ?_
          refine aw_if_eq 44 k17_39 (by decide) (fun c_39 => ?_) (fun c_39 => ?_)
          · refine aw_aload_n k17_44 rfl ?_
            refine aw_iload k17_45 rfl ?_
            refine aw_aload_n k17_47 rfl ?_
            refine aw_iload_n k17_48 rfl ?_
            refine aw_callV3 k17_49 hC_F_hasSide ok_F_isSamePoint sv_F_63 hH_F_isSamePoint ⟨(by first | assumption | decide), (by first | assumption | decide)⟩ (by decide) hN_F_isSamePoint (by rw [hL_F_isSamePoint]; exact Nat.le_of_ble_eq_true rfl) (Nat.le_of_ble_eq_true rfl) (s_F_isSamePoint hs hj (by omega) hs' hj' hb) ?_
            refine aw_if_eq 68 k17_52 (by decide) (fun c_52 => ?_) (fun c_52 => ?_)
            · refine aw_iinc (y := 1) k17_68 rfl (by decide) rfl ?_
              rw [nI_1]
              refine aw_goto (t := 3) k17_71 (by decide) ?_
              refine ih (i + 1) _ (by omega) (anyB_f ht (or_f ?_ ?_))
              · first | exact and_f1 (bI_0 c_28) | exact and_f2 (bI_0 c_39)
              · first | exact and_f1 (bI_0 c_52) | exact and_f2 (bI_0 c_63)
            · refine aw_aload_n k17_55 rfl ?_
              refine aw_iload k17_56 rfl ?_
              refine aw_aload_n k17_58 rfl ?_
              refine aw_iload_n k17_59 rfl ?_
              refine aw_callV3 k17_60 hC_F_hasSide ok_F_isSamePoint sv_F_63 hH_F_isSamePoint ⟨(by first | assumption | decide), (by first | assumption | decide)⟩ (by decide) hN_F_isSamePoint (by rw [hL_F_isSamePoint]; exact Nat.le_of_ble_eq_true rfl) (Nat.le_of_ble_eq_true rfl) (s_F_isSamePoint hs hj (nx_lt h12) hs' hj' ha) ?_
              refine aw_if_eq 68 k17_63 (by decide) (fun c_63 => ?_) (fun c_63 => ?_)
              · refine aw_iinc (y := 1) k17_68 rfl (by decide) rfl ?_
                rw [nI_1]
                refine aw_goto (t := 3) k17_71 (by decide) ?_
                refine ih (i + 1) _ (by omega) (anyB_f ht (or_f ?_ ?_))
                · first | exact and_f1 (bI_0 c_28) | exact and_f2 (bI_0 c_39)
                · first | exact and_f1 (bI_0 c_52) | exact and_f2 (bI_0 c_63)
              · refine aw_iconst (v := 1) k17_66 (by decide) ?_
                refine aw_zreturn k17_67 hR_F_hasSide ?_ ?_ ?_
                · exact Or.inr rfl
                · exact bI_t (anyB_t (i := i) (or_t2 (and_t (bI_1 c_52) (bI_1 c_63))) (by omega))
                · rfl
          · refine aw_iconst (v := 1) k17_42 (by decide) ?_
            refine aw_zreturn k17_43 hR_F_hasSide ?_ ?_ ?_
            · exact Or.inr rfl
            · exact bI_t (anyB_t (i := i) (or_t1 (and_t (bI_1 c_28) (bI_1 c_39))) (by omega))
            · rfl
  refine aw_iconst (v := 0) k17_0 (by decide) ?_
  refine aw_istore k17_1 (Nat.le_of_ble_eq_true rfl) rfl ?_
  exact loop m 0 _ (by omega) rfl
theorem s_F_sidesAlsoOf {d s j m s' j' m' : Nat} {M : mM} (h : FdM M s j m) (h' : FdM M s' j' m') : CT iF_sidesAlsoOf (d + 4) [vR 0 s j, vR 0 s' j'] M (.inl (some (vI (nI (cntB (fun i => anyB (hasSd M s' j' m' s j i (nx m i)) m') m))))) M 0 := by
  obtain ⟨hs, hj, hm, h12⟩ := id h
  obtain ⟨hs', hj', -, -⟩ := id h'
  refine ct_go hL_F_sidesAlsoOf rfl ?_
  generalize hp : (fun i => anyB (hasSd M s' j' m' s j i (nx m i)) m') = p
  have hpi : ∀ i, anyB (hasSd M s' j' m' s j i (nx m i)) m' = p i := fun i => by rw [← hp]
  have loop : ∀ (k i : Nat) (t : Int32), i + k = m → t = nI (cntB p i) → AW iF_sidesAlsoOf (d + 4) 4 [some (vR 0 s j), some (vR 0 s' j'), some (vI t), some (vI (nI i))] [] M (.inl (some (vI (nI (cntB p m))))) M 0 := by
    intro k
    induction k with
    | zero =>
      intro i t hi ht
      obtain rfl : i = m := by omega
      refine aw_iload_n k16_4 rfl ?_
      refine aw_aload_n k16_5 rfl ?_
      refine aw_getI k16_6 hC_F_sidesAlsoOf fs_F_24 (by decide) ⟨(by first | assumption | decide), (by first | assumption | decide)⟩ rfl ?_
      rw [hm]
      refine aw_icmp_ge 35 k16_9 (by decide) (fun c_9 => ?_) (fun c_9 => ?_)
      · refine aw_iload_n k16_35 rfl ?_
        refine aw_ireturn k16_36 hR_F_sidesAlsoOf ?_ ?_
        exact ht; rfl
      · exact absurd (nI_leI (by omega) (by omega) |>.mpr (Nat.le_refl i)) c_9
    | succ k ih =>
      intro i t hi ht
      refine aw_iload_n k16_4 rfl ?_
      refine aw_aload_n k16_5 rfl ?_
      refine aw_getI k16_6 hC_F_sidesAlsoOf fs_F_24 (by decide) ⟨(by first | assumption | decide), (by first | assumption | decide)⟩ rfl ?_
      rw [hm]
      refine aw_icmp_ge 35 k16_9 (by decide) (fun c_9 => ?_) (fun c_9 => ?_)
      · exact absurd (nI_le_of c_9) (by omega)
      · refine aw_aload_n k16_12 rfl ?_
        refine aw_aload_n k16_13 rfl ?_
        refine aw_iload_n k16_14 rfl ?_
        refine aw_aload_n k16_15 rfl ?_
        refine aw_iload_n k16_16 rfl ?_
        refine aw_callV1 k16_17 hC_F_sidesAlsoOf ok_F_cornerAfter sv_F_32 hH_F_cornerAfter ⟨(by first | assumption | decide), (by first | assumption | decide)⟩ (by decide) hN_F_cornerAfter (by rw [hL_F_cornerAfter]; exact Nat.le_of_ble_eq_true rfl) (Nat.le_of_ble_eq_true rfl) (s_F_cornerAfter h (by omega)) ?_
        refine aw_callV3 k16_20 hC_F_sidesAlsoOf ok_F_hasSide sv_F_59 hH_F_hasSide ⟨(by first | assumption | decide), (by first | assumption | decide)⟩ (by decide) hN_F_hasSide (by rw [hL_F_hasSide]; exact Nat.le_of_ble_eq_true rfl) (Nat.le_of_ble_eq_true rfl) (s_F_hasSide h' hs hj (by omega) (nx_lt h12)) ?_
        rw [hpi]
        refine aw_if_eq 29 k16_23 (by decide) (fun c_23 => ?_) (fun c_23 => ?_)
        · refine aw_iinc (y := 1) k16_29 rfl (by decide) rfl ?_
          rw [nI_1]
          refine aw_goto (t := 4) k16_32 (by decide) ?_
          refine ih (i + 1) _ (by omega) ?_
          rw [ht]
          first | exact cntB_f (bI_0 c_23) | exact cntB_t (bI_1 c_23)
        · refine aw_iinc (y := 1) k16_26 rfl (by decide) rfl ?_
          refine aw_iinc (y := 1) k16_29 rfl (by decide) rfl ?_
          rw [nI_1]
          refine aw_goto (t := 4) k16_32 (by decide) ?_
          refine ih (i + 1) _ (by omega) ?_
          rw [ht]
          first | exact cntB_f (bI_0 c_23) | exact cntB_t (bI_1 c_23)
  refine aw_iconst (v := 0) k16_0 (by decide) ?_
  refine aw_istore_n k16_1 (Nat.le_of_ble_eq_true rfl) rfl ?_
  refine aw_iconst (v := 0) k16_2 (by decide) ?_
  refine aw_istore_n k16_3 (Nat.le_of_ble_eq_true rfl) rfl ?_
  exact loop m 0 _ (by omega) rfl
def sumL (t : Nat → Int64) : Nat → Int64
  | 0 => 0
  | n + 1 => sumL t n + t n
def crs (M : mM) (s j m i : Nat) : Int64 := (M (8, s, j) i).toInt64 * (M (9, s, j) (nx m i)).toInt64 - (M (9, s, j) i).toInt64 * (M (8, s, j) (nx m i)).toInt64
def twC (M : mM) (s j m : Nat) : Int64 := labs (sumL (crs M s j m) m)
theorem s_F_twiceByCorners {d s j m : Nat} {M : mM} (h : FdM M s j m) : CT iF_twiceByCorners (d + 2) [vR 0 s j] M (.inl (some (vL (twC M s j m)))) M 0 := by
  obtain ⟨hs, hj, hm, h12⟩ := id h
  refine ct_go hL_F_twiceByCorners rfl ?_
  have loop : ∀ (k i : Nat) (t : Int64) (z : Option mAV), i + k = m → t = sumL (crs M s j m) i → AW iF_twiceByCorners (d + 2) 4 [some (vR 0 s j), some (vL t), none, some (vI (nI i)), z] [] M (.inl (some (vL (twC M s j m)))) M 0 := by
    intro k
    induction k with
    | zero =>
      intro i t z hi ht
      obtain rfl : i = m := by omega
      subst ht
      refine aw_iload_n k19_4 rfl ?_
      refine aw_aload_n k19_5 rfl ?_
      refine aw_getI k19_6 hC_F_twiceByCorners fs_F_24 (by decide) ⟨(by first | assumption | decide), (by first | assumption | decide)⟩ rfl ?_
      rw [hm]
      refine aw_icmp_ge 57 k19_9 (by decide) (fun c_9 => ?_) (fun c_9 => ?_)
      · refine aw_lload_n k19_57 rfl ?_
        refine aw_callS1 k19_58 hC_F_twiceByCorners ok_J_absL ss_F_67 hH_J_absL (by rw [hL_J_absL]; exact Nat.le_of_ble_eq_true rfl) (Nat.le_of_ble_eq_true rfl) s_J_absL ?_
        refine aw_lreturn k19_61 hR_F_twiceByCorners ?_ ?_
        all_goals first | rfl | exact Or.inl rfl | exact Or.inr rfl | assumption | (simp_all; done) | ((repeat' split) <;> first | rfl | (simp only [Int32.lt_iff_toInt_lt, Int32.le_iff_toInt_le, Int64.lt_iff_toInt_lt, Int64.le_iff_toInt_le] at *; omega) | (simp_all; done))
      · exact absurd (nI_leI (by omega) (by omega) |>.mpr (Nat.le_refl i)) c_9
    | succ k ih =>
      intro i t z hi ht
      refine aw_iload_n k19_4 rfl ?_
      refine aw_aload_n k19_5 rfl ?_
      refine aw_getI k19_6 hC_F_twiceByCorners fs_F_24 (by decide) ⟨(by first | assumption | decide), (by first | assumption | decide)⟩ rfl ?_
      rw [hm]
      refine aw_icmp_ge 57 k19_9 (by decide) (fun c_9 => ?_) (fun c_9 => ?_)
      · exact absurd (nI_le_of c_9) (by omega)
      · refine aw_aload_n k19_12 rfl ?_
        refine aw_iload_n k19_13 rfl ?_
        refine aw_callV1 k19_14 hC_F_twiceByCorners ok_F_cornerAfter sv_F_32 hH_F_cornerAfter ⟨(by first | assumption | decide), (by first | assumption | decide)⟩ (by decide) hN_F_cornerAfter (by rw [hL_F_cornerAfter]; exact Nat.le_of_ble_eq_true rfl) (Nat.le_of_ble_eq_true rfl) (s_F_cornerAfter h (by omega)) ?_
        refine aw_istore k19_17 (Nat.le_of_ble_eq_true rfl) rfl ?_
        refine aw_lload_n k19_19 rfl ?_
        refine aw_aload_n k19_20 rfl ?_
        refine aw_iload_n k19_21 rfl ?_
        refine aw_callV1 k19_22 hC_F_twiceByCorners ok_F_eastAt sv_F_36 hH_F_eastAt ⟨(by first | assumption | decide), (by first | assumption | decide)⟩ (by decide) hN_F_eastAt (by rw [hL_F_eastAt]; exact Nat.le_of_ble_eq_true rfl) (Nat.le_of_ble_eq_true rfl) (s_F_eastAt hs hj (by omega)) ?_
        refine aw_i2l k19_25 ?_
        refine aw_aload_n k19_26 rfl ?_
        refine aw_iload k19_27 rfl ?_
        refine aw_callV1 k19_29 hC_F_twiceByCorners ok_F_northAt sv_F_39 hH_F_northAt ⟨(by first | assumption | decide), (by first | assumption | decide)⟩ (by decide) hN_F_northAt (by rw [hL_F_northAt]; exact Nat.le_of_ble_eq_true rfl) (Nat.le_of_ble_eq_true rfl) (s_F_northAt hs hj (nx_lt h12)) ?_
        refine aw_i2l k19_32 ?_
        refine aw_lmul k19_33 ?_
        refine aw_aload_n k19_34 rfl ?_
        refine aw_iload_n k19_35 rfl ?_
        refine aw_callV1 k19_36 hC_F_twiceByCorners ok_F_northAt sv_F_39 hH_F_northAt ⟨(by first | assumption | decide), (by first | assumption | decide)⟩ (by decide) hN_F_northAt (by rw [hL_F_northAt]; exact Nat.le_of_ble_eq_true rfl) (Nat.le_of_ble_eq_true rfl) (s_F_northAt hs hj (by omega)) ?_
        refine aw_i2l k19_39 ?_
        refine aw_aload_n k19_40 rfl ?_
        refine aw_iload k19_41 rfl ?_
        refine aw_callV1 k19_43 hC_F_twiceByCorners ok_F_eastAt sv_F_36 hH_F_eastAt ⟨(by first | assumption | decide), (by first | assumption | decide)⟩ (by decide) hN_F_eastAt (by rw [hL_F_eastAt]; exact Nat.le_of_ble_eq_true rfl) (Nat.le_of_ble_eq_true rfl) (s_F_eastAt hs hj (nx_lt h12)) ?_
        refine aw_i2l k19_46 ?_
        refine aw_lmul k19_47 ?_
        refine aw_lsub k19_48 ?_
        refine aw_ladd k19_49 ?_
        refine aw_lstore_n k19_50 (Nat.le_of_ble_eq_true rfl) rfl ?_
        refine aw_iinc (y := 1) k19_51 rfl (by decide) rfl ?_
        rw [nI_1]
        refine aw_goto (t := 4) k19_54 (by decide) ?_
        refine ih (i + 1) _ _ (by omega) ?_
        rw [ht]
        rfl
  refine aw_lconst (v := 0) k19_0 (by decide) ?_
  refine aw_lstore_n k19_1 (Nat.le_of_ble_eq_true rfl) rfl ?_
  refine aw_iconst (v := 0) k19_2 (by decide) ?_
  refine aw_istore_n k19_3 (Nat.le_of_ble_eq_true rfl) rfl ?_
  exact loop m 0 _ _ (by omega) rfl
def strp (M : mM) (s j m i : Nat) : Int64 := sdE M s j m i * ((M (9, s, j) i).toInt64 + (M (9, s, j) (nx m i)).toInt64)
def twS (M : mM) (s j m : Nat) : Int64 := labs (sumL (strp M s j m) m)
theorem s_F_twiceByStrips {d s j m : Nat} {M : mM} (h : FdM M s j m) : CT iF_twiceByStrips (d + 3) [vR 0 s j] M (.inl (some (vL (twS M s j m)))) M 0 := by
  obtain ⟨hs, hj, hm, h12⟩ := id h
  refine ct_go hL_F_twiceByStrips rfl ?_
  have loop : ∀ (k i : Nat) (t : Int64) (z z2 : Option mAV), i + k = m → t = sumL (strp M s j m) i → AW iF_twiceByStrips (d + 3) 4 [some (vR 0 s j), some (vL t), none, some (vI (nI i)), z, z2] [] M (.inl (some (vL (twS M s j m)))) M 0 := by
    intro k
    induction k with
    | zero =>
      intro i t z z2 hi ht
      obtain rfl : i = m := by omega
      subst ht
      refine aw_iload_n k20_4 rfl ?_
      refine aw_aload_n k20_5 rfl ?_
      refine aw_getI k20_6 hC_F_twiceByStrips fs_F_24 (by decide) ⟨(by first | assumption | decide), (by first | assumption | decide)⟩ rfl ?_
      rw [hm]
      refine aw_icmp_ge 48 k20_9 (by decide) (fun c_9 => ?_) (fun c_9 => ?_)
      · refine aw_lload_n k20_48 rfl ?_
        refine aw_callS1 k20_49 hC_F_twiceByStrips ok_J_absL ss_F_67 hH_J_absL (by rw [hL_J_absL]; exact Nat.le_of_ble_eq_true rfl) (Nat.le_of_ble_eq_true rfl) s_J_absL ?_
        refine aw_lreturn k20_52 hR_F_twiceByStrips ?_ ?_
        all_goals first | rfl | exact Or.inl rfl | exact Or.inr rfl | assumption | (simp_all; done) | ((repeat' split) <;> first | rfl | (simp only [Int32.lt_iff_toInt_lt, Int32.le_iff_toInt_le, Int64.lt_iff_toInt_lt, Int64.le_iff_toInt_le] at *; omega) | (simp_all; done))
      · exact absurd (nI_leI (by omega) (by omega) |>.mpr (Nat.le_refl i)) c_9
    | succ k ih =>
      intro i t z z2 hi ht
      refine aw_iload_n k20_4 rfl ?_
      refine aw_aload_n k20_5 rfl ?_
      refine aw_getI k20_6 hC_F_twiceByStrips fs_F_24 (by decide) ⟨(by first | assumption | decide), (by first | assumption | decide)⟩ rfl ?_
      rw [hm]
      refine aw_icmp_ge 48 k20_9 (by decide) (fun c_9 => ?_) (fun c_9 => ?_)
      · exact absurd (nI_le_of c_9) (by omega)
      · refine aw_aload_n k20_12 rfl ?_
        refine aw_iload_n k20_13 rfl ?_
        refine aw_callV1 k20_14 hC_F_twiceByStrips ok_F_northAt sv_F_39 hH_F_northAt ⟨(by first | assumption | decide), (by first | assumption | decide)⟩ (by decide) hN_F_northAt (by rw [hL_F_northAt]; exact Nat.le_of_ble_eq_true rfl) (Nat.le_of_ble_eq_true rfl) (s_F_northAt hs hj (by omega)) ?_
        refine aw_i2l k20_17 ?_
        refine aw_aload_n k20_18 rfl ?_
        refine aw_aload_n k20_19 rfl ?_
        refine aw_iload_n k20_20 rfl ?_
        refine aw_callV1 k20_21 hC_F_twiceByStrips ok_F_cornerAfter sv_F_32 hH_F_cornerAfter ⟨(by first | assumption | decide), (by first | assumption | decide)⟩ (by decide) hN_F_cornerAfter (by rw [hL_F_cornerAfter]; exact Nat.le_of_ble_eq_true rfl) (Nat.le_of_ble_eq_true rfl) (s_F_cornerAfter h (by omega)) ?_
        refine aw_callV1 k20_24 hC_F_twiceByStrips ok_F_northAt sv_F_39 hH_F_northAt ⟨(by first | assumption | decide), (by first | assumption | decide)⟩ (by decide) hN_F_northAt (by rw [hL_F_northAt]; exact Nat.le_of_ble_eq_true rfl) (Nat.le_of_ble_eq_true rfl) (s_F_northAt hs hj (nx_lt h12)) ?_
        refine aw_i2l k20_27 ?_
        refine aw_ladd k20_28 ?_
        refine aw_lstore k20_29 (Nat.le_of_ble_eq_true rfl) rfl ?_
        refine aw_lload_n k20_31 rfl ?_
        refine aw_aload_n k20_32 rfl ?_
        refine aw_iload_n k20_33 rfl ?_
        refine aw_callV1 k20_34 hC_F_twiceByStrips ok_F_sideEast sv_F_45 hH_F_sideEast ⟨(by first | assumption | decide), (by first | assumption | decide)⟩ (by decide) hN_F_sideEast (by rw [hL_F_sideEast]; exact Nat.le_of_ble_eq_true rfl) (Nat.le_of_ble_eq_true rfl) (s_F_sideEast h (by omega)) ?_
        refine aw_lload k20_37 rfl ?_
        refine aw_lmul k20_39 ?_
        refine aw_ladd k20_40 ?_
        refine aw_lstore_n k20_41 (Nat.le_of_ble_eq_true rfl) rfl ?_
        refine aw_iinc (y := 1) k20_42 rfl (by decide) rfl ?_
        rw [nI_1]
        refine aw_goto (t := 4) k20_45 (by decide) ?_
        refine ih (i + 1) _ _ _ (by omega) ?_
        rw [ht]
        rfl
  refine aw_lconst (v := 0) k20_0 (by decide) ?_
  refine aw_lstore_n k20_1 (Nat.le_of_ble_eq_true rfl) rfl ?_
  refine aw_iconst (v := 0) k20_2 (by decide) ?_
  refine aw_istore_n k20_3 (Nat.le_of_ble_eq_true rfl) rfl ?_
  exact loop m 0 _ _ _ (by omega) rfl
theorem s_F_area {d s j m : Nat} {M : mM} (h : FdM M s j m) : CT iF_area (d + 3) [vR 0 s j] M (.inl (some (vL (twC M s j m / 2)))) M 0 := by
  obtain ⟨hs, hj, hm, h12⟩ := id h
  refine ct_go hL_F_area rfl ?_
  refine aw_aload_n k21_0 rfl ?_
  refine aw_callV0 k21_1 hC_F_area ok_F_twiceByCorners sv_F_73 hH_F_twiceByCorners ⟨(by first | assumption | decide), (by first | assumption | decide)⟩ (by decide) hN_F_twiceByCorners (by rw [hL_F_twiceByCorners]; exact Nat.le_of_ble_eq_true rfl) (Nat.le_of_ble_eq_true rfl) (s_F_twiceByCorners h) ?_
  refine aw_ldc2_w k21_4 hC_F_area cl_F_77 ?_
  refine aw_ldiv k21_7 (by decide) ?_
  refine aw_lreturn k21_8 hR_F_area ?_ ?_
  all_goals first | rfl | exact Or.inl rfl | exact Or.inr rfl | assumption | (simp_all; done) | ((repeat' split) <;> first | rfl | (simp only [Int32.lt_iff_toInt_lt, Int32.le_iff_toInt_le, Int64.lt_iff_toInt_lt, Int64.le_iff_toInt_le] at *; omega) | (simp_all; done))
def minV (f : Nat → Int32) : Nat → Int32
  | 0 => f 0
  | n + 1 => if f (n + 1) < minV f n then f (n + 1) else minV f n
def maxV (f : Nat → Int32) : Nat → Int32
  | 0 => f 0
  | n + 1 => if maxV f n < f (n + 1) then f (n + 1) else maxV f n
theorem s_F_extentOf8 {d s j m : Nat} {M : mM} (h : FdM M s j (m + 1)) : CT iF_extentOf (d + 1) [vR 0 s j, vR 8 s j] M (.inl (some (vI (maxV (M (8, s, j)) m - minV (M (8, s, j)) m)))) M 0 := by
  obtain ⟨hs, hj, hm, h12⟩ := id h
  refine ct_go hL_F_extentOf rfl ?_
  have loop : ∀ (k i : Nat) (a b : Int32), i + k = m → a = minV (M (8, s, j)) i → b = maxV (M (8, s, j)) i → AW iF_extentOf (d + 1) 11 [some (vR 0 s j), some (vR 8 s j), some (vI a), some (vI b), some (vI (nI (i + 1)))] [] M (.inl (some (vI (maxV (M (8, s, j)) m - minV (M (8, s, j)) m)))) M 0 := by
    intro k
    induction k with
    | zero =>
      intro i a b hi ha hb
      obtain rfl : i = m := by omega
      subst ha
      subst hb
      refine aw_iload k24_11 rfl ?_
      refine aw_aload_n k24_13 rfl ?_
      refine aw_getI k24_14 hC_F_extentOf fs_F_24 (by decide) ⟨(by first | assumption | decide), (by first | assumption | decide)⟩ rfl ?_
      rw [hm]
      refine aw_icmp_ge 51 k24_17 (by decide) (fun c_17 => ?_) (fun c_17 => ?_)
      · refine aw_iload_n k24_51 rfl ?_
        refine aw_iload_n k24_52 rfl ?_
        refine aw_isub k24_53 ?_
        refine aw_ireturn k24_54 hR_F_extentOf ?_ ?_
        all_goals first | rfl | exact Or.inl rfl | exact Or.inr rfl | assumption | (simp_all; done) | ((repeat' split) <;> first | rfl | (simp only [Int32.lt_iff_toInt_lt, Int32.le_iff_toInt_le, Int64.lt_iff_toInt_lt, Int64.le_iff_toInt_le] at *; omega) | (simp_all; done))
      · exact absurd (nI_leI (by omega) (by omega) |>.mpr (Nat.le_refl _)) c_17
    | succ k ih =>
      intro i a b hi ha hb
      have hc : (nI (i + 1)).toNatClampNeg = i + 1 := nI_clamp (by omega)
      refine aw_iload k24_11 rfl ?_
      refine aw_aload_n k24_13 rfl ?_
      refine aw_getI k24_14 hC_F_extentOf fs_F_24 (by decide) ⟨(by first | assumption | decide), (by first | assumption | decide)⟩ rfl ?_
      rw [hm]
      refine aw_icmp_ge 51 k24_17 (by decide) (fun c_17 => ?_) (fun c_17 => ?_)
      · exact absurd (nI_le_of c_17) (by omega)
      · refine aw_iload k24_20 rfl ?_
        refine aw_aload_n k24_22 rfl ?_
        refine aw_alen k24_23 (by first | exact ⟨rfl, rfl⟩ | exact ⟨by assumption, rfl⟩ | exact ⟨by assumption, by assumption⟩ | exact ⟨rfl, by decide⟩ | exact ⟨by assumption, by decide⟩ | exact ⟨by decide, rfl⟩ | exact ⟨by decide, by decide⟩ | exact ⟨by decide, by assumption⟩ | assumption) (by first | rfl | assumption) ?_
        refine aw_icmp_ge 51 k24_24 (by decide) (fun c_24 => ?_) (fun c_24 => ?_)
        · exact absurd (nI_le_of (a := 12) c_24) (by omega)
        · refine aw_iload_n k24_27 rfl ?_
          refine aw_aload_n k24_28 rfl ?_
          refine aw_iload k24_29 rfl ?_
          refine aw_iaload k24_31 (by first | exact ⟨rfl, rfl⟩ | exact ⟨by assumption, rfl⟩ | exact ⟨by assumption, by assumption⟩ | exact ⟨rfl, by decide⟩ | exact ⟨by assumption, by decide⟩ | exact ⟨by decide, rfl⟩ | exact ⟨by decide, by decide⟩ | exact ⟨by decide, by assumption⟩ | assumption) (by first | rfl | assumption) (by first | rfl | assumption) (by first | assumption | (refine vp_in_nI ?_ ?_ <;> simp only [mLen] <;> omega)) ?_
          rw [hc]
          refine aw_callS2 k24_32 hC_F_extentOf ok_J_min ss_F_83 hH_J_min (by rw [hL_J_min]; exact Nat.le_of_ble_eq_true rfl) (Nat.le_of_ble_eq_true rfl) s_J_min ?_
          refine aw_istore_n k24_35 (Nat.le_of_ble_eq_true rfl) rfl ?_
          refine aw_iload_n k24_36 rfl ?_
          refine aw_aload_n k24_37 rfl ?_
          refine aw_iload k24_38 rfl ?_
          refine aw_iaload k24_40 (by first | exact ⟨rfl, rfl⟩ | exact ⟨by assumption, rfl⟩ | exact ⟨by assumption, by assumption⟩ | exact ⟨rfl, by decide⟩ | exact ⟨by assumption, by decide⟩ | exact ⟨by decide, rfl⟩ | exact ⟨by decide, by decide⟩ | exact ⟨by decide, by assumption⟩ | assumption) (by first | rfl | assumption) (by first | rfl | assumption) (by first | assumption | (refine vp_in_nI ?_ ?_ <;> simp only [mLen] <;> omega)) ?_
          rw [hc]
          refine aw_callS2 k24_41 hC_F_extentOf ok_J_max ss_F_87 hH_J_max (by rw [hL_J_max]; exact Nat.le_of_ble_eq_true rfl) (Nat.le_of_ble_eq_true rfl) s_J_max ?_
          refine aw_istore_n k24_44 (Nat.le_of_ble_eq_true rfl) rfl ?_
          refine aw_iinc (y := 1) k24_45 rfl (by decide) rfl ?_
          rw [nI_1]
          refine aw_goto (t := 11) k24_48 (by decide) ?_
          refine ih (i + 1) _ _ (by omega) ?_ ?_
          · rw [ha]
            rfl
          · rw [hb]
            rfl
  refine aw_aload_n k24_0 rfl ?_
  refine aw_iconst (v := 0) k24_1 (by decide) ?_
  refine aw_callN2 k24_2 hC_F_extentOf ok_A_cellOf sn_F_28 hH_A_cellOf (by rw [hL_A_cellOf]; exact Nat.le_of_ble_eq_true rfl) (Nat.le_of_ble_eq_true rfl) (s_A_cell8 (n := 0) hs hj (by omega)) ?_
  refine aw_istore_n k24_5 (Nat.le_of_ble_eq_true rfl) rfl ?_
  refine aw_iload_n k24_6 rfl ?_
  refine aw_istore_n k24_7 (Nat.le_of_ble_eq_true rfl) rfl ?_
  refine aw_iconst (v := 1) k24_8 (by decide) ?_
  refine aw_istore k24_9 (Nat.le_of_ble_eq_true rfl) rfl ?_
  exact loop m 0 _ _ (by omega) rfl rfl
theorem s_F_extentOf9 {d s j m : Nat} {M : mM} (h : FdM M s j (m + 1)) : CT iF_extentOf (d + 1) [vR 0 s j, vR 9 s j] M (.inl (some (vI (maxV (M (9, s, j)) m - minV (M (9, s, j)) m)))) M 0 := by
  obtain ⟨hs, hj, hm, h12⟩ := id h
  refine ct_go hL_F_extentOf rfl ?_
  have loop : ∀ (k i : Nat) (a b : Int32), i + k = m → a = minV (M (9, s, j)) i → b = maxV (M (9, s, j)) i → AW iF_extentOf (d + 1) 11 [some (vR 0 s j), some (vR 9 s j), some (vI a), some (vI b), some (vI (nI (i + 1)))] [] M (.inl (some (vI (maxV (M (9, s, j)) m - minV (M (9, s, j)) m)))) M 0 := by
    intro k
    induction k with
    | zero =>
      intro i a b hi ha hb
      obtain rfl : i = m := by omega
      subst ha
      subst hb
      refine aw_iload k24_11 rfl ?_
      refine aw_aload_n k24_13 rfl ?_
      refine aw_getI k24_14 hC_F_extentOf fs_F_24 (by decide) ⟨(by first | assumption | decide), (by first | assumption | decide)⟩ rfl ?_
      rw [hm]
      refine aw_icmp_ge 51 k24_17 (by decide) (fun c_17 => ?_) (fun c_17 => ?_)
      · refine aw_iload_n k24_51 rfl ?_
        refine aw_iload_n k24_52 rfl ?_
        refine aw_isub k24_53 ?_
        refine aw_ireturn k24_54 hR_F_extentOf ?_ ?_
        all_goals first | rfl | exact Or.inl rfl | exact Or.inr rfl | assumption | (simp_all; done) | ((repeat' split) <;> first | rfl | (simp only [Int32.lt_iff_toInt_lt, Int32.le_iff_toInt_le, Int64.lt_iff_toInt_lt, Int64.le_iff_toInt_le] at *; omega) | (simp_all; done))
      · exact absurd (nI_leI (by omega) (by omega) |>.mpr (Nat.le_refl _)) c_17
    | succ k ih =>
      intro i a b hi ha hb
      have hc : (nI (i + 1)).toNatClampNeg = i + 1 := nI_clamp (by omega)
      refine aw_iload k24_11 rfl ?_
      refine aw_aload_n k24_13 rfl ?_
      refine aw_getI k24_14 hC_F_extentOf fs_F_24 (by decide) ⟨(by first | assumption | decide), (by first | assumption | decide)⟩ rfl ?_
      rw [hm]
      refine aw_icmp_ge 51 k24_17 (by decide) (fun c_17 => ?_) (fun c_17 => ?_)
      · exact absurd (nI_le_of c_17) (by omega)
      · refine aw_iload k24_20 rfl ?_
        refine aw_aload_n k24_22 rfl ?_
        refine aw_alen k24_23 (by first | exact ⟨rfl, rfl⟩ | exact ⟨by assumption, rfl⟩ | exact ⟨by assumption, by assumption⟩ | exact ⟨rfl, by decide⟩ | exact ⟨by assumption, by decide⟩ | exact ⟨by decide, rfl⟩ | exact ⟨by decide, by decide⟩ | exact ⟨by decide, by assumption⟩ | assumption) (by first | rfl | assumption) ?_
        refine aw_icmp_ge 51 k24_24 (by decide) (fun c_24 => ?_) (fun c_24 => ?_)
        · exact absurd (nI_le_of (a := 12) c_24) (by omega)
        · refine aw_iload_n k24_27 rfl ?_
          refine aw_aload_n k24_28 rfl ?_
          refine aw_iload k24_29 rfl ?_
          refine aw_iaload k24_31 (by first | exact ⟨rfl, rfl⟩ | exact ⟨by assumption, rfl⟩ | exact ⟨by assumption, by assumption⟩ | exact ⟨rfl, by decide⟩ | exact ⟨by assumption, by decide⟩ | exact ⟨by decide, rfl⟩ | exact ⟨by decide, by decide⟩ | exact ⟨by decide, by assumption⟩ | assumption) (by first | rfl | assumption) (by first | rfl | assumption) (by first | assumption | (refine vp_in_nI ?_ ?_ <;> simp only [mLen] <;> omega)) ?_
          rw [hc]
          refine aw_callS2 k24_32 hC_F_extentOf ok_J_min ss_F_83 hH_J_min (by rw [hL_J_min]; exact Nat.le_of_ble_eq_true rfl) (Nat.le_of_ble_eq_true rfl) s_J_min ?_
          refine aw_istore_n k24_35 (Nat.le_of_ble_eq_true rfl) rfl ?_
          refine aw_iload_n k24_36 rfl ?_
          refine aw_aload_n k24_37 rfl ?_
          refine aw_iload k24_38 rfl ?_
          refine aw_iaload k24_40 (by first | exact ⟨rfl, rfl⟩ | exact ⟨by assumption, rfl⟩ | exact ⟨by assumption, by assumption⟩ | exact ⟨rfl, by decide⟩ | exact ⟨by assumption, by decide⟩ | exact ⟨by decide, rfl⟩ | exact ⟨by decide, by decide⟩ | exact ⟨by decide, by assumption⟩ | assumption) (by first | rfl | assumption) (by first | rfl | assumption) (by first | assumption | (refine vp_in_nI ?_ ?_ <;> simp only [mLen] <;> omega)) ?_
          rw [hc]
          refine aw_callS2 k24_41 hC_F_extentOf ok_J_max ss_F_87 hH_J_max (by rw [hL_J_max]; exact Nat.le_of_ble_eq_true rfl) (Nat.le_of_ble_eq_true rfl) s_J_max ?_
          refine aw_istore_n k24_44 (Nat.le_of_ble_eq_true rfl) rfl ?_
          refine aw_iinc (y := 1) k24_45 rfl (by decide) rfl ?_
          rw [nI_1]
          refine aw_goto (t := 11) k24_48 (by decide) ?_
          refine ih (i + 1) _ _ (by omega) ?_ ?_
          · rw [ha]
            rfl
          · rw [hb]
            rfl
  refine aw_aload_n k24_0 rfl ?_
  refine aw_iconst (v := 0) k24_1 (by decide) ?_
  refine aw_callN2 k24_2 hC_F_extentOf ok_A_cellOf sn_F_28 hH_A_cellOf (by rw [hL_A_cellOf]; exact Nat.le_of_ble_eq_true rfl) (Nat.le_of_ble_eq_true rfl) (s_A_cell9 (n := 0) hs hj (by omega)) ?_
  refine aw_istore_n k24_5 (Nat.le_of_ble_eq_true rfl) rfl ?_
  refine aw_iload_n k24_6 rfl ?_
  refine aw_istore_n k24_7 (Nat.le_of_ble_eq_true rfl) rfl ?_
  refine aw_iconst (v := 1) k24_8 (by decide) ?_
  refine aw_istore k24_9 (Nat.le_of_ble_eq_true rfl) rfl ?_
  exact loop m 0 _ _ (by omega) rfl rfl
theorem s_F_extentEast {d s j m : Nat} {M : mM} (h : FdM M s j (m + 1)) : CT iF_extentEast (d + 2) [vR 0 s j] M (.inl (some (vI (maxV (M (8, s, j)) m - minV (M (8, s, j)) m)))) M 0 := by
  obtain ⟨hs, hj, hm, h12⟩ := id h
  refine ct_go hL_F_extentEast rfl ?_
  refine aw_aload_n k22_0 rfl ?_
  refine aw_aload_n k22_1 rfl ?_
  refine aw_getR k22_2 hC_F_extentEast fs_F_9 (by decide) ⟨(by first | assumption | decide), (by first | assumption | decide)⟩ rfl ?_
  refine aw_callV1 k22_5 hC_F_extentEast ok_F_extentOf sv_F_79 hH_F_extentOf ⟨(by first | assumption | decide), (by first | assumption | decide)⟩ (by decide) hN_F_extentOf (by rw [hL_F_extentOf]; exact Nat.le_of_ble_eq_true rfl) (Nat.le_of_ble_eq_true rfl) (s_F_extentOf8 h) ?_
  refine aw_ireturn k22_8 hR_F_extentEast ?_ ?_
  all_goals first | rfl | exact Or.inl rfl | exact Or.inr rfl | assumption | (simp_all; done) | ((repeat' split) <;> first | rfl | (simp only [Int32.lt_iff_toInt_lt, Int32.le_iff_toInt_le, Int64.lt_iff_toInt_lt, Int64.le_iff_toInt_le] at *; omega) | (simp_all; done))
theorem s_F_extentNorth {d s j m : Nat} {M : mM} (h : FdM M s j (m + 1)) : CT iF_extentNorth (d + 2) [vR 0 s j] M (.inl (some (vI (maxV (M (9, s, j)) m - minV (M (9, s, j)) m)))) M 0 := by
  obtain ⟨hs, hj, hm, h12⟩ := id h
  refine ct_go hL_F_extentNorth rfl ?_
  refine aw_aload_n k23_0 rfl ?_
  refine aw_aload_n k23_1 rfl ?_
  refine aw_getR k23_2 hC_F_extentNorth fs_F_15 (by decide) ⟨(by first | assumption | decide), (by first | assumption | decide)⟩ rfl ?_
  refine aw_callV1 k23_5 hC_F_extentNorth ok_F_extentOf sv_F_79 hH_F_extentOf ⟨(by first | assumption | decide), (by first | assumption | decide)⟩ (by decide) hN_F_extentOf (by rw [hL_F_extentOf]; exact Nat.le_of_ble_eq_true rfl) (Nat.le_of_ble_eq_true rfl) (s_F_extentOf9 h) ?_
  refine aw_ireturn k23_8 hR_F_extentNorth ?_ ?_
  all_goals first | rfl | exact Or.inl rfl | exact Or.inr rfl | assumption | (simp_all; done) | ((repeat' split) <;> first | rfl | (simp only [Int32.lt_iff_toInt_lt, Int32.le_iff_toInt_le, Int64.lt_iff_toInt_lt, Int64.le_iff_toInt_le] at *; omega) | (simp_all; done))
def fCopy (M : mM) (s j s' j' : Nat) : mM :=
  let M1 := mCpy (mCpy M (8, s', j') (8, s, j) 12) (9, s', j') (9, s, j) 12
  mUp M1 (0, s, j) 2 (M1 (0, s', j') 2)
theorem s_F_copyFrom {d s j s' j' : Nat} {M : mM} (hs : s < 7) (hj : j < 6) (hs' : s' < 7) (hj' : j' < 6) : CT iF_copyFrom (d + 1) [vR 0 s j, vR 0 s' j'] M (.inl none) (fCopy M s j s' j') 0 := by
  refine ct_go hL_F_copyFrom rfl ?_
  refine aw_aload_n k1_0 rfl ?_
  refine aw_getR k1_1 hC_F_copyFrom fs_F_9 (by decide) ⟨(by first | assumption | decide), (by first | assumption | decide)⟩ rfl ?_
  refine aw_iconst (v := 0) k1_4 (by decide) ?_
  refine aw_aload_n k1_5 rfl ?_
  refine aw_getR k1_6 hC_F_copyFrom fs_F_9 (by decide) ⟨(by first | assumption | decide), (by first | assumption | decide)⟩ rfl ?_
  refine aw_iconst (v := 0) k1_9 (by decide) ?_
  refine aw_bipush (v := 12) k1_10 (by decide) ?_
  refine aw_acopy (k := 12) k1_12 hC_F_copyFrom ac_F_18 hAC (by first | exact ⟨rfl, rfl⟩ | exact ⟨by assumption, rfl⟩ | exact ⟨by assumption, by assumption⟩ | exact ⟨rfl, by decide⟩ | exact ⟨by assumption, by decide⟩ | exact ⟨by decide, rfl⟩ | exact ⟨by decide, by decide⟩ | exact ⟨by decide, by assumption⟩ | assumption) (by first | exact ⟨rfl, rfl⟩ | exact ⟨by assumption, rfl⟩ | exact ⟨by assumption, by assumption⟩ | exact ⟨rfl, by decide⟩ | exact ⟨by assumption, by decide⟩ | exact ⟨by decide, rfl⟩ | exact ⟨by decide, by decide⟩ | exact ⟨by decide, by assumption⟩ | assumption) rfl rfl rfl rfl (Nat.le_of_ble_eq_true rfl) (Nat.le_of_ble_eq_true rfl) (by decide) (Nat.le_of_ble_eq_true rfl) ?_
  refine aw_aload_n k1_15 rfl ?_
  refine aw_getR k1_16 hC_F_copyFrom fs_F_15 (by decide) ⟨(by first | assumption | decide), (by first | assumption | decide)⟩ rfl ?_
  refine aw_iconst (v := 0) k1_19 (by decide) ?_
  refine aw_aload_n k1_20 rfl ?_
  refine aw_getR k1_21 hC_F_copyFrom fs_F_15 (by decide) ⟨(by first | assumption | decide), (by first | assumption | decide)⟩ rfl ?_
  refine aw_iconst (v := 0) k1_24 (by decide) ?_
  refine aw_bipush (v := 12) k1_25 (by decide) ?_
  refine aw_acopy (k := 12) k1_27 hC_F_copyFrom ac_F_18 hAC (by first | exact ⟨rfl, rfl⟩ | exact ⟨by assumption, rfl⟩ | exact ⟨by assumption, by assumption⟩ | exact ⟨rfl, by decide⟩ | exact ⟨by assumption, by decide⟩ | exact ⟨by decide, rfl⟩ | exact ⟨by decide, by decide⟩ | exact ⟨by decide, by assumption⟩ | assumption) (by first | exact ⟨rfl, rfl⟩ | exact ⟨by assumption, rfl⟩ | exact ⟨by assumption, by assumption⟩ | exact ⟨rfl, by decide⟩ | exact ⟨by assumption, by decide⟩ | exact ⟨by decide, rfl⟩ | exact ⟨by decide, by decide⟩ | exact ⟨by decide, by assumption⟩ | assumption) rfl rfl rfl rfl (Nat.le_of_ble_eq_true rfl) (Nat.le_of_ble_eq_true rfl) (by decide) (Nat.le_of_ble_eq_true rfl) ?_
  refine aw_aload_n k1_30 rfl ?_
  refine aw_aload_n k1_31 rfl ?_
  refine aw_getI k1_32 hC_F_copyFrom fs_F_24 (by decide) ⟨(by first | assumption | decide), (by first | assumption | decide)⟩ rfl ?_
  refine aw_putI k1_35 hC_F_copyFrom fs_F_24 (by decide) ⟨(by first | assumption | decide), (by first | assumption | decide)⟩ rfl po_0_2 ?_
  refine aw_return k1_38 hR_F_copyFrom ?_
  all_goals first | rfl | exact Or.inl rfl | exact Or.inr rfl | assumption | (simp_all; done) | ((repeat' split) <;> first | rfl | (simp only [Int32.lt_iff_toInt_lt, Int32.le_iff_toInt_le, Int64.lt_iff_toInt_lt, Int64.le_iff_toInt_le] at *; omega) | (simp_all; done))
theorem s_F_dropCorners {d s j : Nat} {M : mM} (hs : s < 7) (hj : j < 6) : CT iF_dropCorners d [vR 0 s j] M (.inl none) (mUp M (0, s, j) 2 0) 0 := by
  refine ct_go hL_F_dropCorners rfl ?_
  refine aw_aload_n k2_0 rfl ?_
  refine aw_iconst (v := 0) k2_1 (by decide) ?_
  refine aw_putI k2_2 hC_F_dropCorners fs_F_24 (by decide) ⟨(by first | assumption | decide), (by first | assumption | decide)⟩ rfl po_0_2 ?_
  refine aw_return k2_5 hR_F_dropCorners ?_
  all_goals first | rfl | exact Or.inl rfl | exact Or.inr rfl | assumption | (simp_all; done) | ((repeat' split) <;> first | rfl | (simp only [Int32.lt_iff_toInt_lt, Int32.le_iff_toInt_le, Int64.lt_iff_toInt_lt, Int64.le_iff_toInt_le] at *; omega) | (simp_all; done))
def fApp (M : mM) (s j m : Nat) (x y : Int32) : mM := mUp (mUp (mUp M (8, s, j) m x) (9, s, j) m y) (0, s, j) 2 (nI (m + 1))
theorem s_F_appendCorner {d s j m : Nat} {M : mM} {x y : Int32} (h : FdM M s j m) (hm12 : m < 12) : CT iF_appendCorner d [vR 0 s j, vI x, vI y] M (.inl none) (fApp M s j m x y) 0 := by
  obtain ⟨hs, hj, hm, h12⟩ := id h
  refine ct_go hL_F_appendCorner rfl ?_
  have h0 : ¬ nI m < 0 := nI_pos (by omega)
  have hlt : nI m < 12 := nI_lt (a := m) (b := 12) hm12 (by omega)
  have hc : (nI m).toNatClampNeg = m := nI_clamp (by omega)
  have g8 : ∀ (M : mM) (w : Nat) (v : Int32), mUp M (8, s, j) w v (0, s, j) 2 = M (0, s, j) 2 := fun M w v => by rw [mUp_ne (by simp)]
  have g9 : ∀ (M : mM) (w : Nat) (v : Int32), mUp M (9, s, j) w v (0, s, j) 2 = M (0, s, j) 2 := fun M w v => by rw [mUp_ne (by simp)]
  refine aw_aload_n k3_0 rfl ?_
  refine aw_getI k3_1 hC_F_appendCorner fs_F_24 (by decide) ⟨(by first | assumption | decide), (by first | assumption | decide)⟩ rfl ?_
  try simp only [g8, g9, hm, hc]
  refine aw_if_lt 16 k3_4 (by decide) (fun c_4 => ?_) (fun c_4 => ?_)
  · exact absurd c_4 h0
  · refine aw_aload_n k3_7 rfl ?_
    refine aw_getI k3_8 hC_F_appendCorner fs_F_24 (by decide) ⟨(by first | assumption | decide), (by first | assumption | decide)⟩ rfl ?_
    try simp only [g8, g9, hm, hc]
    refine aw_bipush (v := 12) k3_11 (by decide) ?_
    refine aw_icmp_lt 17 k3_13 (by decide) (fun c_13 => ?_) (fun c_13 => ?_)
    · refine aw_aload_n k3_17 rfl ?_
      refine aw_getR k3_18 hC_F_appendCorner fs_F_9 (by decide) ⟨(by first | assumption | decide), (by first | assumption | decide)⟩ rfl ?_
      try simp only [g8, g9, hm, hc]
      refine aw_aload_n k3_21 rfl ?_
      refine aw_getI k3_22 hC_F_appendCorner fs_F_24 (by decide) ⟨(by first | assumption | decide), (by first | assumption | decide)⟩ rfl ?_
      try simp only [g8, g9, hm, hc]
      refine aw_iload_n k3_25 rfl ?_
      refine aw_iastore k3_26 (by first | exact ⟨rfl, rfl⟩ | exact ⟨by assumption, rfl⟩ | exact ⟨by assumption, by assumption⟩ | exact ⟨rfl, by decide⟩ | exact ⟨by assumption, by decide⟩ | exact ⟨by decide, rfl⟩ | exact ⟨by decide, by decide⟩ | exact ⟨by decide, by assumption⟩ | assumption) (by first | rfl | assumption) (by first | rfl | assumption) (by first | assumption | (refine vp_in_nI ?_ ?_ <;> simp only [mLen] <;> omega)) ?_
      try simp only [g8, g9, hm, hc]
      refine aw_aload_n k3_27 rfl ?_
      refine aw_getR k3_28 hC_F_appendCorner fs_F_15 (by decide) ⟨(by first | assumption | decide), (by first | assumption | decide)⟩ rfl ?_
      try simp only [g8, g9, hm, hc]
      refine aw_aload_n k3_31 rfl ?_
      refine aw_getI k3_32 hC_F_appendCorner fs_F_24 (by decide) ⟨(by first | assumption | decide), (by first | assumption | decide)⟩ rfl ?_
      try simp only [g8, g9, hm, hc]
      refine aw_iload_n k3_35 rfl ?_
      refine aw_iastore k3_36 (by first | exact ⟨rfl, rfl⟩ | exact ⟨by assumption, rfl⟩ | exact ⟨by assumption, by assumption⟩ | exact ⟨rfl, by decide⟩ | exact ⟨by assumption, by decide⟩ | exact ⟨by decide, rfl⟩ | exact ⟨by decide, by decide⟩ | exact ⟨by decide, by assumption⟩ | assumption) (by first | rfl | assumption) (by first | rfl | assumption) (by first | assumption | (refine vp_in_nI ?_ ?_ <;> simp only [mLen] <;> omega)) ?_
      try simp only [g8, g9, hm, hc]
      refine aw_aload_n k3_37 rfl ?_
      first | refine aw_dupI k3_38 ?_ | refine aw_dupR k3_38 ?_
      refine aw_getI k3_39 hC_F_appendCorner fs_F_24 (by decide) ⟨(by first | assumption | decide), (by first | assumption | decide)⟩ rfl ?_
      try simp only [g8, g9, hm, hc]
      refine aw_iconst (v := 1) k3_42 (by decide) ?_
      refine aw_iadd k3_43 ?_
      rw [nI_1]
      refine aw_putI k3_44 hC_F_appendCorner fs_F_24 (by decide) ⟨(by first | assumption | decide), (by first | assumption | decide)⟩ rfl po_0_2 ?_
      try simp only [g8, g9, hm, hc]
      refine aw_return k3_47 hR_F_appendCorner ?_
      all_goals first | rfl | exact Or.inl rfl | exact Or.inr rfl | assumption | (simp_all; done) | ((repeat' split) <;> first | rfl | (simp only [Int32.lt_iff_toInt_lt, Int32.le_iff_toInt_le, Int64.lt_iff_toInt_lt, Int64.le_iff_toInt_le] at *; omega) | (simp_all; done))
    · exact absurd hlt c_13
theorem s_F_hasCorner {d s j : Nat} {M : mM} {x : Int32} (hs : s < 7) (hj : j < 6) : CT iF_hasCorner d [vR 0 s j, vI x] M (.inl (some (vI (if 0 ≤ x ∧ x < M (0, s, j) 2 then 1 else 0)))) M 0 := by
  refine ct_go hL_F_hasCorner rfl ?_
  refine aw_iload_n k4_0 rfl ?_
  refine aw_if_lt 16 k4_1 (by decide) (fun c_1 => ?_) (fun c_1 => ?_)
  · refine aw_iconst (v := 0) k4_16 (by decide) ?_
    refine aw_zreturn k4_17 hR_F_hasCorner ?_ ?_ ?_
    all_goals first | rfl | exact Or.inl rfl | exact Or.inr rfl | assumption | (simp_all; done) | ((repeat' split) <;> first | rfl | (simp only [Int32.lt_iff_toInt_lt, Int32.le_iff_toInt_le, Int64.lt_iff_toInt_lt, Int64.le_iff_toInt_le] at *; omega) | (simp_all; done))
  · refine aw_iload_n k4_4 rfl ?_
    refine aw_aload_n k4_5 rfl ?_
    refine aw_getI k4_6 hC_F_hasCorner fs_F_24 (by decide) ⟨(by first | assumption | decide), (by first | assumption | decide)⟩ rfl ?_
    refine aw_icmp_ge 16 k4_9 (by decide) (fun c_9 => ?_) (fun c_9 => ?_)
    · refine aw_iconst (v := 0) k4_16 (by decide) ?_
      refine aw_zreturn k4_17 hR_F_hasCorner ?_ ?_ ?_
      all_goals first | rfl | exact Or.inl rfl | exact Or.inr rfl | assumption | (simp_all; done) | ((repeat' split) <;> first | rfl | (simp only [Int32.lt_iff_toInt_lt, Int32.le_iff_toInt_le, Int64.lt_iff_toInt_lt, Int64.le_iff_toInt_le] at *; omega) | (simp_all; done))
    · refine aw_iconst (v := 1) k4_12 (by decide) ?_
      refine aw_goto (t := 17) k4_13 (by decide) ?_
      refine aw_zreturn k4_17 hR_F_hasCorner ?_ ?_ ?_
      all_goals first | rfl | exact Or.inl rfl | exact Or.inr rfl | assumption | (simp_all; done) | ((repeat' split) <;> first | rfl | (simp only [Int32.lt_iff_toInt_lt, Int32.le_iff_toInt_le, Int64.lt_iff_toInt_lt, Int64.le_iff_toInt_le] at *; omega) | (simp_all; done))
