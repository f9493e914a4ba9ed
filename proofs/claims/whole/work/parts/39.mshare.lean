/-! THE MODEL: the shared sides -/
theorem s_M_isSame {d i k m i' k' m' : Nat} {M : mM} {a b a' b' : Int32} (ha : CT iM_part (d + 1) [vR 6 0 0, vI (nI i), vI (nI k), vI 0] M (.inl (some (vI a))) M 0) (hb : CT iM_part (d + 1) [vR 6 0 0, vI (nI i), vI (nI k), vI 1] M (.inl (some (vI b))) M 0) (ha' : CT iM_part (d + 1) [vR 6 0 0, vI (nI i'), vI (nI k'), vI 0] M (.inl (some (vI a'))) M 0) (hb' : CT iM_part (d + 1) [vR 6 0 0, vI (nI i'), vI (nI k'), vI 1] M (.inl (some (vI b'))) M 0) : CT iM_isSame (d + 2) [vR 6 0 0, vI (nI i), vI (nI k), vI (nI i'), vI (nI k')] M (.inl (some (vI (bI (decide (a = a') && decide (b = b')))))) M 0 := by
  refine ct_go hL_M_isSame rfl ?_
  refine aw_aload_n k134_0 rfl ?_
  refine aw_iload_n k134_1 rfl ?_
  refine aw_iload_n k134_2 rfl ?_
  refine aw_iconst (v := 0) k134_3 (by decide) ?_
  refine aw_callV3 k134_4 hC_M_isSame ok_M_part sv_M_61 hH_M_part ⟨rfl, rfl⟩ (by decide) hN_M_part (by rw [hL_M_part]; exact Nat.le_of_ble_eq_true rfl) (Nat.le_of_ble_eq_true rfl) ha ?_
  refine aw_aload_n k134_7 rfl ?_
  refine aw_iload_n k134_8 rfl ?_
  refine aw_iload k134_9 rfl ?_
  refine aw_iconst (v := 0) k134_11 (by decide) ?_
  refine aw_callV3 k134_12 hC_M_isSame ok_M_part sv_M_61 hH_M_part ⟨rfl, rfl⟩ (by decide) hN_M_part (by rw [hL_M_part]; exact Nat.le_of_ble_eq_true rfl) (Nat.le_of_ble_eq_true rfl) ha' ?_
  refine aw_icmp_ne 40 k134_15 (by decide) (fun c_15 => ?_) (fun c_15 => ?_)
  · refine aw_iconst (v := 0) k134_40 (by decide) ?_
    refine aw_zreturn k134_41 hR_M_isSame ?_ ?_ ?_
    · first | exact Or.inl rfl | exact Or.inr rfl
    · first | exact bI_t (and_t (decide_eq_true c_15) (decide_eq_true c_33)) | exact bI_f (and_f2 (decide_eq_false c_33)) | exact bI_f (and_f1 (decide_eq_false c_15))
    · rfl
  · refine aw_aload_n k134_18 rfl ?_
    refine aw_iload_n k134_19 rfl ?_
    refine aw_iload_n k134_20 rfl ?_
    refine aw_iconst (v := 1) k134_21 (by decide) ?_
    refine aw_callV3 k134_22 hC_M_isSame ok_M_part sv_M_61 hH_M_part ⟨rfl, rfl⟩ (by decide) hN_M_part (by rw [hL_M_part]; exact Nat.le_of_ble_eq_true rfl) (Nat.le_of_ble_eq_true rfl) hb ?_
    refine aw_aload_n k134_25 rfl ?_
    refine aw_iload_n k134_26 rfl ?_
    refine aw_iload k134_27 rfl ?_
    refine aw_iconst (v := 1) k134_29 (by decide) ?_
    refine aw_callV3 k134_30 hC_M_isSame ok_M_part sv_M_61 hH_M_part ⟨rfl, rfl⟩ (by decide) hN_M_part (by rw [hL_M_part]; exact Nat.le_of_ble_eq_true rfl) (Nat.le_of_ble_eq_true rfl) hb' ?_
    refine aw_icmp_ne 40 k134_33 (by decide) (fun c_33 => ?_) (fun c_33 => ?_)
    · refine aw_iconst (v := 0) k134_40 (by decide) ?_
      refine aw_zreturn k134_41 hR_M_isSame ?_ ?_ ?_
      · first | exact Or.inl rfl | exact Or.inr rfl
      · first | exact bI_t (and_t (decide_eq_true c_15) (decide_eq_true c_33)) | exact bI_f (and_f2 (decide_eq_false c_33)) | exact bI_f (and_f1 (decide_eq_false c_15))
      · rfl
    · refine aw_iconst (v := 1) k134_36 (by decide) ?_
      refine aw_goto (t := 41) k134_37 (by decide) ?_
      refine aw_zreturn k134_41 hR_M_isSame ?_ ?_ ?_
      · first | exact Or.inl rfl | exact Or.inr rfl
      · first | exact bI_t (and_t (decide_eq_true c_15) (decide_eq_true c_33)) | exact bI_f (and_f2 (decide_eq_false c_33)) | exact bI_f (and_f1 (decide_eq_false c_15))
      · rfl
theorem sam {d i k m i' k' m' : Nat} {M : mM} (h : FM (M (13, 0, 0)) i m) (h' : FM (M (13, 0, 0)) i' m') (hk : k < m) (hk' : k' < m') : CT iM_isSame (d + 2) [vR 6 0 0, vI (nI i), vI (nI k), vI (nI i'), vI (nI k')] M (.inl (some (vI (bI (smG (cW (M (13, 0, 0)) i 0) (cW (M (13, 0, 0)) i 1) (cW (M (13, 0, 0)) i' 0) (cW (M (13, 0, 0)) i' 1) k k'))))) M 0 :=
  s_M_isSame (m := m) (m' := m') (p_at (w := 0) h hk (by decide)) (p_at (w := 1) h hk (by decide)) (p_at (w := 0) h' hk' (by decide)) (p_at (w := 1) h' hk' (by decide))
theorem sam01 {d i k m i' k' m' : Nat} {M : mM} (h : FM (M (13, 0, 0)) i m) (h' : FM (M (13, 0, 0)) i' m') (hk : k < m) (hk' : k' < m') : CT iM_isSame (d + 2) [vR 6 0 0, vI (nI i), vI (nI k), vI (nI i'), vI (nI (k' + 1))] M (.inl (some (vI (bI (smG (cW (M (13, 0, 0)) i 0) (cW (M (13, 0, 0)) i 1) (cW (M (13, 0, 0)) i' 0) (cW (M (13, 0, 0)) i' 1) k (nx m' k')))))) M 0 :=
  s_M_isSame (m := m) (m' := m') (p_at (w := 0) h hk (by decide)) (p_at (w := 1) h hk (by decide)) (p_nx (w := 0) h' hk' (by decide)) (p_nx (w := 1) h' hk' (by decide))
theorem sam10 {d i k m i' k' m' : Nat} {M : mM} (h : FM (M (13, 0, 0)) i m) (h' : FM (M (13, 0, 0)) i' m') (hk : k < m) (hk' : k' < m') : CT iM_isSame (d + 2) [vR 6 0 0, vI (nI i), vI (nI (k + 1)), vI (nI i'), vI (nI k')] M (.inl (some (vI (bI (smG (cW (M (13, 0, 0)) i 0) (cW (M (13, 0, 0)) i 1) (cW (M (13, 0, 0)) i' 0) (cW (M (13, 0, 0)) i' 1) (nx m k) k'))))) M 0 :=
  s_M_isSame (m := m) (m' := m') (p_nx (w := 0) h hk (by decide)) (p_nx (w := 1) h hk (by decide)) (p_at (w := 0) h' hk' (by decide)) (p_at (w := 1) h' hk' (by decide))
theorem sam11 {d i k m i' k' m' : Nat} {M : mM} (h : FM (M (13, 0, 0)) i m) (h' : FM (M (13, 0, 0)) i' m') (hk : k < m) (hk' : k' < m') : CT iM_isSame (d + 2) [vR 6 0 0, vI (nI i), vI (nI (k + 1)), vI (nI i'), vI (nI (k' + 1))] M (.inl (some (vI (bI (smG (cW (M (13, 0, 0)) i 0) (cW (M (13, 0, 0)) i 1) (cW (M (13, 0, 0)) i' 0) (cW (M (13, 0, 0)) i' 1) (nx m k) (nx m' k')))))) M 0 :=
  s_M_isSame (m := m) (m' := m') (p_nx (w := 0) h hk (by decide)) (p_nx (w := 1) h hk (by decide)) (p_nx (w := 0) h' hk' (by decide)) (p_nx (w := 1) h' hk' (by decide))
/-- the side k of i is the side j of i' -/
def shB (f : Nat → Int32) (i m i' m' k j : Nat) : Bool :=
  (smG (cW f i 0) (cW f i 1) (cW f i' 0) (cW f i' 1) k j && smG (cW f i 0) (cW f i 1) (cW f i' 0) (cW f i' 1) (nx m k) (nx m' j)) || (smG (cW f i 0) (cW f i 1) (cW f i' 0) (cW f i' 1) k (nx m' j) && smG (cW f i 0) (cW f i 1) (cW f i' 0) (cW f i' 1) (nx m k) j)
theorem smG_s {X Y Z W : Nat → Int32} {i j : Nat} : smG X Y Z W i j = smG Z W X Y j i := by
  unfold smG
  rw [decide_eq_decide.mpr (eq_comm (a := X i)), decide_eq_decide.mpr (eq_comm (a := Y i))]
theorem shB_eq {f : Nat → Int32} {i m i' m' k j : Nat} : shB f i m i' m' k j = sdG (fX f i') (fY f i') (fX f i) (fY f i) m' k (nx m k) j := by
  unfold shB sdG
  rw [cW0, cW1, cW0, cW1, smG_s (i := k), smG_s (i := nx m k), smG_s (i := k), smG_s (i := nx m k) (j := j)]
  congr 1
  exact Bool.and_comm _ _
theorem anyB_s {p : Nat → Bool} {n : Nat} : anyB p (n + 1) = (anyB p n || p n) := rfl
theorem s_M_isShared {d i m i' m' k : Nat} {M : mM} (h : FM (M (13, 0, 0)) i m) (h' : FM (M (13, 0, 0)) i' m') (hk : k < m) : CT iM_isShared (d + 3) [vR 6 0 0, vI (nI i), vI (nI k), vI (nI i')] M (.inl (some (vI (bI (anyB (shB (M (13, 0, 0)) i m i' m' k) m'))))) M 0 := by
  obtain ⟨hi', hm', h0', h12'⟩ := id h'
  refine ct_go hL_M_isShared rfl ?_
  have loop : ∀ (l j : Nat) (b : Bool), j + l = m' → b = anyB (shB (M (13, 0, 0)) i m i' m' k) j → AW iM_isShared (d + 3) 6 [some (vR 6 0 0), some (vI (nI i)), some (vI (nI k)), some (vI (nI i')), some (vI (bI b)), some (vI (nI j))] [] M (.inl (some (vI (bI (anyB (shB (M (13, 0, 0)) i m i' m' k) m'))))) M 0 := by
    intro l
    induction l with
    | zero =>
      intro j b hj hb
      obtain rfl : j = m' := by omega
      subst hb
      refine aw_iload k135_6 rfl ?_
      refine aw_aload_n k135_8 rfl ?_
      refine aw_iload_n k135_9 rfl ?_
      refine aw_callV1 k135_10 hC_M_isShared ok_M_corners sv_M_37 hH_M_corners ⟨rfl, rfl⟩ (by decide) hN_M_corners (by rw [hL_M_corners]; exact Nat.le_of_ble_eq_true rfl) (Nat.le_of_ble_eq_true rfl) (s_M_corners hi') ?_
      rw [hm']
      refine aw_icmp_ge 90 k135_13 (by decide) (fun c_13 => ?_) (fun c_13 => ?_)
      · refine aw_iload k135_90 rfl ?_
        refine aw_zreturn k135_92 hR_M_isShared ?_ ?_ ?_
        · exact bI01 _
        · rfl
        · rfl
      · exact absurd (nI_leI (by omega) (by omega) |>.mpr (Nat.le_refl _)) c_13
    | succ l ih =>
      intro j b hj hb
      subst hb
      have hjm : j < m' := by omega
      have nxt : ∀ b : Bool, b = anyB (shB (M (13, 0, 0)) i m i' m' k) (j + 1) → AW iM_isShared (d + 3) 82 [some (vR 6 0 0), some (vI (nI i)), some (vI (nI k)), some (vI (nI i')), some (vI (bI (anyB (shB (M (13, 0, 0)) i m i' m' k) j))), some (vI (nI j))] [vI (bI b)] M (.inl (some (vI (bI (anyB (shB (M (13, 0, 0)) i m i' m' k) m'))))) M 0 := by
        intro b hb
        refine aw_istore k135_82 (Nat.le_of_ble_eq_true rfl) rfl ?_
        refine aw_iinc (y := 1) k135_84 rfl (by decide) rfl ?_
        rw [nI_1 j]
        refine aw_goto (t := 6) k135_87 (by decide) ?_
        exact ih (j + 1) b (by omega) hb
      refine aw_iload k135_6 rfl ?_
      refine aw_aload_n k135_8 rfl ?_
      refine aw_iload_n k135_9 rfl ?_
      refine aw_callV1 k135_10 hC_M_isShared ok_M_corners sv_M_37 hH_M_corners ⟨rfl, rfl⟩ (by decide) hN_M_corners (by rw [hL_M_corners]; exact Nat.le_of_ble_eq_true rfl) (Nat.le_of_ble_eq_true rfl) (s_M_corners hi') ?_
      rw [hm']
      refine aw_icmp_ge 90 k135_13 (by decide) (fun c_13 => ?_) (fun c_13 => ?_)
      · exact absurd (nI_le_of c_13) (by omega)
      · refine aw_iload k135_16 rfl ?_
        refine aw_if_ne 77 k135_18 (by decide) (fun c_18 => ?_) (fun c_18 => ?_)
        · refine aw_iconst (v := 1) k135_77 (by decide) ?_
          refine aw_goto (t := 82) k135_78 (by decide) ?_
          first
            | exact nxt true (by rw [anyB_s]; exact (or_t1 (bI_1 c_18)).symm)
            | exact nxt true (by rw [anyB_s]; exact (or_t2 (or_t1 (and_t (bI_1 c_30) (bI_1 c_46)))).symm)
            | exact nxt true (by rw [anyB_s]; exact (or_t2 (or_t2 (and_t (bI_1 c_60) (bI_1 c_74)))).symm)
            | exact nxt false (by rw [anyB_s]; exact (or_f (bI_0 c_18) (or_f (and_f1 (bI_0 c_30)) (and_f1 (bI_0 c_60)))).symm)
            | exact nxt false (by rw [anyB_s]; exact (or_f (bI_0 c_18) (or_f (and_f1 (bI_0 c_30)) (and_f2 (bI_0 c_74)))).symm)
            | exact nxt false (by rw [anyB_s]; exact (or_f (bI_0 c_18) (or_f (and_f2 (bI_0 c_46)) (and_f1 (bI_0 c_60)))).symm)
            | exact nxt false (by rw [anyB_s]; exact (or_f (bI_0 c_18) (or_f (and_f2 (bI_0 c_46)) (and_f2 (bI_0 c_74)))).symm)
        · refine aw_aload_n k135_21 rfl ?_
          refine aw_iload_n k135_22 rfl ?_
          refine aw_iload_n k135_23 rfl ?_
          refine aw_iload_n k135_24 rfl ?_
          refine aw_iload k135_25 rfl ?_
          refine aw_callV4 k135_27 hC_M_isShared ok_M_isSame sv_M_73 hH_M_isSame ⟨rfl, rfl⟩ (by decide) hN_M_isSame (by rw [hL_M_isSame]; exact Nat.le_of_ble_eq_true rfl) (Nat.le_of_ble_eq_true rfl) (sam h h' hk hjm) ?_
          refine aw_if_eq 49 k135_30 (by decide) (fun c_30 => ?_) (fun c_30 => ?_)
          · refine aw_aload_n k135_49 rfl ?_
            refine aw_iload_n k135_50 rfl ?_
            refine aw_iload_n k135_51 rfl ?_
            refine aw_iload_n k135_52 rfl ?_
            refine aw_iload k135_53 rfl ?_
            refine aw_iconst (v := 1) k135_55 (by decide) ?_
            refine aw_iadd k135_56 ?_
            rw [nI_1 j]
            refine aw_callV4 k135_57 hC_M_isShared ok_M_isSame sv_M_73 hH_M_isSame ⟨rfl, rfl⟩ (by decide) hN_M_isSame (by rw [hL_M_isSame]; exact Nat.le_of_ble_eq_true rfl) (Nat.le_of_ble_eq_true rfl) (sam01 h h' hk hjm) ?_
            refine aw_if_eq 81 k135_60 (by decide) (fun c_60 => ?_) (fun c_60 => ?_)
            · refine aw_iconst (v := 0) k135_81 (by decide) ?_
              first
                | exact nxt true (by rw [anyB_s]; exact (or_t1 (bI_1 c_18)).symm)
                | exact nxt true (by rw [anyB_s]; exact (or_t2 (or_t1 (and_t (bI_1 c_30) (bI_1 c_46)))).symm)
                | exact nxt true (by rw [anyB_s]; exact (or_t2 (or_t2 (and_t (bI_1 c_60) (bI_1 c_74)))).symm)
                | exact nxt false (by rw [anyB_s]; exact (or_f (bI_0 c_18) (or_f (and_f1 (bI_0 c_30)) (and_f1 (bI_0 c_60)))).symm)
                | exact nxt false (by rw [anyB_s]; exact (or_f (bI_0 c_18) (or_f (and_f1 (bI_0 c_30)) (and_f2 (bI_0 c_74)))).symm)
                | exact nxt false (by rw [anyB_s]; exact (or_f (bI_0 c_18) (or_f (and_f2 (bI_0 c_46)) (and_f1 (bI_0 c_60)))).symm)
                | exact nxt false (by rw [anyB_s]; exact (or_f (bI_0 c_18) (or_f (and_f2 (bI_0 c_46)) (and_f2 (bI_0 c_74)))).symm)
            · refine aw_aload_n k135_63 rfl ?_
              refine aw_iload_n k135_64 rfl ?_
              refine aw_iload_n k135_65 rfl ?_
              refine aw_iconst (v := 1) k135_66 (by decide) ?_
              refine aw_iadd k135_67 ?_
              rw [nI_1 k]
              refine aw_iload_n k135_68 rfl ?_
              refine aw_iload k135_69 rfl ?_
              refine aw_callV4 k135_71 hC_M_isShared ok_M_isSame sv_M_73 hH_M_isSame ⟨rfl, rfl⟩ (by decide) hN_M_isSame (by rw [hL_M_isSame]; exact Nat.le_of_ble_eq_true rfl) (Nat.le_of_ble_eq_true rfl) (sam10 h h' hk hjm) ?_
              refine aw_if_eq 81 k135_74 (by decide) (fun c_74 => ?_) (fun c_74 => ?_)
              · refine aw_iconst (v := 0) k135_81 (by decide) ?_
                first
                  | exact nxt true (by rw [anyB_s]; exact (or_t1 (bI_1 c_18)).symm)
                  | exact nxt true (by rw [anyB_s]; exact (or_t2 (or_t1 (and_t (bI_1 c_30) (bI_1 c_46)))).symm)
                  | exact nxt true (by rw [anyB_s]; exact (or_t2 (or_t2 (and_t (bI_1 c_60) (bI_1 c_74)))).symm)
                  | exact nxt false (by rw [anyB_s]; exact (or_f (bI_0 c_18) (or_f (and_f1 (bI_0 c_30)) (and_f1 (bI_0 c_60)))).symm)
                  | exact nxt false (by rw [anyB_s]; exact (or_f (bI_0 c_18) (or_f (and_f1 (bI_0 c_30)) (and_f2 (bI_0 c_74)))).symm)
                  | exact nxt false (by rw [anyB_s]; exact (or_f (bI_0 c_18) (or_f (and_f2 (bI_0 c_46)) (and_f1 (bI_0 c_60)))).symm)
                  | exact nxt false (by rw [anyB_s]; exact (or_f (bI_0 c_18) (or_f (and_f2 (bI_0 c_46)) (and_f2 (bI_0 c_74)))).symm)
              · refine aw_iconst (v := 1) k135_77 (by decide) ?_
                refine aw_goto (t := 82) k135_78 (by decide) ?_
                first
                  | exact nxt true (by rw [anyB_s]; exact (or_t1 (bI_1 c_18)).symm)
                  | exact nxt true (by rw [anyB_s]; exact (or_t2 (or_t1 (and_t (bI_1 c_30) (bI_1 c_46)))).symm)
                  | exact nxt true (by rw [anyB_s]; exact (or_t2 (or_t2 (and_t (bI_1 c_60) (bI_1 c_74)))).symm)
                  | exact nxt false (by rw [anyB_s]; exact (or_f (bI_0 c_18) (or_f (and_f1 (bI_0 c_30)) (and_f1 (bI_0 c_60)))).symm)
                  | exact nxt false (by rw [anyB_s]; exact (or_f (bI_0 c_18) (or_f (and_f1 (bI_0 c_30)) (and_f2 (bI_0 c_74)))).symm)
                  | exact nxt false (by rw [anyB_s]; exact (or_f (bI_0 c_18) (or_f (and_f2 (bI_0 c_46)) (and_f1 (bI_0 c_60)))).symm)
                  | exact nxt false (by rw [anyB_s]; exact (or_f (bI_0 c_18) (or_f (and_f2 (bI_0 c_46)) (and_f2 (bI_0 c_74)))).symm)
          · refine aw_aload_n k135_33 rfl ?_
            refine aw_iload_n k135_34 rfl ?_
            refine aw_iload_n k135_35 rfl ?_
            refine aw_iconst (v := 1) k135_36 (by decide) ?_
            refine aw_iadd k135_37 ?_
            rw [nI_1 k]
            refine aw_iload_n k135_38 rfl ?_
            refine aw_iload k135_39 rfl ?_
            refine aw_iconst (v := 1) k135_41 (by decide) ?_
            refine aw_iadd k135_42 ?_
            rw [nI_1 j]
            refine aw_callV4 k135_43 hC_M_isShared ok_M_isSame sv_M_73 hH_M_isSame ⟨rfl, rfl⟩ (by decide) hN_M_isSame (by rw [hL_M_isSame]; exact Nat.le_of_ble_eq_true rfl) (Nat.le_of_ble_eq_true rfl) (sam11 h h' hk hjm) ?_
            refine aw_if_ne 77 k135_46 (by decide) (fun c_46 => ?_) (fun c_46 => ?_)
            · refine aw_iconst (v := 1) k135_77 (by decide) ?_
              refine aw_goto (t := 82) k135_78 (by decide) ?_
              first
                | exact nxt true (by rw [anyB_s]; exact (or_t1 (bI_1 c_18)).symm)
                | exact nxt true (by rw [anyB_s]; exact (or_t2 (or_t1 (and_t (bI_1 c_30) (bI_1 c_46)))).symm)
                | exact nxt true (by rw [anyB_s]; exact (or_t2 (or_t2 (and_t (bI_1 c_60) (bI_1 c_74)))).symm)
                | exact nxt false (by rw [anyB_s]; exact (or_f (bI_0 c_18) (or_f (and_f1 (bI_0 c_30)) (and_f1 (bI_0 c_60)))).symm)
                | exact nxt false (by rw [anyB_s]; exact (or_f (bI_0 c_18) (or_f (and_f1 (bI_0 c_30)) (and_f2 (bI_0 c_74)))).symm)
                | exact nxt false (by rw [anyB_s]; exact (or_f (bI_0 c_18) (or_f (and_f2 (bI_0 c_46)) (and_f1 (bI_0 c_60)))).symm)
                | exact nxt false (by rw [anyB_s]; exact (or_f (bI_0 c_18) (or_f (and_f2 (bI_0 c_46)) (and_f2 (bI_0 c_74)))).symm)
            · refine aw_aload_n k135_49 rfl ?_
              refine aw_iload_n k135_50 rfl ?_
              refine aw_iload_n k135_51 rfl ?_
              refine aw_iload_n k135_52 rfl ?_
              refine aw_iload k135_53 rfl ?_
              refine aw_iconst (v := 1) k135_55 (by decide) ?_
              refine aw_iadd k135_56 ?_
              rw [nI_1 j]
              refine aw_callV4 k135_57 hC_M_isShared ok_M_isSame sv_M_73 hH_M_isSame ⟨rfl, rfl⟩ (by decide) hN_M_isSame (by rw [hL_M_isSame]; exact Nat.le_of_ble_eq_true rfl) (Nat.le_of_ble_eq_true rfl) (sam01 h h' hk hjm) ?_
              refine aw_if_eq 81 k135_60 (by decide) (fun c_60 => ?_) (fun c_60 => ?_)
              · refine aw_iconst (v := 0) k135_81 (by decide) ?_
                first
                  | exact nxt true (by rw [anyB_s]; exact (or_t1 (bI_1 c_18)).symm)
                  | exact nxt true (by rw [anyB_s]; exact (or_t2 (or_t1 (and_t (bI_1 c_30) (bI_1 c_46)))).symm)
                  | exact nxt true (by rw [anyB_s]; exact (or_t2 (or_t2 (and_t (bI_1 c_60) (bI_1 c_74)))).symm)
                  | exact nxt false (by rw [anyB_s]; exact (or_f (bI_0 c_18) (or_f (and_f1 (bI_0 c_30)) (and_f1 (bI_0 c_60)))).symm)
                  | exact nxt false (by rw [anyB_s]; exact (or_f (bI_0 c_18) (or_f (and_f1 (bI_0 c_30)) (and_f2 (bI_0 c_74)))).symm)
                  | exact nxt false (by rw [anyB_s]; exact (or_f (bI_0 c_18) (or_f (and_f2 (bI_0 c_46)) (and_f1 (bI_0 c_60)))).symm)
                  | exact nxt false (by rw [anyB_s]; exact (or_f (bI_0 c_18) (or_f (and_f2 (bI_0 c_46)) (and_f2 (bI_0 c_74)))).symm)
              · refine aw_aload_n k135_63 rfl ?_
                refine aw_iload_n k135_64 rfl ?_
                refine aw_iload_n k135_65 rfl ?_
                refine aw_iconst (v := 1) k135_66 (by decide) ?_
                refine aw_iadd k135_67 ?_
                rw [nI_1 k]
                refine aw_iload_n k135_68 rfl ?_
                refine aw_iload k135_69 rfl ?_
                refine aw_callV4 k135_71 hC_M_isShared ok_M_isSame sv_M_73 hH_M_isSame ⟨rfl, rfl⟩ (by decide) hN_M_isSame (by rw [hL_M_isSame]; exact Nat.le_of_ble_eq_true rfl) (Nat.le_of_ble_eq_true rfl) (sam10 h h' hk hjm) ?_
                refine aw_if_eq 81 k135_74 (by decide) (fun c_74 => ?_) (fun c_74 => ?_)
                · refine aw_iconst (v := 0) k135_81 (by decide) ?_
                  first
                    | exact nxt true (by rw [anyB_s]; exact (or_t1 (bI_1 c_18)).symm)
                    | exact nxt true (by rw [anyB_s]; exact (or_t2 (or_t1 (and_t (bI_1 c_30) (bI_1 c_46)))).symm)
                    | exact nxt true (by rw [anyB_s]; exact (or_t2 (or_t2 (and_t (bI_1 c_60) (bI_1 c_74)))).symm)
                    | exact nxt false (by rw [anyB_s]; exact (or_f (bI_0 c_18) (or_f (and_f1 (bI_0 c_30)) (and_f1 (bI_0 c_60)))).symm)
                    | exact nxt false (by rw [anyB_s]; exact (or_f (bI_0 c_18) (or_f (and_f1 (bI_0 c_30)) (and_f2 (bI_0 c_74)))).symm)
                    | exact nxt false (by rw [anyB_s]; exact (or_f (bI_0 c_18) (or_f (and_f2 (bI_0 c_46)) (and_f1 (bI_0 c_60)))).symm)
                    | exact nxt false (by rw [anyB_s]; exact (or_f (bI_0 c_18) (or_f (and_f2 (bI_0 c_46)) (and_f2 (bI_0 c_74)))).symm)
                · refine aw_iconst (v := 1) k135_77 (by decide) ?_
                  refine aw_goto (t := 82) k135_78 (by decide) ?_
                  first
                    | exact nxt true (by rw [anyB_s]; exact (or_t1 (bI_1 c_18)).symm)
                    | exact nxt true (by rw [anyB_s]; exact (or_t2 (or_t1 (and_t (bI_1 c_30) (bI_1 c_46)))).symm)
                    | exact nxt true (by rw [anyB_s]; exact (or_t2 (or_t2 (and_t (bI_1 c_60) (bI_1 c_74)))).symm)
                    | exact nxt false (by rw [anyB_s]; exact (or_f (bI_0 c_18) (or_f (and_f1 (bI_0 c_30)) (and_f1 (bI_0 c_60)))).symm)
                    | exact nxt false (by rw [anyB_s]; exact (or_f (bI_0 c_18) (or_f (and_f1 (bI_0 c_30)) (and_f2 (bI_0 c_74)))).symm)
                    | exact nxt false (by rw [anyB_s]; exact (or_f (bI_0 c_18) (or_f (and_f2 (bI_0 c_46)) (and_f1 (bI_0 c_60)))).symm)
                    | exact nxt false (by rw [anyB_s]; exact (or_f (bI_0 c_18) (or_f (and_f2 (bI_0 c_46)) (and_f2 (bI_0 c_74)))).symm)
  refine aw_iconst (v := 0) k135_0 (by decide) ?_
  refine aw_istore k135_1 (Nat.le_of_ble_eq_true rfl) rfl ?_
  refine aw_iconst (v := 0) k135_3 (by decide) ?_
  refine aw_istore k135_4 (Nat.le_of_ble_eq_true rfl) rfl ?_
  exact loop m' 0 false (by omega) rfl
