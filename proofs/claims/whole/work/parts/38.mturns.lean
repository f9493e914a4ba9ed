/-! THE MODEL: the turns -/
def tuB (f : Nat → Int32) (i m : Nat) (z : Bool) (k : Nat) : Bool := if z = true then decide (0 < trG (cW f i 0) (cW f i 1) m k) else decide (trG (cW f i 0) (cW f i 1) m k < 0)
theorem tuB_t {f : Nat → Int32} {i m k : Nat} {z : Bool} (h : z = true) : tuB f i m z k = decide (0 < trG (cW f i 0) (cW f i 1) m k) := if_pos h
theorem tuB_f {f : Nat → Int32} {i m k : Nat} {z : Bool} (h : z = false) : tuB f i m z k = decide (trG (cW f i 0) (cW f i 1) m k < 0) := if_neg (by rw [h]; decide)
theorem add0 {x y : Int32} (h : x = y) : x + 0 = y := (Int32.add_zero x).trans h
theorem s_M_turns {d i m : Nat} {M : mM} {z : Bool} (h : FM (M (13, 0, 0)) i m) : CT iM_turns (d + 4) [vR 6 0 0, vI (nI i), vI (bI z)] M (.inl (some (vI (nI (cntB (tuB (M (13, 0, 0)) i m z) m))))) M 0 := by
  obtain ⟨hi, hm, h0, h12⟩ := id h
  refine ct_go hL_M_turns rfl ?_
  have loop : ∀ (k j : Nat) (b : Int32) (z1 : Option mAV), j + k = m → b = nI (cntB (tuB (M (13, 0, 0)) i m z) j) → AW iM_turns (d + 4) 5 [some (vR 6 0 0), some (vI (nI i)), some (vI (bI z)), some (vI b), some (vI (nI j)), z1, none] [] M (.inl (some (vI (nI (cntB (tuB (M (13, 0, 0)) i m z) m))))) M 0 := by
    intro k
    induction k with
    | zero =>
      intro j b z1 hj hb
      obtain rfl : j = m := by omega
      subst hb
      refine aw_iload k132_5 rfl ?_
      refine aw_aload_n k132_7 rfl ?_
      refine aw_iload_n k132_8 rfl ?_
      refine aw_callV1 k132_9 hC_M_turns ok_M_corners sv_M_37 hH_M_corners ⟨rfl, rfl⟩ (by decide) hN_M_corners (by rw [hL_M_corners]; exact Nat.le_of_ble_eq_true rfl) (Nat.le_of_ble_eq_true rfl) (s_M_corners hi) ?_
      rw [hm]
      refine aw_icmp_ge 64 k132_12 (by decide) (fun c_12 => ?_) (fun c_12 => ?_)
      · refine aw_iload_n k132_64 rfl ?_
        refine aw_ireturn k132_65 hR_M_turns ?_ ?_
        all_goals first | rfl | exact Or.inl rfl | exact Or.inr rfl | assumption | (simp_all; done) | ((repeat' split) <;> first | rfl | (simp only [Int32.lt_iff_toInt_lt, Int32.le_iff_toInt_le, Int64.lt_iff_toInt_lt, Int64.le_iff_toInt_le] at *; omega) | (simp_all; done))
      · exact absurd (nI_leI (by omega) (by omega) |>.mpr (Nat.le_refl _)) c_12
    | succ k ih =>
      intro j b z1 hj hb
      subst hb
      have hjm : j < m := by omega
      refine aw_iload k132_5 rfl ?_
      refine aw_aload_n k132_7 rfl ?_
      refine aw_iload_n k132_8 rfl ?_
      refine aw_callV1 k132_9 hC_M_turns ok_M_corners sv_M_37 hH_M_corners ⟨rfl, rfl⟩ (by decide) hN_M_corners (by rw [hL_M_corners]; exact Nat.le_of_ble_eq_true rfl) (Nat.le_of_ble_eq_true rfl) (s_M_corners hi) ?_
      rw [hm]
      refine aw_icmp_ge 64 k132_12 (by decide) (fun c_12 => ?_) (fun c_12 => ?_)
      · exact absurd (nI_le_of c_12) (by omega)
      · refine aw_aload_n k132_15 rfl ?_
        refine aw_iload_n k132_16 rfl ?_
        refine aw_iload k132_17 rfl ?_
        refine aw_callV2 k132_19 hC_M_turns ok_M_turn sv_M_69 hH_M_turn ⟨rfl, rfl⟩ (by decide) hN_M_turn (by rw [hL_M_turn]; exact Nat.le_of_ble_eq_true rfl) (Nat.le_of_ble_eq_true rfl) (s_M_turn h hjm) ?_
        refine aw_lstore k132_22 (Nat.le_of_ble_eq_true rfl) rfl ?_
        refine aw_iload_n k132_24 rfl ?_
        refine aw_iload_n k132_25 rfl ?_
        refine aw_if_eq 44 k132_26 (by decide) (fun c_26 => ?_) (fun c_26 => ?_)
        · refine aw_lload k132_44 rfl ?_
          refine aw_lconst (v := 0) k132_46 (by decide) ?_
          refine aw_lcmp_ge 55 k132_47 k132_48 (by decide) (fun c_47 => ?_) (fun c_47 => ?_)
          · refine aw_iconst (v := 0) k132_55 (by decide) ?_
            refine aw_iadd k132_56 ?_
            refine aw_istore_n k132_57 (Nat.le_of_ble_eq_true rfl) rfl ?_
            refine aw_iinc (y := 1) k132_58 rfl (by decide) rfl ?_
            rw [nI_1 j]
            refine aw_goto (t := 5) k132_61 (by decide) ?_
            first
              | (have g := Int64.not_le.mp c_32
                 exact ih (j + 1) _ _ (by omega) (cntB_t ((tuB_t (bI_1 c_26)).trans (decide_eq_true g))))
              | (have g := Int64.not_lt.mpr c_32
                 exact ih (j + 1) _ _ (by omega) (add0 (cntB_f ((tuB_t (bI_1 c_26)).trans (decide_eq_false g)))))
              | (have g := Int64.not_le.mp c_47
                 exact ih (j + 1) _ _ (by omega) (cntB_t ((tuB_f (bI_0 c_26)).trans (decide_eq_true g))))
              | (have g := Int64.not_lt.mpr c_47
                 exact ih (j + 1) _ _ (by omega) (add0 (cntB_f ((tuB_f (bI_0 c_26)).trans (decide_eq_false g)))))
          · refine aw_iconst (v := 1) k132_51 (by decide) ?_
            refine aw_goto (t := 56) k132_52 (by decide) ?_
            refine aw_iadd k132_56 ?_
            refine aw_istore_n k132_57 (Nat.le_of_ble_eq_true rfl) rfl ?_
            refine aw_iinc (y := 1) k132_58 rfl (by decide) rfl ?_
            rw [nI_1 j]
            refine aw_goto (t := 5) k132_61 (by decide) ?_
            first
              | (have g := Int64.not_le.mp c_32
                 exact ih (j + 1) _ _ (by omega) (cntB_t ((tuB_t (bI_1 c_26)).trans (decide_eq_true g))))
              | (have g := Int64.not_lt.mpr c_32
                 exact ih (j + 1) _ _ (by omega) (add0 (cntB_f ((tuB_t (bI_1 c_26)).trans (decide_eq_false g)))))
              | (have g := Int64.not_le.mp c_47
                 exact ih (j + 1) _ _ (by omega) (cntB_t ((tuB_f (bI_0 c_26)).trans (decide_eq_true g))))
              | (have g := Int64.not_lt.mpr c_47
                 exact ih (j + 1) _ _ (by omega) (add0 (cntB_f ((tuB_f (bI_0 c_26)).trans (decide_eq_false g)))))
        · refine aw_lload k132_29 rfl ?_
          refine aw_lconst (v := 0) k132_31 (by decide) ?_
          refine aw_lcmp_le 40 k132_32 k132_33 (by decide) (fun c_32 => ?_) (fun c_32 => ?_)
          · refine aw_iconst (v := 0) k132_40 (by decide) ?_
            refine aw_goto (t := 56) k132_41 (by decide) ?_
            refine aw_iadd k132_56 ?_
            refine aw_istore_n k132_57 (Nat.le_of_ble_eq_true rfl) rfl ?_
            refine aw_iinc (y := 1) k132_58 rfl (by decide) rfl ?_
            rw [nI_1 j]
            refine aw_goto (t := 5) k132_61 (by decide) ?_
            first
              | (have g := Int64.not_le.mp c_32
                 exact ih (j + 1) _ _ (by omega) (cntB_t ((tuB_t (bI_1 c_26)).trans (decide_eq_true g))))
              | (have g := Int64.not_lt.mpr c_32
                 exact ih (j + 1) _ _ (by omega) (add0 (cntB_f ((tuB_t (bI_1 c_26)).trans (decide_eq_false g)))))
              | (have g := Int64.not_le.mp c_47
                 exact ih (j + 1) _ _ (by omega) (cntB_t ((tuB_f (bI_0 c_26)).trans (decide_eq_true g))))
              | (have g := Int64.not_lt.mpr c_47
                 exact ih (j + 1) _ _ (by omega) (add0 (cntB_f ((tuB_f (bI_0 c_26)).trans (decide_eq_false g)))))
          · refine aw_iconst (v := 1) k132_36 (by decide) ?_
            refine aw_goto (t := 56) k132_37 (by decide) ?_
            refine aw_iadd k132_56 ?_
            refine aw_istore_n k132_57 (Nat.le_of_ble_eq_true rfl) rfl ?_
            refine aw_iinc (y := 1) k132_58 rfl (by decide) rfl ?_
            rw [nI_1 j]
            refine aw_goto (t := 5) k132_61 (by decide) ?_
            first
              | (have g := Int64.not_le.mp c_32
                 exact ih (j + 1) _ _ (by omega) (cntB_t ((tuB_t (bI_1 c_26)).trans (decide_eq_true g))))
              | (have g := Int64.not_lt.mpr c_32
                 exact ih (j + 1) _ _ (by omega) (add0 (cntB_f ((tuB_t (bI_1 c_26)).trans (decide_eq_false g)))))
              | (have g := Int64.not_le.mp c_47
                 exact ih (j + 1) _ _ (by omega) (cntB_t ((tuB_f (bI_0 c_26)).trans (decide_eq_true g))))
              | (have g := Int64.not_lt.mpr c_47
                 exact ih (j + 1) _ _ (by omega) (add0 (cntB_f ((tuB_f (bI_0 c_26)).trans (decide_eq_false g)))))
  refine aw_iconst (v := 0) k132_0 (by decide) ?_
  refine aw_istore_n k132_1 (Nat.le_of_ble_eq_true rfl) rfl ?_
  refine aw_iconst (v := 0) k132_2 (by decide) ?_
  refine aw_istore k132_3 (Nat.le_of_ble_eq_true rfl) rfl ?_
  exact loop m 0 _ _ (by omega) rfl
theorem m_left {d i m : Nat} {M : mM} (h : FM (M (13, 0, 0)) i m) (hb : bN (M (13, 0, 0)) i = m) : CT iM_turns (d + 4) [vR 6 0 0, vI (nI i), vI 1] M (.inl (some (vI (nI (leF (M (13, 0, 0)) i))))) M 0 := by
  have := s_M_turns (d := d) (z := true) h
  have e : cntB (tuB (M (13, 0, 0)) i m true) m = leF (M (13, 0, 0)) i := by
    unfold leF
    rw [hb]
    exact cntB_c (fun k _ => (tuB_t rfl).trans (by rw [cW0, cW1]))
  rw [e] at this
  exact this
theorem m_right {d i m : Nat} {M : mM} (h : FM (M (13, 0, 0)) i m) (hb : bN (M (13, 0, 0)) i = m) : CT iM_turns (d + 4) [vR 6 0 0, vI (nI i), vI 0] M (.inl (some (vI (nI (riF (M (13, 0, 0)) i))))) M 0 := by
  have := s_M_turns (d := d) (z := false) h
  have e : cntB (tuB (M (13, 0, 0)) i m false) m = riF (M (13, 0, 0)) i := by
    unfold riF
    rw [hb]
    exact cntB_c (fun k _ => (tuB_f rfl).trans (by rw [cW0, cW1]))
  rw [e] at this
  exact this
