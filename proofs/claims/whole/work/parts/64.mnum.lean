/-! THE MODEL: a number of the text -/
def nv (T : Nat → Int32) : Nat → Nat → Int32 → Int32
  | 0, _, v => v
  | k + 1, a, v => nv T k (a + 1) (v * 10 + (T a - 48))
theorem nv_num {T : Nat → Int32} {most : Int32} : ∀ {k a : Nat} {v : Int32}, nv T ((numG T most k a v).1 - a) a v = (numG T most k a v).2 := by
  intro k
  induction k with
  | zero =>
    intro a v
    show nv T (a - a) a v = v
    rw [Nat.sub_self]
    rfl
  | succ k ih =>
    intro a v
    unfold numG
    by_cases g : grows (T a) v most
    · rw [if_pos g]
      have hge := numG_ge (T := T) (most := most) (k := k) (a := a + 1) (v := v * 10 + (T a - 48))
      have := ih (a := a + 1) (v := v * 10 + (T a - 48))
      obtain ⟨z, hz⟩ : ∃ z, (numG T most k (a + 1) (v * 10 + (T a - 48))).1 - a = z + 1 := ⟨(numG T most k (a + 1) (v * 10 + (T a - 48))).1 - a - 1, by omega⟩
      rw [hz]
      show nv T z (a + 1) (v * 10 + (T a - 48)) = _
      rw [← this]
      congr 1
      omega
    · rw [if_neg g]
      show nv T (a - a) a v = v
      rw [Nat.sub_self]
      rfl
theorem dg_eq (v c : Int32) : 10 * v + c - 48 = v * 10 + (c - 48) := by grind
theorem s_M_numberIn {d L p q : Nat} {M : mM} {t : Nat → Int32} (h : TxM M t L) (hp : p ≤ q) (hq : q < 1000) : CT iM_numberIn (d + 1) [vR 6 0 0, vI (nI p), vI (nI q)] M (.inl (some (vI (nv (tx t L) (q - p) p 0)))) M 0 := by
  have loop : ∀ (l j : Nat) (v : Int32), j + l = q → AW iM_numberIn (d + 1) 5 [some (vR 6 0 0), some (vI (nI p)), some (vI (nI q)), some (vI v), some (vI (nI j))] [] M (.inl (some (vI (nv (tx t L) (q - j) j v)))) M 0 := by
    intro l
    induction l with
    | zero =>
      intro j v hj
      obtain rfl : j = q := by omega
      rw [Nat.sub_self]
      show AW _ _ _ _ _ _ (.inl (some (vI v))) _ _
      refine aw_iload k154_5 rfl ?_
      refine aw_iload_n k154_7 rfl ?_
      refine aw_icmp_ge 32 k154_8 (by decide) (fun c_8 => ?_) (fun c_8 => ?_)
      · refine aw_iload_n k154_32 rfl ?_
        refine aw_ireturn k154_33 hR_M_numberIn ?_ ?_
        all_goals first | rfl | exact Or.inl rfl | exact Or.inr rfl | assumption | (simp_all; done) | ((repeat' split) <;> first | rfl | (simp only [Int32.lt_iff_toInt_lt, Int32.le_iff_toInt_le, Int64.lt_iff_toInt_lt, Int64.le_iff_toInt_le] at *; omega) | (simp_all; done))
      · exact absurd (Int32.le_refl _) c_8
    | succ l ih =>
      intro j v hj
      obtain ⟨z, hz⟩ : ∃ z, q - j = z + 1 := ⟨q - j - 1, by omega⟩
      have i9 := ih (j + 1) (v * 10 + (tx t L j - 48)) (by omega)
      rw [show q - (j + 1) = z by omega] at i9
      rw [hz]
      show AW _ _ _ _ _ _ (.inl (some (vI (nv (tx t L) z (j + 1) (v * 10 + (tx t L j - 48)))))) _ _
      refine aw_iload k154_5 rfl ?_
      refine aw_iload_n k154_7 rfl ?_
      refine aw_icmp_ge 32 k154_8 (by decide) (fun c_8 => ?_) (fun c_8 => ?_)
      · exact absurd (nI_le_of c_8) (by omega)
      · refine aw_bipush (v := 10) k154_11 (by decide) ?_
        refine aw_iload_n k154_13 rfl ?_
        refine aw_imul k154_14 ?_
        refine aw_aload_n k154_15 rfl ?_
        refine aw_iload k154_16 rfl ?_
        refine aw_callV1 k154_18 hC_M_numberIn ok_M_charAt sv_M_125 hH_M_charAt ⟨rfl, rfl⟩ (by decide) hN_M_charAt (by rw [hL_M_charAt]; exact Nat.le_of_ble_eq_true rfl) (Nat.le_of_ble_eq_true rfl) (s_M_charAt h (by omega)) ?_
        refine aw_iadd k154_21 ?_
        refine aw_bipush (v := 48) k154_22 (by decide) ?_
        refine aw_isub k154_24 ?_
        rw [dg_eq]
        refine aw_istore_n k154_25 (Nat.le_of_ble_eq_true rfl) rfl ?_
        refine aw_iinc (y := 1) k154_26 rfl (by decide) rfl ?_
        rw [nI_1 j]
        refine aw_goto (t := 5) k154_29 (by decide) ?_
        exact i9
  refine ct_go hL_M_numberIn rfl ?_
  refine aw_iconst (v := 0) k154_0 (by decide) ?_
  refine aw_istore_n k154_1 (Nat.le_of_ble_eq_true rfl) rfl ?_
  refine aw_iload_n k154_2 rfl ?_
  refine aw_istore k154_3 (Nat.le_of_ble_eq_true rfl) rfl ?_
  exact loop (q - p) p 0 (by omega)
