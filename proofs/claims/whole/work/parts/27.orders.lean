/-! THE ORDERS: what each sign does -/
theorem zO_7 (M : mM) {k : Nat} {r : mRef} {q : Nat} {v : Int32} (h : r ≠ (2, 0, 0)) : mUp M r q v (2, 0, 0) k = M (2, 0, 0) k := by rw [mUp_ne (fun e => h e.symm)]
theorem s_O_appendFull {d : Nat} {M : mM} {x : Int32} (h : M (2, 0, 0) 1 = nI 80) : CT iO_append d [vR 2 0 0, vI x] M (.inl (some (vI 0))) M 0 := by
  refine ct_go hL_O_append rfl ?_
  refine aw_aload_n k29_0 rfl ?_
  refine aw_getI k29_1 hC_O_append fs_O_31 (by decide) ⟨rfl, rfl⟩ rfl ?_
  try simp only [h]
  refine aw_if_lt 16 k29_4 (by decide) (fun c_4 => ?_) (fun c_4 => ?_)
  · refine aw_iconst (v := 0) k29_16 (by decide) ?_
    refine aw_zreturn k29_17 hR_O_append ?_ ?_ ?_
    all_goals first | rfl | exact Or.inl rfl | exact Or.inr rfl | assumption | (simp_all; done) | ((repeat' split) <;> first | rfl | (simp only [Int32.lt_iff_toInt_lt, Int32.le_iff_toInt_le, Int64.lt_iff_toInt_lt, Int64.le_iff_toInt_le] at *; omega) | (simp_all; done))
  · refine aw_aload_n k29_7 rfl ?_
    refine aw_getI k29_8 hC_O_append fs_O_31 (by decide) ⟨rfl, rfl⟩ rfl ?_
    try simp only [h]
    refine aw_bipush (v := 80) k29_11 (by decide) ?_
    refine aw_icmp_lt 18 k29_13 (by decide) (fun c_13 => ?_) (fun c_13 => ?_)
    · exact absurd c_13 (by decide)
    · refine aw_iconst (v := 0) k29_16 (by decide) ?_
      refine aw_zreturn k29_17 hR_O_append ?_ ?_ ?_
      all_goals first | rfl | exact Or.inl rfl | exact Or.inr rfl | assumption | (simp_all; done) | ((repeat' split) <;> first | rfl | (simp only [Int32.lt_iff_toInt_lt, Int32.le_iff_toInt_le, Int64.lt_iff_toInt_lt, Int64.le_iff_toInt_le] at *; omega) | (simp_all; done))
theorem s_O_append {d n : Nat} {M : mM} {x : Int32} (hn : n < 80) (h : M (2, 0, 0) 1 = nI n) : CT iO_append d [vR 2 0 0, vI x] M (.inl (some (vI 1))) (mUp (mUp M (12, 0, 0) n (vp_nar .char x)) (2, 0, 0) 1 (nI (n + 1))) 0 := by
  refine ct_go hL_O_append rfl ?_
  have hc : (nI n).toNatClampNeg = n := nI_clamp (by omega)
  have e : ∀ v, mUp M (12, 0, 0) n v (2, 0, 0) 1 = nI n := fun v => by rw [mUp_ne (by simp)]; exact h
  refine aw_aload_n k29_0 rfl ?_
  refine aw_getI k29_1 hC_O_append fs_O_31 (by decide) ⟨rfl, rfl⟩ rfl ?_
  try simp only [h, hc, e]
  refine aw_if_lt 16 k29_4 (by decide) (fun c_4 => ?_) (fun c_4 => ?_)
  · exact absurd c_4 (nI_pos (by omega))
  · refine aw_aload_n k29_7 rfl ?_
    refine aw_getI k29_8 hC_O_append fs_O_31 (by decide) ⟨rfl, rfl⟩ rfl ?_
    try simp only [h, hc, e]
    refine aw_bipush (v := 80) k29_11 (by decide) ?_
    refine aw_icmp_lt 18 k29_13 (by decide) (fun c_13 => ?_) (fun c_13 => ?_)
    · refine aw_aload_n k29_18 rfl ?_
      refine aw_getR k29_19 hC_O_append fs_O_9 (by decide) ⟨rfl, rfl⟩ rfl ?_
      try simp only [h, hc, e]
      refine aw_aload_n k29_22 rfl ?_
      refine aw_getI k29_23 hC_O_append fs_O_31 (by decide) ⟨rfl, rfl⟩ rfl ?_
      try simp only [h, hc, e]
      refine aw_iload_n k29_26 rfl ?_
      refine aw_castore k29_27 (by first | exact ⟨rfl, rfl⟩ | exact ⟨by assumption, rfl⟩ | exact ⟨by assumption, by assumption⟩ | exact ⟨rfl, by decide⟩ | exact ⟨by assumption, by decide⟩ | exact ⟨by decide, rfl⟩ | exact ⟨by decide, by decide⟩ | exact ⟨by decide, by assumption⟩ | assumption) (by first | rfl | assumption) (by first | rfl | assumption) (vp_in_nI hn (by decide)) ?_
      try simp only [h, hc, e]
      refine aw_aload_n k29_28 rfl ?_
      first | refine aw_dupI k29_29 ?_ | refine aw_dupR k29_29 ?_
      refine aw_getI k29_30 hC_O_append fs_O_31 (by decide) ⟨rfl, rfl⟩ rfl ?_
      try simp only [h, hc, e]
      refine aw_iconst (v := 1) k29_33 (by decide) ?_
      refine aw_iadd k29_34 ?_
      rw [nI_1]
      refine aw_putI k29_35 hC_O_append fs_O_31 (by decide) ⟨rfl, rfl⟩ rfl po_2_1 ?_
      try simp only [h, hc, e]
      refine aw_iconst (v := 1) k29_38 (by decide) ?_
      refine aw_zreturn k29_39 hR_O_append ?_ ?_ ?_
      all_goals first | rfl | exact Or.inl rfl | exact Or.inr rfl | assumption | (simp_all; done) | ((repeat' split) <;> first | rfl | (simp only [Int32.lt_iff_toInt_lt, Int32.le_iff_toInt_le, Int64.lt_iff_toInt_lt, Int64.le_iff_toInt_le] at *; omega) | (simp_all; done))
    · exact absurd (nI_lt (a := n) (b := 80) hn (by omega)) c_13
theorem s_O_dropText {d : Nat} {M : mM} : CT iO_dropText d [vR 2 0 0] M (.inl (some (vI (M (2, 0, 0) 1)))) (mUp M (2, 0, 0) 1 0) 0 := by
  refine ct_go hL_O_dropText rfl ?_
  refine aw_aload_n k30_0 rfl ?_
  refine aw_getI k30_1 hC_O_dropText fs_O_31 (by decide) ⟨rfl, rfl⟩ rfl ?_
  refine aw_istore_n k30_4 (Nat.le_of_ble_eq_true rfl) rfl ?_
  refine aw_aload_n k30_5 rfl ?_
  refine aw_iconst (v := 0) k30_6 (by decide) ?_
  refine aw_putI k30_7 hC_O_dropText fs_O_31 (by decide) ⟨rfl, rfl⟩ rfl po_2_1 ?_
  refine aw_iload_n k30_10 rfl ?_
  refine aw_ireturn k30_11 hR_O_dropText ?_ ?_
  all_goals first | rfl | exact Or.inl rfl | exact Or.inr rfl | assumption | (simp_all; done) | ((repeat' split) <;> first | rfl | (simp only [Int32.lt_iff_toInt_lt, Int32.le_iff_toInt_le, Int64.lt_iff_toInt_lt, Int64.le_iff_toInt_le] at *; omega) | (simp_all; done))
def oKd (M : mM) (k : Nat) (a e : Int32) : mM := mUp (mUp (mUp M (12, 0, 1) k a) (2, 0, 0) 7 (nI (k + 1))) (2, 0, 0) 8 e
theorem s_O_noteKind {d k : Nat} {M : mM} {a e : Int32} (hk : k < 80) (h : M (2, 0, 0) 7 = nI k) : CT iO_noteKind d [vR 2 0 0, vI a, vI e] M (.inl (some (vI 1))) (oKd M k a e) 0 := by
  refine ct_go hL_O_noteKind rfl ?_
  have hc : (nI k).toNatClampNeg = k := nI_clamp (by omega)
  have e : ∀ v, mUp M (12, 0, 1) k v (2, 0, 0) 7 = nI k := fun v => by rw [mUp_ne (by simp)]; exact h
  refine aw_aload_n k34_0 rfl ?_
  refine aw_getI k34_1 hC_O_noteKind fs_O_38 (by decide) ⟨rfl, rfl⟩ rfl ?_
  try simp only [h, hc, e]
  refine aw_if_lt 16 k34_4 (by decide) (fun c_4 => ?_) (fun c_4 => ?_)
  · exact absurd c_4 (nI_pos (by omega))
  · refine aw_aload_n k34_7 rfl ?_
    refine aw_getI k34_8 hC_O_noteKind fs_O_38 (by decide) ⟨rfl, rfl⟩ rfl ?_
    try simp only [h, hc, e]
    refine aw_bipush (v := 80) k34_11 (by decide) ?_
    refine aw_icmp_lt 18 k34_13 (by decide) (fun c_13 => ?_) (fun c_13 => ?_)
    · refine aw_aload_n k34_18 rfl ?_
      refine aw_getR k34_19 hC_O_noteKind fs_O_15 (by decide) ⟨rfl, rfl⟩ rfl ?_
      try simp only [h, hc, e]
      refine aw_aload_n k34_22 rfl ?_
      refine aw_getI k34_23 hC_O_noteKind fs_O_38 (by decide) ⟨rfl, rfl⟩ rfl ?_
      try simp only [h, hc, e]
      refine aw_iload_n k34_26 rfl ?_
      refine aw_iastore k34_27 (by first | exact ⟨rfl, rfl⟩ | exact ⟨by assumption, rfl⟩ | exact ⟨by assumption, by assumption⟩ | exact ⟨rfl, by decide⟩ | exact ⟨by assumption, by decide⟩ | exact ⟨by decide, rfl⟩ | exact ⟨by decide, by decide⟩ | exact ⟨by decide, by assumption⟩ | assumption) (by first | rfl | assumption) (by first | rfl | assumption) (vp_in_nI hk (by decide)) ?_
      try simp only [h, hc, e]
      refine aw_aload_n k34_28 rfl ?_
      first | refine aw_dupI k34_29 ?_ | refine aw_dupR k34_29 ?_
      refine aw_getI k34_30 hC_O_noteKind fs_O_38 (by decide) ⟨rfl, rfl⟩ rfl ?_
      try simp only [h, hc, e]
      refine aw_iconst (v := 1) k34_33 (by decide) ?_
      refine aw_iadd k34_34 ?_
      rw [nI_1]
      refine aw_putI k34_35 hC_O_noteKind fs_O_38 (by decide) ⟨rfl, rfl⟩ rfl po_2_7 ?_
      try simp only [h, hc, e]
      refine aw_aload_n k34_38 rfl ?_
      refine aw_iload_n k34_39 rfl ?_
      refine aw_putI k34_40 hC_O_noteKind fs_O_35 (by decide) ⟨rfl, rfl⟩ rfl po_2_8 ?_
      try simp only [h, hc, e]
      refine aw_iconst (v := 1) k34_43 (by decide) ?_
      refine aw_zreturn k34_44 hR_O_noteKind ?_ ?_ ?_
      all_goals first | rfl | exact Or.inl rfl | exact Or.inr rfl | assumption | (simp_all; done) | ((repeat' split) <;> first | rfl | (simp only [Int32.lt_iff_toInt_lt, Int32.le_iff_toInt_le, Int64.lt_iff_toInt_lt, Int64.le_iff_toInt_le] at *; omega) | (simp_all; done))
    · exact absurd (nI_lt (a := k) (b := 80) hk (by omega)) c_13
theorem s_O_note {d k j : Nat} {M : mM} {a : Int32} (hk : k < 80) (hj : j < 6) (hj0 : 0 < j) (h : M (2, 0, 0) 7 = nI (k + 1)) : CT iO_note d [vR 2 0 0, vR 12 0 j, vI a] M (.inl none) (mUp M (12, 0, j) k a) 0 := by
  refine ct_go hL_O_note rfl ?_
  have hc : (nI k).toNatClampNeg = k := nI_clamp (by omega)
  have hp := nI_pred k
  have hty : mTy (12, 0, j) = .int := by obtain ⟨z, rfl⟩ : ∃ z, j = z + 1 := ⟨j - 1, by omega⟩; rfl
  have hin : vp_in (nI k) (mLen (12, 0, j)) := vp_in_nI hk (by show 80 < 2 ^ 31; decide)
  have hok : mOk (12, 0, j) := ⟨rfl, hj⟩
  refine aw_aload_n k42_0 rfl ?_
  refine aw_getI k42_1 hC_O_note fs_O_38 (by decide) ⟨rfl, rfl⟩ rfl ?_
  try simp only [h, hc]
  refine aw_iconst (v := 1) k42_4 (by decide) ?_
  refine aw_isub k42_5 ?_
  rw [hp]
  refine aw_istore_n k42_6 (Nat.le_of_ble_eq_true rfl) rfl ?_
  refine aw_iload_n k42_7 rfl ?_
  refine aw_if_lt 21 k42_8 (by decide) (fun c_8 => ?_) (fun c_8 => ?_)
  · exact absurd c_8 (nI_pos (by omega))
  · refine aw_iload_n k42_11 rfl ?_
    refine aw_aload_n k42_12 rfl ?_
    refine aw_alen k42_13 hok (by first | rfl | assumption) ?_
    try simp only [h, hc]
    refine aw_icmp_ge 21 k42_14 (by decide) (fun c_14 => ?_) (fun c_14 => ?_)
    · exact absurd (nI_le_of (a := 80) c_14) (by omega)
    · refine aw_aload_n k42_17 rfl ?_
      refine aw_iload_n k42_18 rfl ?_
      refine aw_iload_n k42_19 rfl ?_
      refine aw_iastore k42_20 hok (by first | rfl | assumption) (by first | rfl | assumption) hin ?_
      try simp only [h, hc]
      refine aw_return k42_21 hR_O_note ?_
      all_goals first | rfl | exact Or.inl rfl | exact Or.inr rfl | assumption | (simp_all; done) | ((repeat' split) <;> first | rfl | (simp only [Int32.lt_iff_toInt_lt, Int32.le_iff_toInt_le, Int64.lt_iff_toInt_lt, Int64.le_iff_toInt_le] at *; omega) | (simp_all; done))
theorem s_O_endOrder {d : Nat} {M : mM} : CT iO_endOrder d [vR 2 0 0, vI 59] M (.inl (some (vI 1))) (mUp M (2, 0, 0) 8 0) 0 := by
  refine ct_go hL_O_endOrder rfl ?_
  refine aw_iload_n k35_0 rfl ?_
  refine aw_bipush (v := 59) k35_1 (by decide) ?_
  refine aw_icmp_eq 8 k35_3 (by decide) (fun c_3 => ?_) (fun c_3 => ?_)
  · refine aw_aload_n k35_8 rfl ?_
    refine aw_iconst (v := 0) k35_9 (by decide) ?_
    refine aw_putI k35_10 hC_O_endOrder fs_O_35 (by decide) ⟨rfl, rfl⟩ rfl po_2_8 ?_
    refine aw_iconst (v := 1) k35_13 (by decide) ?_
    refine aw_zreturn k35_14 hR_O_endOrder ?_ ?_ ?_
    all_goals first | rfl | exact Or.inl rfl | exact Or.inr rfl | assumption | (simp_all; done) | ((repeat' split) <;> first | rfl | (simp only [Int32.lt_iff_toInt_lt, Int32.le_iff_toInt_le, Int64.lt_iff_toInt_lt, Int64.le_iff_toInt_le] at *; omega) | (simp_all; done))
  · exact absurd rfl c_3
theorem s_O_endOrderN {d : Nat} {M : mM} {c : Int32} (h : ¬ c = 59) : CT iO_endOrder d [vR 2 0 0, vI c] M (.inl (some (vI 0))) M 0 := by
  refine ct_go hL_O_endOrder rfl ?_
  refine aw_iload_n k35_0 rfl ?_
  refine aw_bipush (v := 59) k35_1 (by decide) ?_
  refine aw_icmp_eq 8 k35_3 (by decide) (fun c_3 => ?_) (fun c_3 => ?_)
  · exact absurd c_3 h
  · refine aw_iconst (v := 0) k35_6 (by decide) ?_
    refine aw_zreturn k35_7 hR_O_endOrder ?_ ?_ ?_
    all_goals first | rfl | exact Or.inl rfl | exact Or.inr rfl | assumption | (simp_all; done) | ((repeat' split) <;> first | rfl | (simp only [Int32.lt_iff_toInt_lt, Int32.le_iff_toInt_le, Int64.lt_iff_toInt_lt, Int64.le_iff_toInt_le] at *; omega) | (simp_all; done))
theorem s_O_beginLeg {d k : Nat} {M : mM} {c : Int32} (hk : k < 80) (h : M (2, 0, 0) 7 = nI k) (hc : c = 101 ∨ c = 119) : CT iO_beginOrder (d + 1) [vR 2 0 0, vI c] M (.inl (some (vI 1))) (oKd (mUp M (2, 0, 0) 9 (if c = 101 then 1 else -1)) k 0 3) 0 := by
  refine ct_go hL_O_beginOrder rfl ?_
  have e : ∀ v, mUp M (2, 0, 0) 9 v (2, 0, 0) 7 = nI k := fun v => by rw [← h]; simp [mUp_at]
  obtain rfl | rfl := hc
  · rw [if_pos rfl]
    refine aw_iload_n k33_0 rfl ?_
    refine aw_bipush (v := 101) k33_1 (by decide) ?_
    refine aw_icmp_eq 12 k33_3 (by decide) (fun c_3 => ?_) (fun c_3 => ?_)
    · refine aw_aload_n k33_12 rfl ?_
      refine aw_iload_n k33_13 rfl ?_
      refine aw_bipush (v := 101) k33_14 (by decide) ?_
      refine aw_icmp_ne 23 k33_16 (by decide) (fun c_16 => ?_) (fun c_16 => ?_)
      · exact absurd rfl c_16
      · refine aw_iconst (v := 1) k33_19 (by decide) ?_
        refine aw_goto (t := 24) k33_20 (by decide) ?_
        refine aw_putI k33_24 hC_O_beginOrder fs_O_72 (by decide) ⟨rfl, rfl⟩ rfl po_2_9 ?_
        refine aw_aload_n k33_27 rfl ?_
        refine aw_iconst (v := 0) k33_28 (by decide) ?_
        refine aw_iconst (v := 3) k33_29 (by decide) ?_
        refine aw_callV2 k33_30 hC_O_beginOrder ok_O_noteKind sv_O_75 hH_O_noteKind ⟨rfl, rfl⟩ (by decide) hN_O_noteKind (by rw [hL_O_noteKind]; exact Nat.le_of_ble_eq_true rfl) (Nat.le_of_ble_eq_true rfl) (s_O_noteKind hk (e _)) ?_
        refine aw_zreturn k33_33 hR_O_beginOrder ?_ ?_ ?_
        all_goals first | rfl | exact Or.inl rfl | exact Or.inr rfl | assumption | (simp_all; done) | ((repeat' split) <;> first | rfl | (simp only [Int32.lt_iff_toInt_lt, Int32.le_iff_toInt_le, Int64.lt_iff_toInt_lt, Int64.le_iff_toInt_le] at *; omega) | (simp_all; done))
    · exact absurd rfl c_3
  · rw [if_neg (by decide)]
    refine aw_iload_n k33_0 rfl ?_
    refine aw_bipush (v := 101) k33_1 (by decide) ?_
    refine aw_icmp_eq 12 k33_3 (by decide) (fun c_3 => ?_) (fun c_3 => ?_)
    · exact absurd c_3 (by decide)
    · refine aw_iload_n k33_6 rfl ?_
      refine aw_bipush (v := 119) k33_7 (by decide) ?_
      refine aw_icmp_ne 34 k33_9 (by decide) (fun c_9 => ?_) (fun c_9 => ?_)
      · exact absurd rfl c_9
      · refine aw_aload_n k33_12 rfl ?_
        refine aw_iload_n k33_13 rfl ?_
        refine aw_bipush (v := 101) k33_14 (by decide) ?_
        refine aw_icmp_ne 23 k33_16 (by decide) (fun c_16 => ?_) (fun c_16 => ?_)
        · refine aw_iconst (v := (-1)) k33_23 (by decide) ?_
          refine aw_putI k33_24 hC_O_beginOrder fs_O_72 (by decide) ⟨rfl, rfl⟩ rfl po_2_9 ?_
          refine aw_aload_n k33_27 rfl ?_
          refine aw_iconst (v := 0) k33_28 (by decide) ?_
          refine aw_iconst (v := 3) k33_29 (by decide) ?_
          refine aw_callV2 k33_30 hC_O_beginOrder ok_O_noteKind sv_O_75 hH_O_noteKind ⟨rfl, rfl⟩ (by decide) hN_O_noteKind (by rw [hL_O_noteKind]; exact Nat.le_of_ble_eq_true rfl) (Nat.le_of_ble_eq_true rfl) (s_O_noteKind hk (e _)) ?_
          refine aw_zreturn k33_33 hR_O_beginOrder ?_ ?_ ?_
          all_goals first | rfl | exact Or.inl rfl | exact Or.inr rfl | assumption | (simp_all; done) | ((repeat' split) <;> first | rfl | (simp only [Int32.lt_iff_toInt_lt, Int32.le_iff_toInt_le, Int64.lt_iff_toInt_lt, Int64.le_iff_toInt_le] at *; omega) | (simp_all; done))
        · exact absurd c_16 (by decide)
theorem s_O_beginB {d k : Nat} {M : mM} (hk : k < 80) (h : M (2, 0, 0) 7 = nI k) : CT iO_beginOrder (d + 1) [vR 2 0 0, vI 98] M (.inl (some (vI 1))) (oKd M k 1 1) 0 := by
  refine ct_go hL_O_beginOrder rfl ?_
  refine aw_iload_n k33_0 rfl ?_
  refine aw_bipush (v := 101) k33_1 (by decide) ?_
  refine aw_icmp_eq 12 k33_3 (by decide) (fun c_3 => ?_) (fun c_3 => ?_)
  · exact absurd c_3 (by decide)
  · refine aw_iload_n k33_6 rfl ?_
    refine aw_bipush (v := 119) k33_7 (by decide) ?_
    refine aw_icmp_ne 34 k33_9 (by decide) (fun c_9 => ?_) (fun c_9 => ?_)
    · refine aw_iload_n k33_34 rfl ?_
      refine aw_bipush (v := 98) k33_35 (by decide) ?_
      refine aw_icmp_ne 47 k33_37 (by decide) (fun c_37 => ?_) (fun c_37 => ?_)
      · exact absurd rfl c_37
      · refine aw_aload_n k33_40 rfl ?_
        refine aw_iconst (v := 1) k33_41 (by decide) ?_
        refine aw_iconst (v := 1) k33_42 (by decide) ?_
        refine aw_callV2 k33_43 hC_O_beginOrder ok_O_noteKind sv_O_75 hH_O_noteKind ⟨rfl, rfl⟩ (by decide) hN_O_noteKind (by rw [hL_O_noteKind]; exact Nat.le_of_ble_eq_true rfl) (Nat.le_of_ble_eq_true rfl) (s_O_noteKind hk h) ?_
        refine aw_zreturn k33_46 hR_O_beginOrder ?_ ?_ ?_
        all_goals first | rfl | exact Or.inl rfl | exact Or.inr rfl | assumption | (simp_all; done) | ((repeat' split) <;> first | rfl | (simp only [Int32.lt_iff_toInt_lt, Int32.le_iff_toInt_le, Int64.lt_iff_toInt_lt, Int64.le_iff_toInt_le] at *; omega) | (simp_all; done))
    · exact absurd c_9 (by decide)
theorem s_O_beginK {d k : Nat} {M : mM} (hk : k < 80) (h : M (2, 0, 0) 7 = nI k) : CT iO_beginOrder (d + 1) [vR 2 0 0, vI 107] M (.inl (some (vI 1))) (oKd M k 2 1) 0 := by
  refine ct_go hL_O_beginOrder rfl ?_
  refine aw_iload_n k33_0 rfl ?_
  refine aw_bipush (v := 101) k33_1 (by decide) ?_
  refine aw_icmp_eq 12 k33_3 (by decide) (fun c_3 => ?_) (fun c_3 => ?_)
  · exact absurd c_3 (by decide)
  · refine aw_iload_n k33_6 rfl ?_
    refine aw_bipush (v := 119) k33_7 (by decide) ?_
    refine aw_icmp_ne 34 k33_9 (by decide) (fun c_9 => ?_) (fun c_9 => ?_)
    · refine aw_iload_n k33_34 rfl ?_
      refine aw_bipush (v := 98) k33_35 (by decide) ?_
      refine aw_icmp_ne 47 k33_37 (by decide) (fun c_37 => ?_) (fun c_37 => ?_)
      · refine aw_iload_n k33_47 rfl ?_
        refine aw_bipush (v := 107) k33_48 (by decide) ?_
        refine aw_icmp_ne 60 k33_50 (by decide) (fun c_50 => ?_) (fun c_50 => ?_)
        · exact absurd rfl c_50
        · refine aw_aload_n k33_53 rfl ?_
          refine aw_iconst (v := 2) k33_54 (by decide) ?_
          refine aw_iconst (v := 1) k33_55 (by decide) ?_
          refine aw_callV2 k33_56 hC_O_beginOrder ok_O_noteKind sv_O_75 hH_O_noteKind ⟨rfl, rfl⟩ (by decide) hN_O_noteKind (by rw [hL_O_noteKind]; exact Nat.le_of_ble_eq_true rfl) (Nat.le_of_ble_eq_true rfl) (s_O_noteKind hk h) ?_
          refine aw_zreturn k33_59 hR_O_beginOrder ?_ ?_ ?_
          all_goals first | rfl | exact Or.inl rfl | exact Or.inr rfl | assumption | (simp_all; done) | ((repeat' split) <;> first | rfl | (simp only [Int32.lt_iff_toInt_lt, Int32.le_iff_toInt_le, Int64.lt_iff_toInt_lt, Int64.le_iff_toInt_le] at *; omega) | (simp_all; done))
      · exact absurd c_37 (by decide)
    · exact absurd c_9 (by decide)
theorem s_O_beginG {d k : Nat} {M : mM} (hk : k < 80) (h : M (2, 0, 0) 7 = nI k) : CT iO_beginOrder (d + 1) [vR 2 0 0, vI 103] M (.inl (some (vI 1))) (oKd M k 3 2) 0 := by
  refine ct_go hL_O_beginOrder rfl ?_
  refine aw_iload_n k33_0 rfl ?_
  refine aw_bipush (v := 101) k33_1 (by decide) ?_
  refine aw_icmp_eq 12 k33_3 (by decide) (fun c_3 => ?_) (fun c_3 => ?_)
  · exact absurd c_3 (by decide)
  · refine aw_iload_n k33_6 rfl ?_
    refine aw_bipush (v := 119) k33_7 (by decide) ?_
    refine aw_icmp_ne 34 k33_9 (by decide) (fun c_9 => ?_) (fun c_9 => ?_)
    · refine aw_iload_n k33_34 rfl ?_
      refine aw_bipush (v := 98) k33_35 (by decide) ?_
      refine aw_icmp_ne 47 k33_37 (by decide) (fun c_37 => ?_) (fun c_37 => ?_)
      · refine aw_iload_n k33_47 rfl ?_
        refine aw_bipush (v := 107) k33_48 (by decide) ?_
        refine aw_icmp_ne 60 k33_50 (by decide) (fun c_50 => ?_) (fun c_50 => ?_)
        · refine aw_iload_n k33_60 rfl ?_
          refine aw_bipush (v := 103) k33_61 (by decide) ?_
          refine aw_icmp_ne 79 k33_63 (by decide) (fun c_63 => ?_) (fun c_63 => ?_)
          · exact absurd rfl c_63
          · refine aw_aload_n k33_66 rfl ?_
            refine aw_iconst (v := 3) k33_67 (by decide) ?_
            refine aw_iconst (v := 2) k33_68 (by decide) ?_
            refine aw_callV2 k33_69 hC_O_beginOrder ok_O_noteKind sv_O_75 hH_O_noteKind ⟨rfl, rfl⟩ (by decide) hN_O_noteKind (by rw [hL_O_noteKind]; exact Nat.le_of_ble_eq_true rfl) (Nat.le_of_ble_eq_true rfl) (s_O_noteKind hk h) ?_
            refine aw_if_eq 79 k33_72 (by decide) (fun c_72 => ?_) (fun c_72 => ?_)
            · exact absurd c_72 (by decide)
            · refine aw_iconst (v := 1) k33_75 (by decide) ?_
              refine aw_goto (t := 80) k33_76 (by decide) ?_
              refine aw_zreturn k33_80 hR_O_beginOrder ?_ ?_ ?_
              all_goals first | rfl | exact Or.inl rfl | exact Or.inr rfl | assumption | (simp_all; done) | ((repeat' split) <;> first | rfl | (simp only [Int32.lt_iff_toInt_lt, Int32.le_iff_toInt_le, Int64.lt_iff_toInt_lt, Int64.le_iff_toInt_le] at *; omega) | (simp_all; done))
        · exact absurd c_50 (by decide)
      · exact absurd c_37 (by decide)
    · exact absurd c_9 (by decide)
theorem s_O_beginN {d : Nat} {M : mM} {c : Int32} (h : ¬ c = 101 ∧ ¬ c = 119 ∧ ¬ c = 98 ∧ ¬ c = 107 ∧ ¬ c = 103) : CT iO_beginOrder (d + 1) [vR 2 0 0, vI c] M (.inl (some (vI 0))) M 0 := by
  obtain ⟨h1, h2, h3, h4, h5⟩ := h
  refine ct_go hL_O_beginOrder rfl ?_
  refine aw_iload_n k33_0 rfl ?_
  refine aw_bipush (v := 101) k33_1 (by decide) ?_
  refine aw_icmp_eq 12 k33_3 (by decide) (fun c_3 => ?_) (fun c_3 => ?_)
  · exact absurd c_3 h1
  · refine aw_iload_n k33_6 rfl ?_
    refine aw_bipush (v := 119) k33_7 (by decide) ?_
    refine aw_icmp_ne 34 k33_9 (by decide) (fun c_9 => ?_) (fun c_9 => ?_)
    · refine aw_iload_n k33_34 rfl ?_
      refine aw_bipush (v := 98) k33_35 (by decide) ?_
      refine aw_icmp_ne 47 k33_37 (by decide) (fun c_37 => ?_) (fun c_37 => ?_)
      · refine aw_iload_n k33_47 rfl ?_
        refine aw_bipush (v := 107) k33_48 (by decide) ?_
        refine aw_icmp_ne 60 k33_50 (by decide) (fun c_50 => ?_) (fun c_50 => ?_)
        · refine aw_iload_n k33_60 rfl ?_
          refine aw_bipush (v := 103) k33_61 (by decide) ?_
          refine aw_icmp_ne 79 k33_63 (by decide) (fun c_63 => ?_) (fun c_63 => ?_)
          · refine aw_iconst (v := 0) k33_79 (by decide) ?_
            refine aw_zreturn k33_80 hR_O_beginOrder ?_ ?_ ?_
            all_goals first | rfl | exact Or.inl rfl | exact Or.inr rfl | assumption | (simp_all; done) | ((repeat' split) <;> first | rfl | (simp only [Int32.lt_iff_toInt_lt, Int32.le_iff_toInt_le, Int64.lt_iff_toInt_lt, Int64.le_iff_toInt_le] at *; omega) | (simp_all; done))
          · exact absurd c_63 h5
        · exact absurd c_50 h4
      · exact absurd c_37 h3
    · exact absurd c_9 h2
theorem s_O_readField {d k : Nat} {M : mM} {c : Int32} (hk : k < 80) (h : M (2, 0, 0) 7 = nI (k + 1)) (hc : 48 ≤ c ∧ c ≤ 53) : CT iO_readField (d + 1) [vR 2 0 0, vI c] M (.inl (some (vI 1))) (mUp (mUp M (12, 0, 5) k (c - 48)) (2, 0, 0) 8 1) 0 := by
  refine ct_go hL_O_readField rfl ?_
  refine aw_iload_n k36_0 rfl ?_
  refine aw_bipush (v := 48) k36_1 (by decide) ?_
  refine aw_icmp_lt 12 k36_3 (by decide) (fun c_3 => ?_) (fun c_3 => ?_)
  · exact absurd hc.1 (Int32.not_le.mpr c_3)
  · refine aw_iload_n k36_6 rfl ?_
    refine aw_bipush (v := 53) k36_7 (by decide) ?_
    refine aw_icmp_le 14 k36_9 (by decide) (fun c_9 => ?_) (fun c_9 => ?_)
    · refine aw_aload_n k36_14 rfl ?_
      refine aw_aload_n k36_15 rfl ?_
      refine aw_getR k36_16 hC_O_readField fs_O_28 (by decide) ⟨rfl, rfl⟩ rfl ?_
      refine aw_iload_n k36_19 rfl ?_
      refine aw_bipush (v := 48) k36_20 (by decide) ?_
      refine aw_isub k36_22 ?_
      refine aw_callV2v k36_23 hC_O_readField ok_O_note sv_O_79 hH_O_note ⟨rfl, rfl⟩ (by decide) hN_O_note (by rw [hL_O_note]; exact Nat.le_of_ble_eq_true rfl) (Nat.le_of_ble_eq_true rfl) (s_O_note hk (by decide) (by decide) h) ?_
      refine aw_aload_n k36_26 rfl ?_
      refine aw_iconst (v := 1) k36_27 (by decide) ?_
      refine aw_putI k36_28 hC_O_readField fs_O_35 (by decide) ⟨rfl, rfl⟩ rfl po_2_8 ?_
      refine aw_iconst (v := 1) k36_31 (by decide) ?_
      refine aw_zreturn k36_32 hR_O_readField ?_ ?_ ?_
      all_goals first | rfl | exact Or.inl rfl | exact Or.inr rfl | assumption | (simp_all; done) | ((repeat' split) <;> first | rfl | (simp only [Int32.lt_iff_toInt_lt, Int32.le_iff_toInt_le, Int64.lt_iff_toInt_lt, Int64.le_iff_toInt_le] at *; omega) | (simp_all; done))
    · exact absurd hc.2 c_9
theorem s_O_readFieldN {d : Nat} {M : mM} {c : Int32} (hc : ¬ (48 ≤ c ∧ c ≤ 53)) : CT iO_readField (d + 1) [vR 2 0 0, vI c] M (.inl (some (vI 0))) M 0 := by
  refine ct_go hL_O_readField rfl ?_
  refine aw_iload_n k36_0 rfl ?_
  refine aw_bipush (v := 48) k36_1 (by decide) ?_
  refine aw_icmp_lt 12 k36_3 (by decide) (fun c_3 => ?_) (fun c_3 => ?_)
  · refine aw_iconst (v := 0) k36_12 (by decide) ?_
    refine aw_zreturn k36_13 hR_O_readField ?_ ?_ ?_
    all_goals first | rfl | exact Or.inl rfl | exact Or.inr rfl | assumption | (simp_all; done) | ((repeat' split) <;> first | rfl | (simp only [Int32.lt_iff_toInt_lt, Int32.le_iff_toInt_le, Int64.lt_iff_toInt_lt, Int64.le_iff_toInt_le] at *; omega) | (simp_all; done))
  · refine aw_iload_n k36_6 rfl ?_
    refine aw_bipush (v := 53) k36_7 (by decide) ?_
    refine aw_icmp_le 14 k36_9 (by decide) (fun c_9 => ?_) (fun c_9 => ?_)
    · exact absurd ⟨Int32.not_lt.mp c_3, c_9⟩ hc
    · refine aw_iconst (v := 0) k36_12 (by decide) ?_
      refine aw_zreturn k36_13 hR_O_readField ?_ ?_ ?_
      all_goals first | rfl | exact Or.inl rfl | exact Or.inr rfl | assumption | (simp_all; done) | ((repeat' split) <;> first | rfl | (simp only [Int32.lt_iff_toInt_lt, Int32.le_iff_toInt_le, Int64.lt_iff_toInt_lt, Int64.le_iff_toInt_le] at *; omega) | (simp_all; done))
theorem s_O_beginNumber {d : Nat} {M : mM} {c a e : Int32} (hc : a ≤ c ∧ c ≤ 57) : CT iO_beginNumber d [vR 2 0 0, vI c, vI a, vI e] M (.inl (some (vI 1))) (mUp (mUp M (2, 0, 0) 10 (c - 48)) (2, 0, 0) 8 e) 0 := by
  refine ct_go hL_O_beginNumber rfl ?_
  refine aw_iload_n k37_0 rfl ?_
  refine aw_iload_n k37_1 rfl ?_
  refine aw_icmp_lt 11 k37_2 (by decide) (fun c_2 => ?_) (fun c_2 => ?_)
  · exact absurd hc.1 (Int32.not_le.mpr c_2)
  · refine aw_iload_n k37_5 rfl ?_
    refine aw_bipush (v := 57) k37_6 (by decide) ?_
    refine aw_icmp_le 13 k37_8 (by decide) (fun c_8 => ?_) (fun c_8 => ?_)
    · refine aw_aload_n k37_13 rfl ?_
      refine aw_iload_n k37_14 rfl ?_
      refine aw_bipush (v := 48) k37_15 (by decide) ?_
      refine aw_isub k37_17 ?_
      refine aw_putI k37_18 hC_O_beginNumber fs_O_83 (by decide) ⟨rfl, rfl⟩ rfl po_2_10 ?_
      refine aw_aload_n k37_21 rfl ?_
      refine aw_iload_n k37_22 rfl ?_
      refine aw_putI k37_23 hC_O_beginNumber fs_O_35 (by decide) ⟨rfl, rfl⟩ rfl po_2_8 ?_
      refine aw_iconst (v := 1) k37_26 (by decide) ?_
      refine aw_zreturn k37_27 hR_O_beginNumber ?_ ?_ ?_
      all_goals first | rfl | exact Or.inl rfl | exact Or.inr rfl | assumption | (simp_all; done) | ((repeat' split) <;> first | rfl | (simp only [Int32.lt_iff_toInt_lt, Int32.le_iff_toInt_le, Int64.lt_iff_toInt_lt, Int64.le_iff_toInt_le] at *; omega) | (simp_all; done))
    · exact absurd hc.2 c_8
theorem s_O_beginNumberN {d : Nat} {M : mM} {c a e : Int32} (hc : ¬ (a ≤ c ∧ c ≤ 57)) : CT iO_beginNumber d [vR 2 0 0, vI c, vI a, vI e] M (.inl (some (vI 0))) M 0 := by
  refine ct_go hL_O_beginNumber rfl ?_
  refine aw_iload_n k37_0 rfl ?_
  refine aw_iload_n k37_1 rfl ?_
  refine aw_icmp_lt 11 k37_2 (by decide) (fun c_2 => ?_) (fun c_2 => ?_)
  · refine aw_iconst (v := 0) k37_11 (by decide) ?_
    refine aw_zreturn k37_12 hR_O_beginNumber ?_ ?_ ?_
    all_goals first | rfl | exact Or.inl rfl | exact Or.inr rfl | assumption | (simp_all; done) | ((repeat' split) <;> first | rfl | (simp only [Int32.lt_iff_toInt_lt, Int32.le_iff_toInt_le, Int64.lt_iff_toInt_lt, Int64.le_iff_toInt_le] at *; omega) | (simp_all; done))
  · refine aw_iload_n k37_5 rfl ?_
    refine aw_bipush (v := 57) k37_6 (by decide) ?_
    refine aw_icmp_le 13 k37_8 (by decide) (fun c_8 => ?_) (fun c_8 => ?_)
    · exact absurd ⟨Int32.not_lt.mp c_2, c_8⟩ hc
    · refine aw_iconst (v := 0) k37_11 (by decide) ?_
      refine aw_zreturn k37_12 hR_O_beginNumber ?_ ?_ ?_
      all_goals first | rfl | exact Or.inl rfl | exact Or.inr rfl | assumption | (simp_all; done) | ((repeat' split) <;> first | rfl | (simp only [Int32.lt_iff_toInt_lt, Int32.le_iff_toInt_le, Int64.lt_iff_toInt_lt, Int64.le_iff_toInt_le] at *; omega) | (simp_all; done))
abbrev grows (c v most : Int32) : Prop := (48 ≤ c ∧ c ≤ 57) ∧ ¬ v = 0 ∧ v * 10 + (c - 48) ≤ most
theorem s_O_growNumber {d : Nat} {M : mM} {c v a : Int32} (h : M (2, 0, 0) 10 = v) (hc : grows c v a) : CT iO_growNumber d [vR 2 0 0, vI c, vI a] M (.inl (some (vI 1))) (mUp M (2, 0, 0) 10 (v * 10 + (c - 48))) 0 := by
  obtain ⟨⟨h1, h2⟩, h3, h4⟩ := hc
  refine ct_go hL_O_growNumber rfl ?_
  refine aw_iload_n k38_0 rfl ?_
  refine aw_bipush (v := 48) k38_1 (by decide) ?_
  refine aw_icmp_lt 19 k38_3 (by decide) (fun c_3 => ?_) (fun c_3 => ?_)
  · exact absurd h1 (Int32.not_le.mpr c_3)
  · refine aw_iload_n k38_6 rfl ?_
    refine aw_bipush (v := 57) k38_7 (by decide) ?_
    refine aw_icmp_gt 19 k38_9 (by decide) (fun c_9 => ?_) (fun c_9 => ?_)
    · exact absurd h2 (Int32.not_le.mpr c_9)
    · refine aw_aload_n k38_12 rfl ?_
      refine aw_getI k38_13 hC_O_growNumber fs_O_83 (by decide) ⟨rfl, rfl⟩ rfl ?_
      try simp only [h]
      refine aw_if_ne 21 k38_16 (by decide) (fun c_16 => ?_) (fun c_16 => ?_)
      · refine aw_aload_n k38_21 rfl ?_
        refine aw_getI k38_22 hC_O_growNumber fs_O_83 (by decide) ⟨rfl, rfl⟩ rfl ?_
        try simp only [h]
        refine aw_bipush (v := 10) k38_25 (by decide) ?_
        refine aw_imul k38_27 ?_
        refine aw_iload_n k38_28 rfl ?_
        refine aw_bipush (v := 48) k38_29 (by decide) ?_
        refine aw_isub k38_31 ?_
        refine aw_iadd k38_32 ?_
        refine aw_istore_n k38_33 (Nat.le_of_ble_eq_true rfl) rfl ?_
        refine aw_iload_n k38_34 rfl ?_
        refine aw_iload_n k38_35 rfl ?_
        refine aw_icmp_le 41 k38_36 (by decide) (fun c_36 => ?_) (fun c_36 => ?_)
        · refine aw_aload_n k38_41 rfl ?_
          refine aw_iload_n k38_42 rfl ?_
          refine aw_putI k38_43 hC_O_growNumber fs_O_83 (by decide) ⟨rfl, rfl⟩ rfl po_2_10 ?_
          try simp only [h]
          refine aw_iconst (v := 1) k38_46 (by decide) ?_
          refine aw_zreturn k38_47 hR_O_growNumber ?_ ?_ ?_
          all_goals first | rfl | exact Or.inl rfl | exact Or.inr rfl | assumption | (simp_all; done) | ((repeat' split) <;> first | rfl | (simp only [Int32.lt_iff_toInt_lt, Int32.le_iff_toInt_le, Int64.lt_iff_toInt_lt, Int64.le_iff_toInt_le] at *; omega) | (simp_all; done))
        · exact absurd h4 c_36
      · exact absurd c_16 h3
theorem s_O_growNumberN {d : Nat} {M : mM} {c v a : Int32} (h : M (2, 0, 0) 10 = v) (hc : ¬ grows c v a) : CT iO_growNumber d [vR 2 0 0, vI c, vI a] M (.inl (some (vI 0))) M 0 := by
  refine ct_go hL_O_growNumber rfl ?_
  refine aw_iload_n k38_0 rfl ?_
  refine aw_bipush (v := 48) k38_1 (by decide) ?_
  refine aw_icmp_lt 19 k38_3 (by decide) (fun c_3 => ?_) (fun c_3 => ?_)
  · refine aw_iconst (v := 0) k38_19 (by decide) ?_
    refine aw_zreturn k38_20 hR_O_growNumber ?_ ?_ ?_
    all_goals first | rfl | exact Or.inl rfl | exact Or.inr rfl | assumption | (simp_all; done) | ((repeat' split) <;> first | rfl | (simp only [Int32.lt_iff_toInt_lt, Int32.le_iff_toInt_le, Int64.lt_iff_toInt_lt, Int64.le_iff_toInt_le] at *; omega) | (simp_all; done))
  · refine aw_iload_n k38_6 rfl ?_
    refine aw_bipush (v := 57) k38_7 (by decide) ?_
    refine aw_icmp_gt 19 k38_9 (by decide) (fun c_9 => ?_) (fun c_9 => ?_)
    · refine aw_iconst (v := 0) k38_19 (by decide) ?_
      refine aw_zreturn k38_20 hR_O_growNumber ?_ ?_ ?_
      all_goals first | rfl | exact Or.inl rfl | exact Or.inr rfl | assumption | (simp_all; done) | ((repeat' split) <;> first | rfl | (simp only [Int32.lt_iff_toInt_lt, Int32.le_iff_toInt_le, Int64.lt_iff_toInt_lt, Int64.le_iff_toInt_le] at *; omega) | (simp_all; done))
    · refine aw_aload_n k38_12 rfl ?_
      refine aw_getI k38_13 hC_O_growNumber fs_O_83 (by decide) ⟨rfl, rfl⟩ rfl ?_
      try simp only [h]
      refine aw_if_ne 21 k38_16 (by decide) (fun c_16 => ?_) (fun c_16 => ?_)
      · refine aw_aload_n k38_21 rfl ?_
        refine aw_getI k38_22 hC_O_growNumber fs_O_83 (by decide) ⟨rfl, rfl⟩ rfl ?_
        try simp only [h]
        refine aw_bipush (v := 10) k38_25 (by decide) ?_
        refine aw_imul k38_27 ?_
        refine aw_iload_n k38_28 rfl ?_
        refine aw_bipush (v := 48) k38_29 (by decide) ?_
        refine aw_isub k38_31 ?_
        refine aw_iadd k38_32 ?_
        refine aw_istore_n k38_33 (Nat.le_of_ble_eq_true rfl) rfl ?_
        refine aw_iload_n k38_34 rfl ?_
        refine aw_iload_n k38_35 rfl ?_
        refine aw_icmp_le 41 k38_36 (by decide) (fun c_36 => ?_) (fun c_36 => ?_)
        · exact absurd ⟨⟨Int32.not_lt.mp c_3, Int32.not_lt.mp c_9⟩, c_16, c_36⟩ hc
        · refine aw_iconst (v := 0) k38_39 (by decide) ?_
          refine aw_zreturn k38_40 hR_O_growNumber ?_ ?_ ?_
          all_goals first | rfl | exact Or.inl rfl | exact Or.inr rfl | assumption | (simp_all; done) | ((repeat' split) <;> first | rfl | (simp only [Int32.lt_iff_toInt_lt, Int32.le_iff_toInt_le, Int64.lt_iff_toInt_lt, Int64.le_iff_toInt_le] at *; omega) | (simp_all; done))
      · refine aw_iconst (v := 0) k38_19 (by decide) ?_
        refine aw_zreturn k38_20 hR_O_growNumber ?_ ?_ ?_
        all_goals first | rfl | exact Or.inl rfl | exact Or.inr rfl | assumption | (simp_all; done) | ((repeat' split) <;> first | rfl | (simp only [Int32.lt_iff_toInt_lt, Int32.le_iff_toInt_le, Int64.lt_iff_toInt_lt, Int64.le_iff_toInt_le] at *; omega) | (simp_all; done))
