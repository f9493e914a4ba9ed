/-! THE ORDERS: what each sign is where it stands -/
def oEast (M : mM) (k : Nat) (v g : Int32) : mM := mUp (mUp (mUp M (12, 0, 2) k v) (2, 0, 0) 9 g) (2, 0, 0) 8 5
theorem s_O_endEast {d k : Nat} {M : mM} {c x v : Int32} (hk : k < 80) (h7 : M (2, 0, 0) 7 = nI (k + 1)) (h9 : M (2, 0, 0) 9 = x) (h10 : M (2, 0, 0) 10 = v) (hc : c = 110 ∨ c = 115) : CT iO_endEast (d + 1) [vR 2 0 0, vI c] M (.inl (some (vI 1))) (oEast M k (x * v) (if c = 110 then 1 else -1)) 0 := by
  refine ct_go hL_O_endEast rfl ?_
  obtain rfl | rfl := hc
  · rw [if_pos rfl]
    refine aw_iload_n k39_0 rfl ?_
    refine aw_bipush (v := 110) k39_1 (by decide) ?_
    refine aw_icmp_eq 14 k39_3 (by decide) (fun c_3 => ?_) (fun c_3 => ?_)
    · refine aw_aload_n k39_14 rfl ?_
      refine aw_aload_n k39_15 rfl ?_
      refine aw_getR k39_16 hC_O_endEast fs_O_19 (by decide) ⟨rfl, rfl⟩ rfl ?_
      try simp only [h9, h10]
      refine aw_aload_n k39_19 rfl ?_
      refine aw_getI k39_20 hC_O_endEast fs_O_72 (by decide) ⟨rfl, rfl⟩ rfl ?_
      try simp only [h9, h10]
      refine aw_aload_n k39_23 rfl ?_
      refine aw_getI k39_24 hC_O_endEast fs_O_83 (by decide) ⟨rfl, rfl⟩ rfl ?_
      try simp only [h9, h10]
      refine aw_imul k39_27 ?_
      refine aw_callV2v k39_28 hC_O_endEast ok_O_note sv_O_79 hH_O_note ⟨rfl, rfl⟩ (by decide) hN_O_note (by rw [hL_O_note]; exact Nat.le_of_ble_eq_true rfl) (Nat.le_of_ble_eq_true rfl) (s_O_note hk (by decide) (by decide) h7) ?_
      refine aw_aload_n k39_31 rfl ?_
      refine aw_iload_n k39_32 rfl ?_
      refine aw_bipush (v := 110) k39_33 (by decide) ?_
      refine aw_icmp_ne 42 k39_35 (by decide) (fun c_35 => ?_) (fun c_35 => ?_)
      · exact absurd rfl c_35
      · refine aw_iconst (v := 1) k39_38 (by decide) ?_
        refine aw_goto (t := 43) k39_39 (by decide) ?_
        refine aw_putI k39_43 hC_O_endEast fs_O_72 (by decide) ⟨rfl, rfl⟩ rfl po_2_9 ?_
        try simp only [h9, h10]
        refine aw_aload_n k39_46 rfl ?_
        refine aw_iconst (v := 5) k39_47 (by decide) ?_
        refine aw_putI k39_48 hC_O_endEast fs_O_35 (by decide) ⟨rfl, rfl⟩ rfl po_2_8 ?_
        try simp only [h9, h10]
        refine aw_iconst (v := 1) k39_51 (by decide) ?_
        refine aw_zreturn k39_52 hR_O_endEast ?_ ?_ ?_
        all_goals first | rfl | exact Or.inl rfl | exact Or.inr rfl | assumption | (simp_all; done) | ((repeat' split) <;> first | rfl | (simp only [Int32.lt_iff_toInt_lt, Int32.le_iff_toInt_le, Int64.lt_iff_toInt_lt, Int64.le_iff_toInt_le] at *; omega) | (simp_all; done))
    · exact absurd rfl c_3
  · rw [if_neg (by decide)]
    refine aw_iload_n k39_0 rfl ?_
    refine aw_bipush (v := 110) k39_1 (by decide) ?_
    refine aw_icmp_eq 14 k39_3 (by decide) (fun c_3 => ?_) (fun c_3 => ?_)
    · exact absurd c_3 (by decide)
    · refine aw_iload_n k39_6 rfl ?_
      refine aw_bipush (v := 115) k39_7 (by decide) ?_
      refine aw_icmp_eq 14 k39_9 (by decide) (fun c_9 => ?_) (fun c_9 => ?_)
      · refine aw_aload_n k39_14 rfl ?_
        refine aw_aload_n k39_15 rfl ?_
        refine aw_getR k39_16 hC_O_endEast fs_O_19 (by decide) ⟨rfl, rfl⟩ rfl ?_
        try simp only [h9, h10]
        refine aw_aload_n k39_19 rfl ?_
        refine aw_getI k39_20 hC_O_endEast fs_O_72 (by decide) ⟨rfl, rfl⟩ rfl ?_
        try simp only [h9, h10]
        refine aw_aload_n k39_23 rfl ?_
        refine aw_getI k39_24 hC_O_endEast fs_O_83 (by decide) ⟨rfl, rfl⟩ rfl ?_
        try simp only [h9, h10]
        refine aw_imul k39_27 ?_
        refine aw_callV2v k39_28 hC_O_endEast ok_O_note sv_O_79 hH_O_note ⟨rfl, rfl⟩ (by decide) hN_O_note (by rw [hL_O_note]; exact Nat.le_of_ble_eq_true rfl) (Nat.le_of_ble_eq_true rfl) (s_O_note hk (by decide) (by decide) h7) ?_
        refine aw_aload_n k39_31 rfl ?_
        refine aw_iload_n k39_32 rfl ?_
        refine aw_bipush (v := 110) k39_33 (by decide) ?_
        refine aw_icmp_ne 42 k39_35 (by decide) (fun c_35 => ?_) (fun c_35 => ?_)
        · refine aw_iconst (v := (-1)) k39_42 (by decide) ?_
          refine aw_putI k39_43 hC_O_endEast fs_O_72 (by decide) ⟨rfl, rfl⟩ rfl po_2_9 ?_
          try simp only [h9, h10]
          refine aw_aload_n k39_46 rfl ?_
          refine aw_iconst (v := 5) k39_47 (by decide) ?_
          refine aw_putI k39_48 hC_O_endEast fs_O_35 (by decide) ⟨rfl, rfl⟩ rfl po_2_8 ?_
          try simp only [h9, h10]
          refine aw_iconst (v := 1) k39_51 (by decide) ?_
          refine aw_zreturn k39_52 hR_O_endEast ?_ ?_ ?_
          all_goals first | rfl | exact Or.inl rfl | exact Or.inr rfl | assumption | (simp_all; done) | ((repeat' split) <;> first | rfl | (simp only [Int32.lt_iff_toInt_lt, Int32.le_iff_toInt_le, Int64.lt_iff_toInt_lt, Int64.le_iff_toInt_le] at *; omega) | (simp_all; done))
        · exact absurd c_35 (by decide)
      · exact absurd rfl c_9
theorem s_O_endEastN {d : Nat} {M : mM} {c : Int32} (hc : ¬ (c = 110 ∨ c = 115)) : CT iO_endEast (d + 1) [vR 2 0 0, vI c] M (.inl (some (vI 0))) M 0 := by
  refine ct_go hL_O_endEast rfl ?_
  refine aw_iload_n k39_0 rfl ?_
  refine aw_bipush (v := 110) k39_1 (by decide) ?_
  refine aw_icmp_eq 14 k39_3 (by decide) (fun c_3 => ?_) (fun c_3 => ?_)
  · first | exact absurd (Or.inl c_3) hc | exact absurd (Or.inr c_9) hc
  · refine aw_iload_n k39_6 rfl ?_
    refine aw_bipush (v := 115) k39_7 (by decide) ?_
    refine aw_icmp_eq 14 k39_9 (by decide) (fun c_9 => ?_) (fun c_9 => ?_)
    · first | exact absurd (Or.inl c_3) hc | exact absurd (Or.inr c_9) hc
    · refine aw_iconst (v := 0) k39_12 (by decide) ?_
      refine aw_zreturn k39_13 hR_O_endEast ?_ ?_ ?_
      all_goals first | rfl | exact Or.inl rfl | exact Or.inr rfl | assumption | (simp_all; done) | ((repeat' split) <;> first | rfl | (simp only [Int32.lt_iff_toInt_lt, Int32.le_iff_toInt_le, Int64.lt_iff_toInt_lt, Int64.le_iff_toInt_le] at *; omega) | (simp_all; done))
def oNorth (M : mM) (k : Nat) (v : Int32) : mM := mUp (mUp M (12, 0, 3) k v) (2, 0, 0) 8 7
theorem s_O_endNorth {d k : Nat} {M : mM} {x v : Int32} (hk : k < 80) (h7 : M (2, 0, 0) 7 = nI (k + 1)) (h9 : M (2, 0, 0) 9 = x) (h10 : M (2, 0, 0) 10 = v) : CT iO_endNorth (d + 1) [vR 2 0 0, vI 108] M (.inl (some (vI 1))) (oNorth M k (x * v)) 0 := by
  refine ct_go hL_O_endNorth rfl ?_
  refine aw_iload_n k40_0 rfl ?_
  refine aw_bipush (v := 108) k40_1 (by decide) ?_
  refine aw_icmp_eq 8 k40_3 (by decide) (fun c_3 => ?_) (fun c_3 => ?_)
  · refine aw_aload_n k40_8 rfl ?_
    refine aw_aload_n k40_9 rfl ?_
    refine aw_getR k40_10 hC_O_endNorth fs_O_22 (by decide) ⟨rfl, rfl⟩ rfl ?_
    try simp only [h9, h10]
    refine aw_aload_n k40_13 rfl ?_
    refine aw_getI k40_14 hC_O_endNorth fs_O_72 (by decide) ⟨rfl, rfl⟩ rfl ?_
    try simp only [h9, h10]
    refine aw_aload_n k40_17 rfl ?_
    refine aw_getI k40_18 hC_O_endNorth fs_O_83 (by decide) ⟨rfl, rfl⟩ rfl ?_
    try simp only [h9, h10]
    refine aw_imul k40_21 ?_
    refine aw_callV2v k40_22 hC_O_endNorth ok_O_note sv_O_79 hH_O_note ⟨rfl, rfl⟩ (by decide) hN_O_note (by rw [hL_O_note]; exact Nat.le_of_ble_eq_true rfl) (Nat.le_of_ble_eq_true rfl) (s_O_note hk (by decide) (by decide) h7) ?_
    refine aw_aload_n k40_25 rfl ?_
    refine aw_bipush (v := 7) k40_26 (by decide) ?_
    refine aw_putI k40_28 hC_O_endNorth fs_O_35 (by decide) ⟨rfl, rfl⟩ rfl po_2_8 ?_
    try simp only [h9, h10]
    refine aw_iconst (v := 1) k40_31 (by decide) ?_
    refine aw_zreturn k40_32 hR_O_endNorth ?_ ?_ ?_
    all_goals first | rfl | exact Or.inl rfl | exact Or.inr rfl | assumption | (simp_all; done) | ((repeat' split) <;> first | rfl | (simp only [Int32.lt_iff_toInt_lt, Int32.le_iff_toInt_le, Int64.lt_iff_toInt_lt, Int64.le_iff_toInt_le] at *; omega) | (simp_all; done))
  · exact absurd rfl c_3
theorem s_O_endNorthN {d : Nat} {M : mM} {c : Int32} (hc : ¬ c = 108) : CT iO_endNorth (d + 1) [vR 2 0 0, vI c] M (.inl (some (vI 0))) M 0 := by
  refine ct_go hL_O_endNorth rfl ?_
  refine aw_iload_n k40_0 rfl ?_
  refine aw_bipush (v := 108) k40_1 (by decide) ?_
  refine aw_icmp_eq 8 k40_3 (by decide) (fun c_3 => ?_) (fun c_3 => ?_)
  · exact absurd c_3 hc
  · refine aw_iconst (v := 0) k40_6 (by decide) ?_
    refine aw_zreturn k40_7 hR_O_endNorth ?_ ?_ ?_
    all_goals first | rfl | exact Or.inl rfl | exact Or.inr rfl | assumption | (simp_all; done) | ((repeat' split) <;> first | rfl | (simp only [Int32.lt_iff_toInt_lt, Int32.le_iff_toInt_le, Int64.lt_iff_toInt_lt, Int64.le_iff_toInt_le] at *; omega) | (simp_all; done))
theorem s_O_noteLength {d k : Nat} {M : mM} {v : Int32} (hk : k < 80) (h7 : M (2, 0, 0) 7 = nI (k + 1)) (h10 : M (2, 0, 0) 10 = v) : CT iO_noteLength (d + 1) [vR 2 0 0] M (.inl (some (vI 1))) (mUp M (12, 0, 4) k v) 0 := by
  refine ct_go hL_O_noteLength rfl ?_
  refine aw_aload_n k41_0 rfl ?_
  refine aw_aload_n k41_1 rfl ?_
  refine aw_getR k41_2 hC_O_noteLength fs_O_25 (by decide) ⟨rfl, rfl⟩ rfl ?_
  try simp only [h10]
  refine aw_aload_n k41_5 rfl ?_
  refine aw_getI k41_6 hC_O_noteLength fs_O_83 (by decide) ⟨rfl, rfl⟩ rfl ?_
  try simp only [h10]
  refine aw_callV2v k41_9 hC_O_noteLength ok_O_note sv_O_79 hH_O_note ⟨rfl, rfl⟩ (by decide) hN_O_note (by rw [hL_O_note]; exact Nat.le_of_ble_eq_true rfl) (Nat.le_of_ble_eq_true rfl) (s_O_note hk (by decide) (by decide) h7) ?_
  refine aw_iconst (v := 1) k41_12 (by decide) ?_
  refine aw_zreturn k41_13 hR_O_noteLength ?_ ?_ ?_
  all_goals first | rfl | exact Or.inl rfl | exact Or.inr rfl | assumption | (simp_all; done) | ((repeat' split) <;> first | rfl | (simp only [Int32.lt_iff_toInt_lt, Int32.le_iff_toInt_le, Int64.lt_iff_toInt_lt, Int64.le_iff_toInt_le] at *; omega) | (simp_all; done))
abbrev iacc (d : Nat) (c : Int32) (M : mM) (r : Int32) (M1 : mM) : Prop := CT iO_accepts (d + 3) [vR 2 0 0, vI c] M (.inl (some (vI r))) M1 0
theorem a_0 {d : Nat} {M M1 : mM} {c r : Int32} (h : M (2, 0, 0) 8 = 0) (hr : r = 0 ∨ r = 1) (k : CT iO_beginOrder (d + 2) [vR 2 0 0, vI c] M (.inl (some (vI r))) M1 0) : iacc d c M r M1 := by
  refine ct_go hL_O_accepts rfl ?_
  refine aw_aload_n k32_0 rfl ?_
  refine aw_getI k32_1 hC_O_accepts fs_O_35 (by decide) ⟨rfl, rfl⟩ rfl ?_
  try simp only [h]
  refine aw_tableIn (t := 56) (off := 52) k32_4 (by decide) (by decide) (by decide) (by decide) ?_
  refine aw_aload_n k32_56 rfl ?_
  refine aw_iload_n k32_57 rfl ?_
  refine aw_callV1 k32_58 hC_O_accepts ok_O_beginOrder sv_O_45 hH_O_beginOrder ⟨rfl, rfl⟩ (by decide) hN_O_beginOrder (by rw [hL_O_beginOrder]; exact Nat.le_of_ble_eq_true rfl) (Nat.le_of_ble_eq_true rfl) k ?_
  refine aw_zreturn k32_61 hR_O_accepts ?_ ?_ ?_
  all_goals first | rfl | exact Or.inl rfl | exact Or.inr rfl | assumption | (simp_all; done) | ((repeat' split) <;> first | rfl | (simp only [Int32.lt_iff_toInt_lt, Int32.le_iff_toInt_le, Int64.lt_iff_toInt_lt, Int64.le_iff_toInt_le] at *; omega) | (simp_all; done))
theorem a_1 {d : Nat} {M M1 : mM} {c r : Int32} (h : M (2, 0, 0) 8 = 1) (hr : r = 0 ∨ r = 1) (k : CT iO_endOrder (d + 2) [vR 2 0 0, vI c] M (.inl (some (vI r))) M1 0) : iacc d c M r M1 := by
  refine ct_go hL_O_accepts rfl ?_
  refine aw_aload_n k32_0 rfl ?_
  refine aw_getI k32_1 hC_O_accepts fs_O_35 (by decide) ⟨rfl, rfl⟩ rfl ?_
  try simp only [h]
  refine aw_tableIn (t := 62) (off := 58) k32_4 (by decide) (by decide) (by decide) (by decide) ?_
  refine aw_aload_n k32_62 rfl ?_
  refine aw_iload_n k32_63 rfl ?_
  refine aw_callV1 k32_64 hC_O_accepts ok_O_endOrder sv_O_48 hH_O_endOrder ⟨rfl, rfl⟩ (by decide) hN_O_endOrder (by rw [hL_O_endOrder]; exact Nat.le_of_ble_eq_true rfl) (Nat.le_of_ble_eq_true rfl) k ?_
  refine aw_zreturn k32_67 hR_O_accepts ?_ ?_ ?_
  all_goals first | rfl | exact Or.inl rfl | exact Or.inr rfl | assumption | (simp_all; done) | ((repeat' split) <;> first | rfl | (simp only [Int32.lt_iff_toInt_lt, Int32.le_iff_toInt_le, Int64.lt_iff_toInt_lt, Int64.le_iff_toInt_le] at *; omega) | (simp_all; done))
theorem a_2 {d : Nat} {M M1 : mM} {c r : Int32} (h : M (2, 0, 0) 8 = 2) (hr : r = 0 ∨ r = 1) (k : CT iO_readField (d + 2) [vR 2 0 0, vI c] M (.inl (some (vI r))) M1 0) : iacc d c M r M1 := by
  refine ct_go hL_O_accepts rfl ?_
  refine aw_aload_n k32_0 rfl ?_
  refine aw_getI k32_1 hC_O_accepts fs_O_35 (by decide) ⟨rfl, rfl⟩ rfl ?_
  try simp only [h]
  refine aw_tableIn (t := 68) (off := 64) k32_4 (by decide) (by decide) (by decide) (by decide) ?_
  refine aw_aload_n k32_68 rfl ?_
  refine aw_iload_n k32_69 rfl ?_
  refine aw_callV1 k32_70 hC_O_accepts ok_O_readField sv_O_51 hH_O_readField ⟨rfl, rfl⟩ (by decide) hN_O_readField (by rw [hL_O_readField]; exact Nat.le_of_ble_eq_true rfl) (Nat.le_of_ble_eq_true rfl) k ?_
  refine aw_zreturn k32_73 hR_O_accepts ?_ ?_ ?_
  all_goals first | rfl | exact Or.inl rfl | exact Or.inr rfl | assumption | (simp_all; done) | ((repeat' split) <;> first | rfl | (simp only [Int32.lt_iff_toInt_lt, Int32.le_iff_toInt_le, Int64.lt_iff_toInt_lt, Int64.le_iff_toInt_le] at *; omega) | (simp_all; done))
theorem a_3 {d : Nat} {M M1 : mM} {c r : Int32} (h : M (2, 0, 0) 8 = 3) (hr : r = 0 ∨ r = 1) (k : CT iO_beginNumber (d + 2) [vR 2 0 0, vI c, vI 48, vI 4] M (.inl (some (vI r))) M1 0) : iacc d c M r M1 := by
  refine ct_go hL_O_accepts rfl ?_
  refine aw_aload_n k32_0 rfl ?_
  refine aw_getI k32_1 hC_O_accepts fs_O_35 (by decide) ⟨rfl, rfl⟩ rfl ?_
  try simp only [h]
  refine aw_tableIn (t := 74) (off := 70) k32_4 (by decide) (by decide) (by decide) (by decide) ?_
  refine aw_aload_n k32_74 rfl ?_
  refine aw_iload_n k32_75 rfl ?_
  refine aw_bipush (v := 48) k32_76 (by decide) ?_
  refine aw_iconst (v := 4) k32_78 (by decide) ?_
  refine aw_callV3 k32_79 hC_O_accepts ok_O_beginNumber sv_O_54 hH_O_beginNumber ⟨rfl, rfl⟩ (by decide) hN_O_beginNumber (by rw [hL_O_beginNumber]; exact Nat.le_of_ble_eq_true rfl) (Nat.le_of_ble_eq_true rfl) k ?_
  refine aw_zreturn k32_82 hR_O_accepts ?_ ?_ ?_
  all_goals first | rfl | exact Or.inl rfl | exact Or.inr rfl | assumption | (simp_all; done) | ((repeat' split) <;> first | rfl | (simp only [Int32.lt_iff_toInt_lt, Int32.le_iff_toInt_le, Int64.lt_iff_toInt_lt, Int64.le_iff_toInt_le] at *; omega) | (simp_all; done))
theorem a_5 {d : Nat} {M M1 : mM} {c r : Int32} (h : M (2, 0, 0) 8 = 5) (hr : r = 0 ∨ r = 1) (k : CT iO_beginNumber (d + 2) [vR 2 0 0, vI c, vI 48, vI 6] M (.inl (some (vI r))) M1 0) : iacc d c M r M1 := by
  refine ct_go hL_O_accepts rfl ?_
  refine aw_aload_n k32_0 rfl ?_
  refine aw_getI k32_1 hC_O_accepts fs_O_35 (by decide) ⟨rfl, rfl⟩ rfl ?_
  try simp only [h]
  refine aw_tableIn (t := 108) (off := 104) k32_4 (by decide) (by decide) (by decide) (by decide) ?_
  refine aw_aload_n k32_108 rfl ?_
  refine aw_iload_n k32_109 rfl ?_
  refine aw_bipush (v := 48) k32_110 (by decide) ?_
  refine aw_bipush (v := 6) k32_112 (by decide) ?_
  refine aw_callV3 k32_114 hC_O_accepts ok_O_beginNumber sv_O_54 hH_O_beginNumber ⟨rfl, rfl⟩ (by decide) hN_O_beginNumber (by rw [hL_O_beginNumber]; exact Nat.le_of_ble_eq_true rfl) (Nat.le_of_ble_eq_true rfl) k ?_
  refine aw_zreturn k32_117 hR_O_accepts ?_ ?_ ?_
  all_goals first | rfl | exact Or.inl rfl | exact Or.inr rfl | assumption | (simp_all; done) | ((repeat' split) <;> first | rfl | (simp only [Int32.lt_iff_toInt_lt, Int32.le_iff_toInt_le, Int64.lt_iff_toInt_lt, Int64.le_iff_toInt_le] at *; omega) | (simp_all; done))
theorem a_4g {d : Nat} {M M1 : mM} {c : Int32} (h : M (2, 0, 0) 8 = 4) (k : CT iO_growNumber (d + 2) [vR 2 0 0, vI c, vI 9999] M (.inl (some (vI 1))) M1 0) : iacc d c M 1 M1 := by
  refine ct_go hL_O_accepts rfl ?_
  refine aw_aload_n k32_0 rfl ?_
  refine aw_getI k32_1 hC_O_accepts fs_O_35 (by decide) ⟨rfl, rfl⟩ rfl ?_
  try simp only [h]
  refine aw_tableIn (t := 83) (off := 79) k32_4 (by decide) (by decide) (by decide) (by decide) ?_
  refine aw_aload_n k32_83 rfl ?_
  refine aw_iload_n k32_84 rfl ?_
  refine aw_sipush (v := 9999) k32_85 (by decide) ?_
  refine aw_callV2 k32_88 hC_O_accepts ok_O_growNumber sv_O_58 hH_O_growNumber ⟨rfl, rfl⟩ (by decide) hN_O_growNumber (by rw [hL_O_growNumber]; exact Nat.le_of_ble_eq_true rfl) (Nat.le_of_ble_eq_true rfl) k ?_
  refine aw_if_ne 102 k32_91 (by decide) (fun c_91 => ?_) (fun c_91 => ?_)
  · refine aw_iconst (v := 1) k32_102 (by decide) ?_
    refine aw_goto (t := 107) k32_103 (by decide) ?_
    refine aw_zreturn k32_107 hR_O_accepts ?_ ?_ ?_
    all_goals first | rfl | exact Or.inl rfl | exact Or.inr rfl | assumption | (simp_all; done) | ((repeat' split) <;> first | rfl | (simp only [Int32.lt_iff_toInt_lt, Int32.le_iff_toInt_le, Int64.lt_iff_toInt_lt, Int64.le_iff_toInt_le] at *; omega) | (simp_all; done))
  · exact absurd c_91 (by decide)
theorem a_4e {d : Nat} {M M1 : mM} {c r : Int32} (h : M (2, 0, 0) 8 = 4) (hr : r = 0 ∨ r = 1) (k : CT iO_growNumber (d + 2) [vR 2 0 0, vI c, vI 9999] M (.inl (some (vI 0))) M 0) (k2 : CT iO_endEast (d + 2) [vR 2 0 0, vI c] M (.inl (some (vI r))) M1 0) : iacc d c M r M1 := by
  refine ct_go hL_O_accepts rfl ?_
  obtain rfl | rfl := hr
  · refine aw_aload_n k32_0 rfl ?_
    refine aw_getI k32_1 hC_O_accepts fs_O_35 (by decide) ⟨rfl, rfl⟩ rfl ?_
    try simp only [h]
    refine aw_tableIn (t := 83) (off := 79) k32_4 (by decide) (by decide) (by decide) (by decide) ?_
    refine aw_aload_n k32_83 rfl ?_
    refine aw_iload_n k32_84 rfl ?_
    refine aw_sipush (v := 9999) k32_85 (by decide) ?_
    refine aw_callV2 k32_88 hC_O_accepts ok_O_growNumber sv_O_58 hH_O_growNumber ⟨rfl, rfl⟩ (by decide) hN_O_growNumber (by rw [hL_O_growNumber]; exact Nat.le_of_ble_eq_true rfl) (Nat.le_of_ble_eq_true rfl) k ?_
    refine aw_if_ne 102 k32_91 (by decide) (fun c_91 => ?_) (fun c_91 => ?_)
    · exact absurd rfl c_91
    · refine aw_aload_n k32_94 rfl ?_
      refine aw_iload_n k32_95 rfl ?_
      refine aw_callV1 k32_96 hC_O_accepts ok_O_endEast sv_O_62 hH_O_endEast ⟨rfl, rfl⟩ (by decide) hN_O_endEast (by rw [hL_O_endEast]; exact Nat.le_of_ble_eq_true rfl) (Nat.le_of_ble_eq_true rfl) k2 ?_
      refine aw_if_eq 106 k32_99 (by decide) (fun c_99 => ?_) (fun c_99 => ?_)
      · refine aw_iconst (v := 0) k32_106 (by decide) ?_
        refine aw_zreturn k32_107 hR_O_accepts ?_ ?_ ?_
        all_goals first | rfl | exact Or.inl rfl | exact Or.inr rfl | assumption | (simp_all; done) | ((repeat' split) <;> first | rfl | (simp only [Int32.lt_iff_toInt_lt, Int32.le_iff_toInt_le, Int64.lt_iff_toInt_lt, Int64.le_iff_toInt_le] at *; omega) | (simp_all; done))
      · exact absurd rfl c_99
  · refine aw_aload_n k32_0 rfl ?_
    refine aw_getI k32_1 hC_O_accepts fs_O_35 (by decide) ⟨rfl, rfl⟩ rfl ?_
    try simp only [h]
    refine aw_tableIn (t := 83) (off := 79) k32_4 (by decide) (by decide) (by decide) (by decide) ?_
    refine aw_aload_n k32_83 rfl ?_
    refine aw_iload_n k32_84 rfl ?_
    refine aw_sipush (v := 9999) k32_85 (by decide) ?_
    refine aw_callV2 k32_88 hC_O_accepts ok_O_growNumber sv_O_58 hH_O_growNumber ⟨rfl, rfl⟩ (by decide) hN_O_growNumber (by rw [hL_O_growNumber]; exact Nat.le_of_ble_eq_true rfl) (Nat.le_of_ble_eq_true rfl) k ?_
    refine aw_if_ne 102 k32_91 (by decide) (fun c_91 => ?_) (fun c_91 => ?_)
    · exact absurd rfl c_91
    · refine aw_aload_n k32_94 rfl ?_
      refine aw_iload_n k32_95 rfl ?_
      refine aw_callV1 k32_96 hC_O_accepts ok_O_endEast sv_O_62 hH_O_endEast ⟨rfl, rfl⟩ (by decide) hN_O_endEast (by rw [hL_O_endEast]; exact Nat.le_of_ble_eq_true rfl) (Nat.le_of_ble_eq_true rfl) k2 ?_
      refine aw_if_eq 106 k32_99 (by decide) (fun c_99 => ?_) (fun c_99 => ?_)
      · exact absurd c_99 (by decide)
      · refine aw_iconst (v := 1) k32_102 (by decide) ?_
        refine aw_goto (t := 107) k32_103 (by decide) ?_
        refine aw_zreturn k32_107 hR_O_accepts ?_ ?_ ?_
        all_goals first | rfl | exact Or.inl rfl | exact Or.inr rfl | assumption | (simp_all; done) | ((repeat' split) <;> first | rfl | (simp only [Int32.lt_iff_toInt_lt, Int32.le_iff_toInt_le, Int64.lt_iff_toInt_lt, Int64.le_iff_toInt_le] at *; omega) | (simp_all; done))
theorem a_6g {d : Nat} {M M1 : mM} {c : Int32} (h : M (2, 0, 0) 8 = 6) (k : CT iO_growNumber (d + 2) [vR 2 0 0, vI c, vI 9999] M (.inl (some (vI 1))) M1 0) : iacc d c M 1 M1 := by
  refine ct_go hL_O_accepts rfl ?_
  refine aw_aload_n k32_0 rfl ?_
  refine aw_getI k32_1 hC_O_accepts fs_O_35 (by decide) ⟨rfl, rfl⟩ rfl ?_
  try simp only [h]
  refine aw_tableIn (t := 118) (off := 114) k32_4 (by decide) (by decide) (by decide) (by decide) ?_
  refine aw_aload_n k32_118 rfl ?_
  refine aw_iload_n k32_119 rfl ?_
  refine aw_sipush (v := 9999) k32_120 (by decide) ?_
  refine aw_callV2 k32_123 hC_O_accepts ok_O_growNumber sv_O_58 hH_O_growNumber ⟨rfl, rfl⟩ (by decide) hN_O_growNumber (by rw [hL_O_growNumber]; exact Nat.le_of_ble_eq_true rfl) (Nat.le_of_ble_eq_true rfl) k ?_
  refine aw_if_ne 137 k32_126 (by decide) (fun c_126 => ?_) (fun c_126 => ?_)
  · refine aw_iconst (v := 1) k32_137 (by decide) ?_
    refine aw_goto (t := 142) k32_138 (by decide) ?_
    refine aw_zreturn k32_142 hR_O_accepts ?_ ?_ ?_
    all_goals first | rfl | exact Or.inl rfl | exact Or.inr rfl | assumption | (simp_all; done) | ((repeat' split) <;> first | rfl | (simp only [Int32.lt_iff_toInt_lt, Int32.le_iff_toInt_le, Int64.lt_iff_toInt_lt, Int64.le_iff_toInt_le] at *; omega) | (simp_all; done))
  · exact absurd c_126 (by decide)
theorem a_6e {d : Nat} {M M1 : mM} {c r : Int32} (h : M (2, 0, 0) 8 = 6) (hr : r = 0 ∨ r = 1) (k : CT iO_growNumber (d + 2) [vR 2 0 0, vI c, vI 9999] M (.inl (some (vI 0))) M 0) (k2 : CT iO_endNorth (d + 2) [vR 2 0 0, vI c] M (.inl (some (vI r))) M1 0) : iacc d c M r M1 := by
  refine ct_go hL_O_accepts rfl ?_
  obtain rfl | rfl := hr
  · refine aw_aload_n k32_0 rfl ?_
    refine aw_getI k32_1 hC_O_accepts fs_O_35 (by decide) ⟨rfl, rfl⟩ rfl ?_
    try simp only [h]
    refine aw_tableIn (t := 118) (off := 114) k32_4 (by decide) (by decide) (by decide) (by decide) ?_
    refine aw_aload_n k32_118 rfl ?_
    refine aw_iload_n k32_119 rfl ?_
    refine aw_sipush (v := 9999) k32_120 (by decide) ?_
    refine aw_callV2 k32_123 hC_O_accepts ok_O_growNumber sv_O_58 hH_O_growNumber ⟨rfl, rfl⟩ (by decide) hN_O_growNumber (by rw [hL_O_growNumber]; exact Nat.le_of_ble_eq_true rfl) (Nat.le_of_ble_eq_true rfl) k ?_
    refine aw_if_ne 137 k32_126 (by decide) (fun c_126 => ?_) (fun c_126 => ?_)
    · exact absurd rfl c_126
    · refine aw_aload_n k32_129 rfl ?_
      refine aw_iload_n k32_130 rfl ?_
      refine aw_callV1 k32_131 hC_O_accepts ok_O_endNorth sv_O_65 hH_O_endNorth ⟨rfl, rfl⟩ (by decide) hN_O_endNorth (by rw [hL_O_endNorth]; exact Nat.le_of_ble_eq_true rfl) (Nat.le_of_ble_eq_true rfl) k2 ?_
      refine aw_if_eq 141 k32_134 (by decide) (fun c_134 => ?_) (fun c_134 => ?_)
      · refine aw_iconst (v := 0) k32_141 (by decide) ?_
        refine aw_zreturn k32_142 hR_O_accepts ?_ ?_ ?_
        all_goals first | rfl | exact Or.inl rfl | exact Or.inr rfl | assumption | (simp_all; done) | ((repeat' split) <;> first | rfl | (simp only [Int32.lt_iff_toInt_lt, Int32.le_iff_toInt_le, Int64.lt_iff_toInt_lt, Int64.le_iff_toInt_le] at *; omega) | (simp_all; done))
      · exact absurd rfl c_134
  · refine aw_aload_n k32_0 rfl ?_
    refine aw_getI k32_1 hC_O_accepts fs_O_35 (by decide) ⟨rfl, rfl⟩ rfl ?_
    try simp only [h]
    refine aw_tableIn (t := 118) (off := 114) k32_4 (by decide) (by decide) (by decide) (by decide) ?_
    refine aw_aload_n k32_118 rfl ?_
    refine aw_iload_n k32_119 rfl ?_
    refine aw_sipush (v := 9999) k32_120 (by decide) ?_
    refine aw_callV2 k32_123 hC_O_accepts ok_O_growNumber sv_O_58 hH_O_growNumber ⟨rfl, rfl⟩ (by decide) hN_O_growNumber (by rw [hL_O_growNumber]; exact Nat.le_of_ble_eq_true rfl) (Nat.le_of_ble_eq_true rfl) k ?_
    refine aw_if_ne 137 k32_126 (by decide) (fun c_126 => ?_) (fun c_126 => ?_)
    · exact absurd rfl c_126
    · refine aw_aload_n k32_129 rfl ?_
      refine aw_iload_n k32_130 rfl ?_
      refine aw_callV1 k32_131 hC_O_accepts ok_O_endNorth sv_O_65 hH_O_endNorth ⟨rfl, rfl⟩ (by decide) hN_O_endNorth (by rw [hL_O_endNorth]; exact Nat.le_of_ble_eq_true rfl) (Nat.le_of_ble_eq_true rfl) k2 ?_
      refine aw_if_eq 141 k32_134 (by decide) (fun c_134 => ?_) (fun c_134 => ?_)
      · exact absurd c_134 (by decide)
      · refine aw_iconst (v := 1) k32_137 (by decide) ?_
        refine aw_goto (t := 142) k32_138 (by decide) ?_
        refine aw_zreturn k32_142 hR_O_accepts ?_ ?_ ?_
        all_goals first | rfl | exact Or.inl rfl | exact Or.inr rfl | assumption | (simp_all; done) | ((repeat' split) <;> first | rfl | (simp only [Int32.lt_iff_toInt_lt, Int32.le_iff_toInt_le, Int64.lt_iff_toInt_lt, Int64.le_iff_toInt_le] at *; omega) | (simp_all; done))
theorem a_7 {d : Nat} {M M1 M2 : mM} {c : Int32} (h : M (2, 0, 0) 8 = 7) (k : CT iO_beginNumber (d + 2) [vR 2 0 0, vI c, vI 49, vI 8] M (.inl (some (vI 1))) M1 0) (k2 : CT iO_noteLength (d + 2) [vR 2 0 0] M1 (.inl (some (vI 1))) M2 0) : iacc d c M 1 M2 := by
  refine ct_go hL_O_accepts rfl ?_
  refine aw_aload_n k32_0 rfl ?_
  refine aw_getI k32_1 hC_O_accepts fs_O_35 (by decide) ⟨rfl, rfl⟩ rfl ?_
  try simp only [h]
  refine aw_tableIn (t := 143) (off := 139) k32_4 (by decide) (by decide) (by decide) (by decide) ?_
  refine aw_aload_n k32_143 rfl ?_
  refine aw_iload_n k32_144 rfl ?_
  refine aw_bipush (v := 49) k32_145 (by decide) ?_
  refine aw_bipush (v := 8) k32_147 (by decide) ?_
  refine aw_callV3 k32_149 hC_O_accepts ok_O_beginNumber sv_O_54 hH_O_beginNumber ⟨rfl, rfl⟩ (by decide) hN_O_beginNumber (by rw [hL_O_beginNumber]; exact Nat.le_of_ble_eq_true rfl) (Nat.le_of_ble_eq_true rfl) k ?_
  refine aw_if_eq 166 k32_152 (by decide) (fun c_152 => ?_) (fun c_152 => ?_)
  · exact absurd c_152 (by decide)
  · refine aw_aload_n k32_155 rfl ?_
    refine aw_callV0 k32_156 hC_O_accepts ok_O_noteLength sv_O_68 hH_O_noteLength ⟨rfl, rfl⟩ (by decide) hN_O_noteLength (by rw [hL_O_noteLength]; exact Nat.le_of_ble_eq_true rfl) (Nat.le_of_ble_eq_true rfl) k2 ?_
    refine aw_if_eq 166 k32_159 (by decide) (fun c_159 => ?_) (fun c_159 => ?_)
    · exact absurd c_159 (by decide)
    · refine aw_iconst (v := 1) k32_162 (by decide) ?_
      refine aw_goto (t := 167) k32_163 (by decide) ?_
      refine aw_zreturn k32_167 hR_O_accepts ?_ ?_ ?_
      all_goals first | rfl | exact Or.inl rfl | exact Or.inr rfl | assumption | (simp_all; done) | ((repeat' split) <;> first | rfl | (simp only [Int32.lt_iff_toInt_lt, Int32.le_iff_toInt_le, Int64.lt_iff_toInt_lt, Int64.le_iff_toInt_le] at *; omega) | (simp_all; done))
theorem a_7n {d : Nat} {M : mM} {c : Int32} (h : M (2, 0, 0) 8 = 7) (k : CT iO_beginNumber (d + 2) [vR 2 0 0, vI c, vI 49, vI 8] M (.inl (some (vI 0))) M 0) : iacc d c M 0 M := by
  refine ct_go hL_O_accepts rfl ?_
  refine aw_aload_n k32_0 rfl ?_
  refine aw_getI k32_1 hC_O_accepts fs_O_35 (by decide) ⟨rfl, rfl⟩ rfl ?_
  try simp only [h]
  refine aw_tableIn (t := 143) (off := 139) k32_4 (by decide) (by decide) (by decide) (by decide) ?_
  refine aw_aload_n k32_143 rfl ?_
  refine aw_iload_n k32_144 rfl ?_
  refine aw_bipush (v := 49) k32_145 (by decide) ?_
  refine aw_bipush (v := 8) k32_147 (by decide) ?_
  refine aw_callV3 k32_149 hC_O_accepts ok_O_beginNumber sv_O_54 hH_O_beginNumber ⟨rfl, rfl⟩ (by decide) hN_O_beginNumber (by rw [hL_O_beginNumber]; exact Nat.le_of_ble_eq_true rfl) (Nat.le_of_ble_eq_true rfl) k ?_
  refine aw_if_eq 166 k32_152 (by decide) (fun c_152 => ?_) (fun c_152 => ?_)
  · refine aw_iconst (v := 0) k32_166 (by decide) ?_
    refine aw_zreturn k32_167 hR_O_accepts ?_ ?_ ?_
    all_goals first | rfl | exact Or.inl rfl | exact Or.inr rfl | assumption | (simp_all; done) | ((repeat' split) <;> first | rfl | (simp only [Int32.lt_iff_toInt_lt, Int32.le_iff_toInt_le, Int64.lt_iff_toInt_lt, Int64.le_iff_toInt_le] at *; omega) | (simp_all; done))
  · exact absurd rfl c_152
theorem a_8g {d : Nat} {M M1 M2 : mM} {c : Int32} (h : M (2, 0, 0) 8 = 8) (k : CT iO_growNumber (d + 2) [vR 2 0 0, vI c, vI 20000] M (.inl (some (vI 1))) M1 0) (k2 : CT iO_noteLength (d + 2) [vR 2 0 0] M1 (.inl (some (vI 1))) M2 0) : iacc d c M 1 M2 := by
  refine ct_go hL_O_accepts rfl ?_
  refine aw_aload_n k32_0 rfl ?_
  refine aw_getI k32_1 hC_O_accepts fs_O_35 (by decide) ⟨rfl, rfl⟩ rfl ?_
  try simp only [h]
  refine aw_tableIn (t := 168) (off := 164) k32_4 (by decide) (by decide) (by decide) (by decide) ?_
  refine aw_aload_n k32_168 rfl ?_
  refine aw_iload_n k32_169 rfl ?_
  refine aw_sipush (v := 20000) k32_170 (by decide) ?_
  refine aw_callV2 k32_173 hC_O_accepts ok_O_growNumber sv_O_58 hH_O_growNumber ⟨rfl, rfl⟩ (by decide) hN_O_growNumber (by rw [hL_O_growNumber]; exact Nat.le_of_ble_eq_true rfl) (Nat.le_of_ble_eq_true rfl) k ?_
  refine aw_if_eq 186 k32_176 (by decide) (fun c_176 => ?_) (fun c_176 => ?_)
  · exact absurd c_176 (by decide)
  · refine aw_aload_n k32_179 rfl ?_
    refine aw_callV0 k32_180 hC_O_accepts ok_O_noteLength sv_O_68 hH_O_noteLength ⟨rfl, rfl⟩ (by decide) hN_O_noteLength (by rw [hL_O_noteLength]; exact Nat.le_of_ble_eq_true rfl) (Nat.le_of_ble_eq_true rfl) k2 ?_
    refine aw_if_ne 194 k32_183 (by decide) (fun c_183 => ?_) (fun c_183 => ?_)
    · refine aw_iconst (v := 1) k32_194 (by decide) ?_
      refine aw_goto (t := 199) k32_195 (by decide) ?_
      refine aw_zreturn k32_199 hR_O_accepts ?_ ?_ ?_
      all_goals first | rfl | exact Or.inl rfl | exact Or.inr rfl | assumption | (simp_all; done) | ((repeat' split) <;> first | rfl | (simp only [Int32.lt_iff_toInt_lt, Int32.le_iff_toInt_le, Int64.lt_iff_toInt_lt, Int64.le_iff_toInt_le] at *; omega) | (simp_all; done))
    · exact absurd c_183 (by decide)
theorem a_8e {d : Nat} {M M1 : mM} {c r : Int32} (h : M (2, 0, 0) 8 = 8) (hr : r = 0 ∨ r = 1) (k : CT iO_growNumber (d + 2) [vR 2 0 0, vI c, vI 20000] M (.inl (some (vI 0))) M 0) (k2 : CT iO_endOrder (d + 2) [vR 2 0 0, vI c] M (.inl (some (vI r))) M1 0) : iacc d c M r M1 := by
  refine ct_go hL_O_accepts rfl ?_
  obtain rfl | rfl := hr
  · refine aw_aload_n k32_0 rfl ?_
    refine aw_getI k32_1 hC_O_accepts fs_O_35 (by decide) ⟨rfl, rfl⟩ rfl ?_
    try simp only [h]
    refine aw_tableIn (t := 168) (off := 164) k32_4 (by decide) (by decide) (by decide) (by decide) ?_
    refine aw_aload_n k32_168 rfl ?_
    refine aw_iload_n k32_169 rfl ?_
    refine aw_sipush (v := 20000) k32_170 (by decide) ?_
    refine aw_callV2 k32_173 hC_O_accepts ok_O_growNumber sv_O_58 hH_O_growNumber ⟨rfl, rfl⟩ (by decide) hN_O_growNumber (by rw [hL_O_growNumber]; exact Nat.le_of_ble_eq_true rfl) (Nat.le_of_ble_eq_true rfl) k ?_
    refine aw_if_eq 186 k32_176 (by decide) (fun c_176 => ?_) (fun c_176 => ?_)
    · refine aw_aload_n k32_186 rfl ?_
      refine aw_iload_n k32_187 rfl ?_
      refine aw_callV1 k32_188 hC_O_accepts ok_O_endOrder sv_O_48 hH_O_endOrder ⟨rfl, rfl⟩ (by decide) hN_O_endOrder (by rw [hL_O_endOrder]; exact Nat.le_of_ble_eq_true rfl) (Nat.le_of_ble_eq_true rfl) k2 ?_
      refine aw_if_eq 198 k32_191 (by decide) (fun c_191 => ?_) (fun c_191 => ?_)
      · refine aw_iconst (v := 0) k32_198 (by decide) ?_
        refine aw_zreturn k32_199 hR_O_accepts ?_ ?_ ?_
        all_goals first | rfl | exact Or.inl rfl | exact Or.inr rfl | assumption | (simp_all; done) | ((repeat' split) <;> first | rfl | (simp only [Int32.lt_iff_toInt_lt, Int32.le_iff_toInt_le, Int64.lt_iff_toInt_lt, Int64.le_iff_toInt_le] at *; omega) | (simp_all; done))
      · exact absurd rfl c_191
    · exact absurd rfl c_176
  · refine aw_aload_n k32_0 rfl ?_
    refine aw_getI k32_1 hC_O_accepts fs_O_35 (by decide) ⟨rfl, rfl⟩ rfl ?_
    try simp only [h]
    refine aw_tableIn (t := 168) (off := 164) k32_4 (by decide) (by decide) (by decide) (by decide) ?_
    refine aw_aload_n k32_168 rfl ?_
    refine aw_iload_n k32_169 rfl ?_
    refine aw_sipush (v := 20000) k32_170 (by decide) ?_
    refine aw_callV2 k32_173 hC_O_accepts ok_O_growNumber sv_O_58 hH_O_growNumber ⟨rfl, rfl⟩ (by decide) hN_O_growNumber (by rw [hL_O_growNumber]; exact Nat.le_of_ble_eq_true rfl) (Nat.le_of_ble_eq_true rfl) k ?_
    refine aw_if_eq 186 k32_176 (by decide) (fun c_176 => ?_) (fun c_176 => ?_)
    · refine aw_aload_n k32_186 rfl ?_
      refine aw_iload_n k32_187 rfl ?_
      refine aw_callV1 k32_188 hC_O_accepts ok_O_endOrder sv_O_48 hH_O_endOrder ⟨rfl, rfl⟩ (by decide) hN_O_endOrder (by rw [hL_O_endOrder]; exact Nat.le_of_ble_eq_true rfl) (Nat.le_of_ble_eq_true rfl) k2 ?_
      refine aw_if_eq 198 k32_191 (by decide) (fun c_191 => ?_) (fun c_191 => ?_)
      · exact absurd c_191 (by decide)
      · refine aw_iconst (v := 1) k32_194 (by decide) ?_
        refine aw_goto (t := 199) k32_195 (by decide) ?_
        refine aw_zreturn k32_199 hR_O_accepts ?_ ?_ ?_
        all_goals first | rfl | exact Or.inl rfl | exact Or.inr rfl | assumption | (simp_all; done) | ((repeat' split) <;> first | rfl | (simp only [Int32.lt_iff_toInt_lt, Int32.le_iff_toInt_le, Int64.lt_iff_toInt_lt, Int64.le_iff_toInt_le] at *; omega) | (simp_all; done))
    · exact absurd rfl c_176
