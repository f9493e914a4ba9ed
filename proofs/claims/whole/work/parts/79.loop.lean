/-! THE LAW'S LOOP -/
theorem lt4 {LS i : Nat} (hL : LS ≤ 2048) (hi : i ≤ 4000) : nI LS - 4 < nI i ↔ LS < i + 4 := by
  have e1 : (nI LS).toInt = (LS : Int) := nI_toInt (by omega)
  have e2 : (nI i).toInt = (i : Int) := nI_toInt (by omega)
  have z : (4 : Int32).toInt = 4 := rfl
  have e3 : (nI LS - 4).toInt = (LS : Int) - 4 := by
    rw [i_sub (A := 2048) (B := 4) ⟨by omega, by omega⟩ ⟨by decide, by decide⟩ (by decide), e1, z]
  rw [Int32.lt_iff_toInt_lt, e3, e2]
  omega
theorem sw38 (c : Int32) : (∃ k : Nat, k < 38 ∧ c = nI k) ∨ (c.toInt < 0 ∨ 37 < c.toInt) := by
  by_cases h : 0 ≤ c.toInt ∧ c.toInt ≤ 37
  · left
    refine ⟨c.toInt.toNat, by omega, Int32.toInt_inj.mp ?_⟩
    rw [nI_toInt (by omega)]
    omega
  · right
    omega
theorem nI_4 (a : Nat) : nI a + 4 = nI (a + 4) := by rw [show (4 : Int32) = nI 4 from rfl, nI_add]
theorem lg_next {d i n : Nat} {M : mM} (h : LG d 23 (i + 4) n M) : LG d 1860 i n M := by
  intro x5 x6 x7
  obtain ⟨M3, hG⟩ := h x5 x6 x7
  refine ⟨M3, ?_⟩
  refine aw_iinc (y := 4) k226_1860 rfl (by decide) rfl ?_
  rw [nI_4 i]
  refine aw_goto (t := 23) k226_1863 (by decide) ?_
  exact hG
theorem lh_end {d i n LS : Nat} {M : mM} (hL : LS ≤ 2048) (hi : i ≤ 4000) (hM : M (16, 0, 0) 0 = nI LS) (he : LS < i + 4) : LG d 23 i n M := by
  intro x5 x6 x7
  refine ⟨M, ?_⟩
  have hb := (lt4 hL hi).mpr he
  refine aw_iload k226_23 rfl ?_
  refine aw_aload_n k226_25 rfl ?_
  refine aw_slen k226_26 ?_
  try simp only [hM]
  refine aw_iconst (v := 4) k226_27 (by decide) ?_
  refine aw_isub k226_28 ?_
  refine aw_icmp_gt 1866 k226_29 (by decide) (fun c_29 => ?_) (fun c_29 => ?_)
  · refine aw_iconst (v := 1) k226_1866 (by decide) ?_
    refine aw_zreturn k226_1867 hR_L_law ?_ ?_ ?_
    all_goals first | rfl | exact Or.inl rfl | exact Or.inr rfl | assumption | (simp_all; done) | ((repeat' split) <;> first | rfl | (simp only [Int32.lt_iff_toInt_lt, Int32.le_iff_toInt_le, Int64.lt_iff_toInt_lt, Int64.le_iff_toInt_le] at *; omega) | (simp_all; done))
  · exact absurd hb c_29
theorem lh_0 {d i n LS : Nat} {M : mM} (hL : LS ≤ 2048) (hi : i ≤ 4000) (hM : M (16, 0, 0) 0 = nI LS) (he : ¬ LS < i + 4) (hs : Sc i M) (hc : M (15, 0, 0) i &&& 63 = 0) (h : LG d 204 i n M) : LG d 23 i n M := by
  intro x5 x6 x7
  obtain ⟨M3, hG⟩ := h x5 x6 x7
  refine ⟨M3, ?_⟩
  have hb : ¬ (nI LS - 4 < nI i) := fun q => he ((lt4 hL hi).mp q)
  have ec0 : (nI i).toNatClampNeg = i := sc_c (by omega)
  refine aw_iload k226_23 rfl ?_
  refine aw_aload_n k226_25 rfl ?_
  refine aw_slen k226_26 ?_
  try simp only [hM, ec0]
  refine aw_iconst (v := 4) k226_27 (by decide) ?_
  refine aw_isub k226_28 ?_
  refine aw_icmp_gt 1866 k226_29 (by decide) (fun c_29 => ?_) (fun c_29 => ?_)
  · exact absurd c_29 hb
  · refine aw_aload_n k226_32 rfl ?_
    refine aw_iload k226_33 rfl ?_
    refine aw_sload k226_35 (sc_0 (by omega)) (hs.2 0 (by decide)) ?_
    try simp only [hM, ec0]
    refine aw_bipush (v := 63) k226_36 (by decide) ?_
    refine aw_iand k226_38 ?_
    rw [hc]
    refine aw_tableIn (t := 204) (off := 165) k226_39 (by decide) (by decide) (by decide) (by decide) ?_
    exact hG
theorem lh_1 {d i n LS : Nat} {M : mM} (hL : LS ≤ 2048) (hi : i ≤ 4000) (hM : M (16, 0, 0) 0 = nI LS) (he : ¬ LS < i + 4) (hs : Sc i M) (hc : M (15, 0, 0) i &&& 63 = 1) (h : LG d 284 i n M) : LG d 23 i n M := by
  intro x5 x6 x7
  obtain ⟨M3, hG⟩ := h x5 x6 x7
  refine ⟨M3, ?_⟩
  have hb : ¬ (nI LS - 4 < nI i) := fun q => he ((lt4 hL hi).mp q)
  have ec0 : (nI i).toNatClampNeg = i := sc_c (by omega)
  refine aw_iload k226_23 rfl ?_
  refine aw_aload_n k226_25 rfl ?_
  refine aw_slen k226_26 ?_
  try simp only [hM, ec0]
  refine aw_iconst (v := 4) k226_27 (by decide) ?_
  refine aw_isub k226_28 ?_
  refine aw_icmp_gt 1866 k226_29 (by decide) (fun c_29 => ?_) (fun c_29 => ?_)
  · exact absurd c_29 hb
  · refine aw_aload_n k226_32 rfl ?_
    refine aw_iload k226_33 rfl ?_
    refine aw_sload k226_35 (sc_0 (by omega)) (hs.2 0 (by decide)) ?_
    try simp only [hM, ec0]
    refine aw_bipush (v := 63) k226_36 (by decide) ?_
    refine aw_iand k226_38 ?_
    rw [hc]
    refine aw_tableIn (t := 284) (off := 245) k226_39 (by decide) (by decide) (by decide) (by decide) ?_
    exact hG
theorem lh_2 {d i n LS : Nat} {M : mM} (hL : LS ≤ 2048) (hi : i ≤ 4000) (hM : M (16, 0, 0) 0 = nI LS) (he : ¬ LS < i + 4) (hs : Sc i M) (hc : M (15, 0, 0) i &&& 63 = 2) (h : LG d 328 i n M) : LG d 23 i n M := by
  intro x5 x6 x7
  obtain ⟨M3, hG⟩ := h x5 x6 x7
  refine ⟨M3, ?_⟩
  have hb : ¬ (nI LS - 4 < nI i) := fun q => he ((lt4 hL hi).mp q)
  have ec0 : (nI i).toNatClampNeg = i := sc_c (by omega)
  refine aw_iload k226_23 rfl ?_
  refine aw_aload_n k226_25 rfl ?_
  refine aw_slen k226_26 ?_
  try simp only [hM, ec0]
  refine aw_iconst (v := 4) k226_27 (by decide) ?_
  refine aw_isub k226_28 ?_
  refine aw_icmp_gt 1866 k226_29 (by decide) (fun c_29 => ?_) (fun c_29 => ?_)
  · exact absurd c_29 hb
  · refine aw_aload_n k226_32 rfl ?_
    refine aw_iload k226_33 rfl ?_
    refine aw_sload k226_35 (sc_0 (by omega)) (hs.2 0 (by decide)) ?_
    try simp only [hM, ec0]
    refine aw_bipush (v := 63) k226_36 (by decide) ?_
    refine aw_iand k226_38 ?_
    rw [hc]
    refine aw_tableIn (t := 328) (off := 289) k226_39 (by decide) (by decide) (by decide) (by decide) ?_
    exact hG
theorem lh_3 {d i n LS : Nat} {M : mM} (hL : LS ≤ 2048) (hi : i ≤ 4000) (hM : M (16, 0, 0) 0 = nI LS) (he : ¬ LS < i + 4) (hs : Sc i M) (hc : M (15, 0, 0) i &&& 63 = 3) (h : LG d 396 i n M) : LG d 23 i n M := by
  intro x5 x6 x7
  obtain ⟨M3, hG⟩ := h x5 x6 x7
  refine ⟨M3, ?_⟩
  have hb : ¬ (nI LS - 4 < nI i) := fun q => he ((lt4 hL hi).mp q)
  have ec0 : (nI i).toNatClampNeg = i := sc_c (by omega)
  refine aw_iload k226_23 rfl ?_
  refine aw_aload_n k226_25 rfl ?_
  refine aw_slen k226_26 ?_
  try simp only [hM, ec0]
  refine aw_iconst (v := 4) k226_27 (by decide) ?_
  refine aw_isub k226_28 ?_
  refine aw_icmp_gt 1866 k226_29 (by decide) (fun c_29 => ?_) (fun c_29 => ?_)
  · exact absurd c_29 hb
  · refine aw_aload_n k226_32 rfl ?_
    refine aw_iload k226_33 rfl ?_
    refine aw_sload k226_35 (sc_0 (by omega)) (hs.2 0 (by decide)) ?_
    try simp only [hM, ec0]
    refine aw_bipush (v := 63) k226_36 (by decide) ?_
    refine aw_iand k226_38 ?_
    rw [hc]
    refine aw_tableIn (t := 396) (off := 357) k226_39 (by decide) (by decide) (by decide) (by decide) ?_
    exact hG
theorem lh_4 {d i n LS : Nat} {M : mM} (hL : LS ≤ 2048) (hi : i ≤ 4000) (hM : M (16, 0, 0) 0 = nI LS) (he : ¬ LS < i + 4) (hs : Sc i M) (hc : M (15, 0, 0) i &&& 63 = 4) (h : LG d 440 i n M) : LG d 23 i n M := by
  intro x5 x6 x7
  obtain ⟨M3, hG⟩ := h x5 x6 x7
  refine ⟨M3, ?_⟩
  have hb : ¬ (nI LS - 4 < nI i) := fun q => he ((lt4 hL hi).mp q)
  have ec0 : (nI i).toNatClampNeg = i := sc_c (by omega)
  refine aw_iload k226_23 rfl ?_
  refine aw_aload_n k226_25 rfl ?_
  refine aw_slen k226_26 ?_
  try simp only [hM, ec0]
  refine aw_iconst (v := 4) k226_27 (by decide) ?_
  refine aw_isub k226_28 ?_
  refine aw_icmp_gt 1866 k226_29 (by decide) (fun c_29 => ?_) (fun c_29 => ?_)
  · exact absurd c_29 hb
  · refine aw_aload_n k226_32 rfl ?_
    refine aw_iload k226_33 rfl ?_
    refine aw_sload k226_35 (sc_0 (by omega)) (hs.2 0 (by decide)) ?_
    try simp only [hM, ec0]
    refine aw_bipush (v := 63) k226_36 (by decide) ?_
    refine aw_iand k226_38 ?_
    rw [hc]
    refine aw_tableIn (t := 440) (off := 401) k226_39 (by decide) (by decide) (by decide) (by decide) ?_
    exact hG
theorem lh_5 {d i n LS : Nat} {M : mM} (hL : LS ≤ 2048) (hi : i ≤ 4000) (hM : M (16, 0, 0) 0 = nI LS) (he : ¬ LS < i + 4) (hs : Sc i M) (hc : M (15, 0, 0) i &&& 63 = 5) (h : LG d 496 i n M) : LG d 23 i n M := by
  intro x5 x6 x7
  obtain ⟨M3, hG⟩ := h x5 x6 x7
  refine ⟨M3, ?_⟩
  have hb : ¬ (nI LS - 4 < nI i) := fun q => he ((lt4 hL hi).mp q)
  have ec0 : (nI i).toNatClampNeg = i := sc_c (by omega)
  refine aw_iload k226_23 rfl ?_
  refine aw_aload_n k226_25 rfl ?_
  refine aw_slen k226_26 ?_
  try simp only [hM, ec0]
  refine aw_iconst (v := 4) k226_27 (by decide) ?_
  refine aw_isub k226_28 ?_
  refine aw_icmp_gt 1866 k226_29 (by decide) (fun c_29 => ?_) (fun c_29 => ?_)
  · exact absurd c_29 hb
  · refine aw_aload_n k226_32 rfl ?_
    refine aw_iload k226_33 rfl ?_
    refine aw_sload k226_35 (sc_0 (by omega)) (hs.2 0 (by decide)) ?_
    try simp only [hM, ec0]
    refine aw_bipush (v := 63) k226_36 (by decide) ?_
    refine aw_iand k226_38 ?_
    rw [hc]
    refine aw_tableIn (t := 496) (off := 457) k226_39 (by decide) (by decide) (by decide) (by decide) ?_
    exact hG
theorem lh_6 {d i n LS : Nat} {M : mM} (hL : LS ≤ 2048) (hi : i ≤ 4000) (hM : M (16, 0, 0) 0 = nI LS) (he : ¬ LS < i + 4) (hs : Sc i M) (hc : M (15, 0, 0) i &&& 63 = 6) (h : LG d 554 i n M) : LG d 23 i n M := by
  intro x5 x6 x7
  obtain ⟨M3, hG⟩ := h x5 x6 x7
  refine ⟨M3, ?_⟩
  have hb : ¬ (nI LS - 4 < nI i) := fun q => he ((lt4 hL hi).mp q)
  have ec0 : (nI i).toNatClampNeg = i := sc_c (by omega)
  refine aw_iload k226_23 rfl ?_
  refine aw_aload_n k226_25 rfl ?_
  refine aw_slen k226_26 ?_
  try simp only [hM, ec0]
  refine aw_iconst (v := 4) k226_27 (by decide) ?_
  refine aw_isub k226_28 ?_
  refine aw_icmp_gt 1866 k226_29 (by decide) (fun c_29 => ?_) (fun c_29 => ?_)
  · exact absurd c_29 hb
  · refine aw_aload_n k226_32 rfl ?_
    refine aw_iload k226_33 rfl ?_
    refine aw_sload k226_35 (sc_0 (by omega)) (hs.2 0 (by decide)) ?_
    try simp only [hM, ec0]
    refine aw_bipush (v := 63) k226_36 (by decide) ?_
    refine aw_iand k226_38 ?_
    rw [hc]
    refine aw_tableIn (t := 554) (off := 515) k226_39 (by decide) (by decide) (by decide) (by decide) ?_
    exact hG
theorem lh_7 {d i n LS : Nat} {M : mM} (hL : LS ≤ 2048) (hi : i ≤ 4000) (hM : M (16, 0, 0) 0 = nI LS) (he : ¬ LS < i + 4) (hs : Sc i M) (hc : M (15, 0, 0) i &&& 63 = 7) (h : LG d 567 i n M) : LG d 23 i n M := by
  intro x5 x6 x7
  obtain ⟨M3, hG⟩ := h x5 x6 x7
  refine ⟨M3, ?_⟩
  have hb : ¬ (nI LS - 4 < nI i) := fun q => he ((lt4 hL hi).mp q)
  have ec0 : (nI i).toNatClampNeg = i := sc_c (by omega)
  refine aw_iload k226_23 rfl ?_
  refine aw_aload_n k226_25 rfl ?_
  refine aw_slen k226_26 ?_
  try simp only [hM, ec0]
  refine aw_iconst (v := 4) k226_27 (by decide) ?_
  refine aw_isub k226_28 ?_
  refine aw_icmp_gt 1866 k226_29 (by decide) (fun c_29 => ?_) (fun c_29 => ?_)
  · exact absurd c_29 hb
  · refine aw_aload_n k226_32 rfl ?_
    refine aw_iload k226_33 rfl ?_
    refine aw_sload k226_35 (sc_0 (by omega)) (hs.2 0 (by decide)) ?_
    try simp only [hM, ec0]
    refine aw_bipush (v := 63) k226_36 (by decide) ?_
    refine aw_iand k226_38 ?_
    rw [hc]
    refine aw_tableIn (t := 567) (off := 528) k226_39 (by decide) (by decide) (by decide) (by decide) ?_
    exact hG
theorem lh_8 {d i n LS : Nat} {M : mM} (hL : LS ≤ 2048) (hi : i ≤ 4000) (hM : M (16, 0, 0) 0 = nI LS) (he : ¬ LS < i + 4) (hs : Sc i M) (hc : M (15, 0, 0) i &&& 63 = 8) (h : LG d 580 i n M) : LG d 23 i n M := by
  intro x5 x6 x7
  obtain ⟨M3, hG⟩ := h x5 x6 x7
  refine ⟨M3, ?_⟩
  have hb : ¬ (nI LS - 4 < nI i) := fun q => he ((lt4 hL hi).mp q)
  have ec0 : (nI i).toNatClampNeg = i := sc_c (by omega)
  refine aw_iload k226_23 rfl ?_
  refine aw_aload_n k226_25 rfl ?_
  refine aw_slen k226_26 ?_
  try simp only [hM, ec0]
  refine aw_iconst (v := 4) k226_27 (by decide) ?_
  refine aw_isub k226_28 ?_
  refine aw_icmp_gt 1866 k226_29 (by decide) (fun c_29 => ?_) (fun c_29 => ?_)
  · exact absurd c_29 hb
  · refine aw_aload_n k226_32 rfl ?_
    refine aw_iload k226_33 rfl ?_
    refine aw_sload k226_35 (sc_0 (by omega)) (hs.2 0 (by decide)) ?_
    try simp only [hM, ec0]
    refine aw_bipush (v := 63) k226_36 (by decide) ?_
    refine aw_iand k226_38 ?_
    rw [hc]
    refine aw_tableIn (t := 580) (off := 541) k226_39 (by decide) (by decide) (by decide) (by decide) ?_
    exact hG
theorem lh_9 {d i n LS : Nat} {M : mM} (hL : LS ≤ 2048) (hi : i ≤ 4000) (hM : M (16, 0, 0) 0 = nI LS) (he : ¬ LS < i + 4) (hs : Sc i M) (hc : M (15, 0, 0) i &&& 63 = 9) (h : LG d 624 i n M) : LG d 23 i n M := by
  intro x5 x6 x7
  obtain ⟨M3, hG⟩ := h x5 x6 x7
  refine ⟨M3, ?_⟩
  have hb : ¬ (nI LS - 4 < nI i) := fun q => he ((lt4 hL hi).mp q)
  have ec0 : (nI i).toNatClampNeg = i := sc_c (by omega)
  refine aw_iload k226_23 rfl ?_
  refine aw_aload_n k226_25 rfl ?_
  refine aw_slen k226_26 ?_
  try simp only [hM, ec0]
  refine aw_iconst (v := 4) k226_27 (by decide) ?_
  refine aw_isub k226_28 ?_
  refine aw_icmp_gt 1866 k226_29 (by decide) (fun c_29 => ?_) (fun c_29 => ?_)
  · exact absurd c_29 hb
  · refine aw_aload_n k226_32 rfl ?_
    refine aw_iload k226_33 rfl ?_
    refine aw_sload k226_35 (sc_0 (by omega)) (hs.2 0 (by decide)) ?_
    try simp only [hM, ec0]
    refine aw_bipush (v := 63) k226_36 (by decide) ?_
    refine aw_iand k226_38 ?_
    rw [hc]
    refine aw_tableIn (t := 624) (off := 585) k226_39 (by decide) (by decide) (by decide) (by decide) ?_
    exact hG
theorem lh_10 {d i n LS : Nat} {M : mM} (hL : LS ≤ 2048) (hi : i ≤ 4000) (hM : M (16, 0, 0) 0 = nI LS) (he : ¬ LS < i + 4) (hs : Sc i M) (hc : M (15, 0, 0) i &&& 63 = 10) (h : LG d 668 i n M) : LG d 23 i n M := by
  intro x5 x6 x7
  obtain ⟨M3, hG⟩ := h x5 x6 x7
  refine ⟨M3, ?_⟩
  have hb : ¬ (nI LS - 4 < nI i) := fun q => he ((lt4 hL hi).mp q)
  have ec0 : (nI i).toNatClampNeg = i := sc_c (by omega)
  refine aw_iload k226_23 rfl ?_
  refine aw_aload_n k226_25 rfl ?_
  refine aw_slen k226_26 ?_
  try simp only [hM, ec0]
  refine aw_iconst (v := 4) k226_27 (by decide) ?_
  refine aw_isub k226_28 ?_
  refine aw_icmp_gt 1866 k226_29 (by decide) (fun c_29 => ?_) (fun c_29 => ?_)
  · exact absurd c_29 hb
  · refine aw_aload_n k226_32 rfl ?_
    refine aw_iload k226_33 rfl ?_
    refine aw_sload k226_35 (sc_0 (by omega)) (hs.2 0 (by decide)) ?_
    try simp only [hM, ec0]
    refine aw_bipush (v := 63) k226_36 (by decide) ?_
    refine aw_iand k226_38 ?_
    rw [hc]
    refine aw_tableIn (t := 668) (off := 629) k226_39 (by decide) (by decide) (by decide) (by decide) ?_
    exact hG
theorem lh_11 {d i n LS : Nat} {M : mM} (hL : LS ≤ 2048) (hi : i ≤ 4000) (hM : M (16, 0, 0) 0 = nI LS) (he : ¬ LS < i + 4) (hs : Sc i M) (hc : M (15, 0, 0) i &&& 63 = 11) (h : LG d 712 i n M) : LG d 23 i n M := by
  intro x5 x6 x7
  obtain ⟨M3, hG⟩ := h x5 x6 x7
  refine ⟨M3, ?_⟩
  have hb : ¬ (nI LS - 4 < nI i) := fun q => he ((lt4 hL hi).mp q)
  have ec0 : (nI i).toNatClampNeg = i := sc_c (by omega)
  refine aw_iload k226_23 rfl ?_
  refine aw_aload_n k226_25 rfl ?_
  refine aw_slen k226_26 ?_
  try simp only [hM, ec0]
  refine aw_iconst (v := 4) k226_27 (by decide) ?_
  refine aw_isub k226_28 ?_
  refine aw_icmp_gt 1866 k226_29 (by decide) (fun c_29 => ?_) (fun c_29 => ?_)
  · exact absurd c_29 hb
  · refine aw_aload_n k226_32 rfl ?_
    refine aw_iload k226_33 rfl ?_
    refine aw_sload k226_35 (sc_0 (by omega)) (hs.2 0 (by decide)) ?_
    try simp only [hM, ec0]
    refine aw_bipush (v := 63) k226_36 (by decide) ?_
    refine aw_iand k226_38 ?_
    rw [hc]
    refine aw_tableIn (t := 712) (off := 673) k226_39 (by decide) (by decide) (by decide) (by decide) ?_
    exact hG
theorem lh_12 {d i n LS : Nat} {M : mM} (hL : LS ≤ 2048) (hi : i ≤ 4000) (hM : M (16, 0, 0) 0 = nI LS) (he : ¬ LS < i + 4) (hs : Sc i M) (hc : M (15, 0, 0) i &&& 63 = 12) (h : LG d 725 i n M) : LG d 23 i n M := by
  intro x5 x6 x7
  obtain ⟨M3, hG⟩ := h x5 x6 x7
  refine ⟨M3, ?_⟩
  have hb : ¬ (nI LS - 4 < nI i) := fun q => he ((lt4 hL hi).mp q)
  have ec0 : (nI i).toNatClampNeg = i := sc_c (by omega)
  refine aw_iload k226_23 rfl ?_
  refine aw_aload_n k226_25 rfl ?_
  refine aw_slen k226_26 ?_
  try simp only [hM, ec0]
  refine aw_iconst (v := 4) k226_27 (by decide) ?_
  refine aw_isub k226_28 ?_
  refine aw_icmp_gt 1866 k226_29 (by decide) (fun c_29 => ?_) (fun c_29 => ?_)
  · exact absurd c_29 hb
  · refine aw_aload_n k226_32 rfl ?_
    refine aw_iload k226_33 rfl ?_
    refine aw_sload k226_35 (sc_0 (by omega)) (hs.2 0 (by decide)) ?_
    try simp only [hM, ec0]
    refine aw_bipush (v := 63) k226_36 (by decide) ?_
    refine aw_iand k226_38 ?_
    rw [hc]
    refine aw_tableIn (t := 725) (off := 686) k226_39 (by decide) (by decide) (by decide) (by decide) ?_
    exact hG
theorem lh_13 {d i n LS : Nat} {M : mM} (hL : LS ≤ 2048) (hi : i ≤ 4000) (hM : M (16, 0, 0) 0 = nI LS) (he : ¬ LS < i + 4) (hs : Sc i M) (hc : M (15, 0, 0) i &&& 63 = 13) (h : LG d 769 i n M) : LG d 23 i n M := by
  intro x5 x6 x7
  obtain ⟨M3, hG⟩ := h x5 x6 x7
  refine ⟨M3, ?_⟩
  have hb : ¬ (nI LS - 4 < nI i) := fun q => he ((lt4 hL hi).mp q)
  have ec0 : (nI i).toNatClampNeg = i := sc_c (by omega)
  refine aw_iload k226_23 rfl ?_
  refine aw_aload_n k226_25 rfl ?_
  refine aw_slen k226_26 ?_
  try simp only [hM, ec0]
  refine aw_iconst (v := 4) k226_27 (by decide) ?_
  refine aw_isub k226_28 ?_
  refine aw_icmp_gt 1866 k226_29 (by decide) (fun c_29 => ?_) (fun c_29 => ?_)
  · exact absurd c_29 hb
  · refine aw_aload_n k226_32 rfl ?_
    refine aw_iload k226_33 rfl ?_
    refine aw_sload k226_35 (sc_0 (by omega)) (hs.2 0 (by decide)) ?_
    try simp only [hM, ec0]
    refine aw_bipush (v := 63) k226_36 (by decide) ?_
    refine aw_iand k226_38 ?_
    rw [hc]
    refine aw_tableIn (t := 769) (off := 730) k226_39 (by decide) (by decide) (by decide) (by decide) ?_
    exact hG
theorem lh_14 {d i n LS : Nat} {M : mM} (hL : LS ≤ 2048) (hi : i ≤ 4000) (hM : M (16, 0, 0) 0 = nI LS) (he : ¬ LS < i + 4) (hs : Sc i M) (hc : M (15, 0, 0) i &&& 63 = 14) (h : LG d 782 i n M) : LG d 23 i n M := by
  intro x5 x6 x7
  obtain ⟨M3, hG⟩ := h x5 x6 x7
  refine ⟨M3, ?_⟩
  have hb : ¬ (nI LS - 4 < nI i) := fun q => he ((lt4 hL hi).mp q)
  have ec0 : (nI i).toNatClampNeg = i := sc_c (by omega)
  refine aw_iload k226_23 rfl ?_
  refine aw_aload_n k226_25 rfl ?_
  refine aw_slen k226_26 ?_
  try simp only [hM, ec0]
  refine aw_iconst (v := 4) k226_27 (by decide) ?_
  refine aw_isub k226_28 ?_
  refine aw_icmp_gt 1866 k226_29 (by decide) (fun c_29 => ?_) (fun c_29 => ?_)
  · exact absurd c_29 hb
  · refine aw_aload_n k226_32 rfl ?_
    refine aw_iload k226_33 rfl ?_
    refine aw_sload k226_35 (sc_0 (by omega)) (hs.2 0 (by decide)) ?_
    try simp only [hM, ec0]
    refine aw_bipush (v := 63) k226_36 (by decide) ?_
    refine aw_iand k226_38 ?_
    rw [hc]
    refine aw_tableIn (t := 782) (off := 743) k226_39 (by decide) (by decide) (by decide) (by decide) ?_
    exact hG
theorem lh_15 {d i n LS : Nat} {M : mM} (hL : LS ≤ 2048) (hi : i ≤ 4000) (hM : M (16, 0, 0) 0 = nI LS) (he : ¬ LS < i + 4) (hs : Sc i M) (hc : M (15, 0, 0) i &&& 63 = 15) (h : LG d 795 i n M) : LG d 23 i n M := by
  intro x5 x6 x7
  obtain ⟨M3, hG⟩ := h x5 x6 x7
  refine ⟨M3, ?_⟩
  have hb : ¬ (nI LS - 4 < nI i) := fun q => he ((lt4 hL hi).mp q)
  have ec0 : (nI i).toNatClampNeg = i := sc_c (by omega)
  refine aw_iload k226_23 rfl ?_
  refine aw_aload_n k226_25 rfl ?_
  refine aw_slen k226_26 ?_
  try simp only [hM, ec0]
  refine aw_iconst (v := 4) k226_27 (by decide) ?_
  refine aw_isub k226_28 ?_
  refine aw_icmp_gt 1866 k226_29 (by decide) (fun c_29 => ?_) (fun c_29 => ?_)
  · exact absurd c_29 hb
  · refine aw_aload_n k226_32 rfl ?_
    refine aw_iload k226_33 rfl ?_
    refine aw_sload k226_35 (sc_0 (by omega)) (hs.2 0 (by decide)) ?_
    try simp only [hM, ec0]
    refine aw_bipush (v := 63) k226_36 (by decide) ?_
    refine aw_iand k226_38 ?_
    rw [hc]
    refine aw_tableIn (t := 795) (off := 756) k226_39 (by decide) (by decide) (by decide) (by decide) ?_
    exact hG
theorem lh_16 {d i n LS : Nat} {M : mM} (hL : LS ≤ 2048) (hi : i ≤ 4000) (hM : M (16, 0, 0) 0 = nI LS) (he : ¬ LS < i + 4) (hs : Sc i M) (hc : M (15, 0, 0) i &&& 63 = 16) (h : LG d 808 i n M) : LG d 23 i n M := by
  intro x5 x6 x7
  obtain ⟨M3, hG⟩ := h x5 x6 x7
  refine ⟨M3, ?_⟩
  have hb : ¬ (nI LS - 4 < nI i) := fun q => he ((lt4 hL hi).mp q)
  have ec0 : (nI i).toNatClampNeg = i := sc_c (by omega)
  refine aw_iload k226_23 rfl ?_
  refine aw_aload_n k226_25 rfl ?_
  refine aw_slen k226_26 ?_
  try simp only [hM, ec0]
  refine aw_iconst (v := 4) k226_27 (by decide) ?_
  refine aw_isub k226_28 ?_
  refine aw_icmp_gt 1866 k226_29 (by decide) (fun c_29 => ?_) (fun c_29 => ?_)
  · exact absurd c_29 hb
  · refine aw_aload_n k226_32 rfl ?_
    refine aw_iload k226_33 rfl ?_
    refine aw_sload k226_35 (sc_0 (by omega)) (hs.2 0 (by decide)) ?_
    try simp only [hM, ec0]
    refine aw_bipush (v := 63) k226_36 (by decide) ?_
    refine aw_iand k226_38 ?_
    rw [hc]
    refine aw_tableIn (t := 808) (off := 769) k226_39 (by decide) (by decide) (by decide) (by decide) ?_
    exact hG
theorem lh_17 {d i n LS : Nat} {M : mM} (hL : LS ≤ 2048) (hi : i ≤ 4000) (hM : M (16, 0, 0) 0 = nI LS) (he : ¬ LS < i + 4) (hs : Sc i M) (hc : M (15, 0, 0) i &&& 63 = 17) (h : LG d 821 i n M) : LG d 23 i n M := by
  intro x5 x6 x7
  obtain ⟨M3, hG⟩ := h x5 x6 x7
  refine ⟨M3, ?_⟩
  have hb : ¬ (nI LS - 4 < nI i) := fun q => he ((lt4 hL hi).mp q)
  have ec0 : (nI i).toNatClampNeg = i := sc_c (by omega)
  refine aw_iload k226_23 rfl ?_
  refine aw_aload_n k226_25 rfl ?_
  refine aw_slen k226_26 ?_
  try simp only [hM, ec0]
  refine aw_iconst (v := 4) k226_27 (by decide) ?_
  refine aw_isub k226_28 ?_
  refine aw_icmp_gt 1866 k226_29 (by decide) (fun c_29 => ?_) (fun c_29 => ?_)
  · exact absurd c_29 hb
  · refine aw_aload_n k226_32 rfl ?_
    refine aw_iload k226_33 rfl ?_
    refine aw_sload k226_35 (sc_0 (by omega)) (hs.2 0 (by decide)) ?_
    try simp only [hM, ec0]
    refine aw_bipush (v := 63) k226_36 (by decide) ?_
    refine aw_iand k226_38 ?_
    rw [hc]
    refine aw_tableIn (t := 821) (off := 782) k226_39 (by decide) (by decide) (by decide) (by decide) ?_
    exact hG
theorem lh_18 {d i n LS : Nat} {M : mM} (hL : LS ≤ 2048) (hi : i ≤ 4000) (hM : M (16, 0, 0) 0 = nI LS) (he : ¬ LS < i + 4) (hs : Sc i M) (hc : M (15, 0, 0) i &&& 63 = 18) (h : LG d 834 i n M) : LG d 23 i n M := by
  intro x5 x6 x7
  obtain ⟨M3, hG⟩ := h x5 x6 x7
  refine ⟨M3, ?_⟩
  have hb : ¬ (nI LS - 4 < nI i) := fun q => he ((lt4 hL hi).mp q)
  have ec0 : (nI i).toNatClampNeg = i := sc_c (by omega)
  refine aw_iload k226_23 rfl ?_
  refine aw_aload_n k226_25 rfl ?_
  refine aw_slen k226_26 ?_
  try simp only [hM, ec0]
  refine aw_iconst (v := 4) k226_27 (by decide) ?_
  refine aw_isub k226_28 ?_
  refine aw_icmp_gt 1866 k226_29 (by decide) (fun c_29 => ?_) (fun c_29 => ?_)
  · exact absurd c_29 hb
  · refine aw_aload_n k226_32 rfl ?_
    refine aw_iload k226_33 rfl ?_
    refine aw_sload k226_35 (sc_0 (by omega)) (hs.2 0 (by decide)) ?_
    try simp only [hM, ec0]
    refine aw_bipush (v := 63) k226_36 (by decide) ?_
    refine aw_iand k226_38 ?_
    rw [hc]
    refine aw_tableIn (t := 834) (off := 795) k226_39 (by decide) (by decide) (by decide) (by decide) ?_
    exact hG
theorem lh_19 {d i n LS : Nat} {M : mM} (hL : LS ≤ 2048) (hi : i ≤ 4000) (hM : M (16, 0, 0) 0 = nI LS) (he : ¬ LS < i + 4) (hs : Sc i M) (hc : M (15, 0, 0) i &&& 63 = 19) (h : LG d 890 i n M) : LG d 23 i n M := by
  intro x5 x6 x7
  obtain ⟨M3, hG⟩ := h x5 x6 x7
  refine ⟨M3, ?_⟩
  have hb : ¬ (nI LS - 4 < nI i) := fun q => he ((lt4 hL hi).mp q)
  have ec0 : (nI i).toNatClampNeg = i := sc_c (by omega)
  refine aw_iload k226_23 rfl ?_
  refine aw_aload_n k226_25 rfl ?_
  refine aw_slen k226_26 ?_
  try simp only [hM, ec0]
  refine aw_iconst (v := 4) k226_27 (by decide) ?_
  refine aw_isub k226_28 ?_
  refine aw_icmp_gt 1866 k226_29 (by decide) (fun c_29 => ?_) (fun c_29 => ?_)
  · exact absurd c_29 hb
  · refine aw_aload_n k226_32 rfl ?_
    refine aw_iload k226_33 rfl ?_
    refine aw_sload k226_35 (sc_0 (by omega)) (hs.2 0 (by decide)) ?_
    try simp only [hM, ec0]
    refine aw_bipush (v := 63) k226_36 (by decide) ?_
    refine aw_iand k226_38 ?_
    rw [hc]
    refine aw_tableIn (t := 890) (off := 851) k226_39 (by decide) (by decide) (by decide) (by decide) ?_
    exact hG
theorem lh_20 {d i n LS : Nat} {M : mM} (hL : LS ≤ 2048) (hi : i ≤ 4000) (hM : M (16, 0, 0) 0 = nI LS) (he : ¬ LS < i + 4) (hs : Sc i M) (hc : M (15, 0, 0) i &&& 63 = 20) (h : LG d 946 i n M) : LG d 23 i n M := by
  intro x5 x6 x7
  obtain ⟨M3, hG⟩ := h x5 x6 x7
  refine ⟨M3, ?_⟩
  have hb : ¬ (nI LS - 4 < nI i) := fun q => he ((lt4 hL hi).mp q)
  have ec0 : (nI i).toNatClampNeg = i := sc_c (by omega)
  refine aw_iload k226_23 rfl ?_
  refine aw_aload_n k226_25 rfl ?_
  refine aw_slen k226_26 ?_
  try simp only [hM, ec0]
  refine aw_iconst (v := 4) k226_27 (by decide) ?_
  refine aw_isub k226_28 ?_
  refine aw_icmp_gt 1866 k226_29 (by decide) (fun c_29 => ?_) (fun c_29 => ?_)
  · exact absurd c_29 hb
  · refine aw_aload_n k226_32 rfl ?_
    refine aw_iload k226_33 rfl ?_
    refine aw_sload k226_35 (sc_0 (by omega)) (hs.2 0 (by decide)) ?_
    try simp only [hM, ec0]
    refine aw_bipush (v := 63) k226_36 (by decide) ?_
    refine aw_iand k226_38 ?_
    rw [hc]
    refine aw_tableIn (t := 946) (off := 907) k226_39 (by decide) (by decide) (by decide) (by decide) ?_
    exact hG
theorem lh_21 {d i n LS : Nat} {M : mM} (hL : LS ≤ 2048) (hi : i ≤ 4000) (hM : M (16, 0, 0) 0 = nI LS) (he : ¬ LS < i + 4) (hs : Sc i M) (hc : M (15, 0, 0) i &&& 63 = 21) (h : LG d 959 i n M) : LG d 23 i n M := by
  intro x5 x6 x7
  obtain ⟨M3, hG⟩ := h x5 x6 x7
  refine ⟨M3, ?_⟩
  have hb : ¬ (nI LS - 4 < nI i) := fun q => he ((lt4 hL hi).mp q)
  have ec0 : (nI i).toNatClampNeg = i := sc_c (by omega)
  refine aw_iload k226_23 rfl ?_
  refine aw_aload_n k226_25 rfl ?_
  refine aw_slen k226_26 ?_
  try simp only [hM, ec0]
  refine aw_iconst (v := 4) k226_27 (by decide) ?_
  refine aw_isub k226_28 ?_
  refine aw_icmp_gt 1866 k226_29 (by decide) (fun c_29 => ?_) (fun c_29 => ?_)
  · exact absurd c_29 hb
  · refine aw_aload_n k226_32 rfl ?_
    refine aw_iload k226_33 rfl ?_
    refine aw_sload k226_35 (sc_0 (by omega)) (hs.2 0 (by decide)) ?_
    try simp only [hM, ec0]
    refine aw_bipush (v := 63) k226_36 (by decide) ?_
    refine aw_iand k226_38 ?_
    rw [hc]
    refine aw_tableIn (t := 959) (off := 920) k226_39 (by decide) (by decide) (by decide) (by decide) ?_
    exact hG
theorem lh_22 {d i n LS : Nat} {M : mM} (hL : LS ≤ 2048) (hi : i ≤ 4000) (hM : M (16, 0, 0) 0 = nI LS) (he : ¬ LS < i + 4) (hs : Sc i M) (hc : M (15, 0, 0) i &&& 63 = 22) (h : LG d 1015 i n M) : LG d 23 i n M := by
  intro x5 x6 x7
  obtain ⟨M3, hG⟩ := h x5 x6 x7
  refine ⟨M3, ?_⟩
  have hb : ¬ (nI LS - 4 < nI i) := fun q => he ((lt4 hL hi).mp q)
  have ec0 : (nI i).toNatClampNeg = i := sc_c (by omega)
  refine aw_iload k226_23 rfl ?_
  refine aw_aload_n k226_25 rfl ?_
  refine aw_slen k226_26 ?_
  try simp only [hM, ec0]
  refine aw_iconst (v := 4) k226_27 (by decide) ?_
  refine aw_isub k226_28 ?_
  refine aw_icmp_gt 1866 k226_29 (by decide) (fun c_29 => ?_) (fun c_29 => ?_)
  · exact absurd c_29 hb
  · refine aw_aload_n k226_32 rfl ?_
    refine aw_iload k226_33 rfl ?_
    refine aw_sload k226_35 (sc_0 (by omega)) (hs.2 0 (by decide)) ?_
    try simp only [hM, ec0]
    refine aw_bipush (v := 63) k226_36 (by decide) ?_
    refine aw_iand k226_38 ?_
    rw [hc]
    refine aw_tableIn (t := 1015) (off := 976) k226_39 (by decide) (by decide) (by decide) (by decide) ?_
    exact hG
theorem lh_23 {d i n LS : Nat} {M : mM} (hL : LS ≤ 2048) (hi : i ≤ 4000) (hM : M (16, 0, 0) 0 = nI LS) (he : ¬ LS < i + 4) (hs : Sc i M) (hc : M (15, 0, 0) i &&& 63 = 23) (h : LG d 1083 i n M) : LG d 23 i n M := by
  intro x5 x6 x7
  obtain ⟨M3, hG⟩ := h x5 x6 x7
  refine ⟨M3, ?_⟩
  have hb : ¬ (nI LS - 4 < nI i) := fun q => he ((lt4 hL hi).mp q)
  have ec0 : (nI i).toNatClampNeg = i := sc_c (by omega)
  refine aw_iload k226_23 rfl ?_
  refine aw_aload_n k226_25 rfl ?_
  refine aw_slen k226_26 ?_
  try simp only [hM, ec0]
  refine aw_iconst (v := 4) k226_27 (by decide) ?_
  refine aw_isub k226_28 ?_
  refine aw_icmp_gt 1866 k226_29 (by decide) (fun c_29 => ?_) (fun c_29 => ?_)
  · exact absurd c_29 hb
  · refine aw_aload_n k226_32 rfl ?_
    refine aw_iload k226_33 rfl ?_
    refine aw_sload k226_35 (sc_0 (by omega)) (hs.2 0 (by decide)) ?_
    try simp only [hM, ec0]
    refine aw_bipush (v := 63) k226_36 (by decide) ?_
    refine aw_iand k226_38 ?_
    rw [hc]
    refine aw_tableIn (t := 1083) (off := 1044) k226_39 (by decide) (by decide) (by decide) (by decide) ?_
    exact hG
theorem lh_24 {d i n LS : Nat} {M : mM} (hL : LS ≤ 2048) (hi : i ≤ 4000) (hM : M (16, 0, 0) 0 = nI LS) (he : ¬ LS < i + 4) (hs : Sc i M) (hc : M (15, 0, 0) i &&& 63 = 24) (h : LG d 1151 i n M) : LG d 23 i n M := by
  intro x5 x6 x7
  obtain ⟨M3, hG⟩ := h x5 x6 x7
  refine ⟨M3, ?_⟩
  have hb : ¬ (nI LS - 4 < nI i) := fun q => he ((lt4 hL hi).mp q)
  have ec0 : (nI i).toNatClampNeg = i := sc_c (by omega)
  refine aw_iload k226_23 rfl ?_
  refine aw_aload_n k226_25 rfl ?_
  refine aw_slen k226_26 ?_
  try simp only [hM, ec0]
  refine aw_iconst (v := 4) k226_27 (by decide) ?_
  refine aw_isub k226_28 ?_
  refine aw_icmp_gt 1866 k226_29 (by decide) (fun c_29 => ?_) (fun c_29 => ?_)
  · exact absurd c_29 hb
  · refine aw_aload_n k226_32 rfl ?_
    refine aw_iload k226_33 rfl ?_
    refine aw_sload k226_35 (sc_0 (by omega)) (hs.2 0 (by decide)) ?_
    try simp only [hM, ec0]
    refine aw_bipush (v := 63) k226_36 (by decide) ?_
    refine aw_iand k226_38 ?_
    rw [hc]
    refine aw_tableIn (t := 1151) (off := 1112) k226_39 (by decide) (by decide) (by decide) (by decide) ?_
    exact hG
theorem lh_25 {d i n LS : Nat} {M : mM} (hL : LS ≤ 2048) (hi : i ≤ 4000) (hM : M (16, 0, 0) 0 = nI LS) (he : ¬ LS < i + 4) (hs : Sc i M) (hc : M (15, 0, 0) i &&& 63 = 25) (h : LG d 1207 i n M) : LG d 23 i n M := by
  intro x5 x6 x7
  obtain ⟨M3, hG⟩ := h x5 x6 x7
  refine ⟨M3, ?_⟩
  have hb : ¬ (nI LS - 4 < nI i) := fun q => he ((lt4 hL hi).mp q)
  have ec0 : (nI i).toNatClampNeg = i := sc_c (by omega)
  refine aw_iload k226_23 rfl ?_
  refine aw_aload_n k226_25 rfl ?_
  refine aw_slen k226_26 ?_
  try simp only [hM, ec0]
  refine aw_iconst (v := 4) k226_27 (by decide) ?_
  refine aw_isub k226_28 ?_
  refine aw_icmp_gt 1866 k226_29 (by decide) (fun c_29 => ?_) (fun c_29 => ?_)
  · exact absurd c_29 hb
  · refine aw_aload_n k226_32 rfl ?_
    refine aw_iload k226_33 rfl ?_
    refine aw_sload k226_35 (sc_0 (by omega)) (hs.2 0 (by decide)) ?_
    try simp only [hM, ec0]
    refine aw_bipush (v := 63) k226_36 (by decide) ?_
    refine aw_iand k226_38 ?_
    rw [hc]
    refine aw_tableIn (t := 1207) (off := 1168) k226_39 (by decide) (by decide) (by decide) (by decide) ?_
    exact hG
theorem lh_26 {d i n LS : Nat} {M : mM} (hL : LS ≤ 2048) (hi : i ≤ 4000) (hM : M (16, 0, 0) 0 = nI LS) (he : ¬ LS < i + 4) (hs : Sc i M) (hc : M (15, 0, 0) i &&& 63 = 26) (h : LG d 1270 i n M) : LG d 23 i n M := by
  intro x5 x6 x7
  obtain ⟨M3, hG⟩ := h x5 x6 x7
  refine ⟨M3, ?_⟩
  have hb : ¬ (nI LS - 4 < nI i) := fun q => he ((lt4 hL hi).mp q)
  have ec0 : (nI i).toNatClampNeg = i := sc_c (by omega)
  refine aw_iload k226_23 rfl ?_
  refine aw_aload_n k226_25 rfl ?_
  refine aw_slen k226_26 ?_
  try simp only [hM, ec0]
  refine aw_iconst (v := 4) k226_27 (by decide) ?_
  refine aw_isub k226_28 ?_
  refine aw_icmp_gt 1866 k226_29 (by decide) (fun c_29 => ?_) (fun c_29 => ?_)
  · exact absurd c_29 hb
  · refine aw_aload_n k226_32 rfl ?_
    refine aw_iload k226_33 rfl ?_
    refine aw_sload k226_35 (sc_0 (by omega)) (hs.2 0 (by decide)) ?_
    try simp only [hM, ec0]
    refine aw_bipush (v := 63) k226_36 (by decide) ?_
    refine aw_iand k226_38 ?_
    rw [hc]
    refine aw_tableIn (t := 1270) (off := 1231) k226_39 (by decide) (by decide) (by decide) (by decide) ?_
    exact hG
theorem lh_27 {d i n LS : Nat} {M : mM} (hL : LS ≤ 2048) (hi : i ≤ 4000) (hM : M (16, 0, 0) 0 = nI LS) (he : ¬ LS < i + 4) (hs : Sc i M) (hc : M (15, 0, 0) i &&& 63 = 27) (h : LG d 1350 i n M) : LG d 23 i n M := by
  intro x5 x6 x7
  obtain ⟨M3, hG⟩ := h x5 x6 x7
  refine ⟨M3, ?_⟩
  have hb : ¬ (nI LS - 4 < nI i) := fun q => he ((lt4 hL hi).mp q)
  have ec0 : (nI i).toNatClampNeg = i := sc_c (by omega)
  refine aw_iload k226_23 rfl ?_
  refine aw_aload_n k226_25 rfl ?_
  refine aw_slen k226_26 ?_
  try simp only [hM, ec0]
  refine aw_iconst (v := 4) k226_27 (by decide) ?_
  refine aw_isub k226_28 ?_
  refine aw_icmp_gt 1866 k226_29 (by decide) (fun c_29 => ?_) (fun c_29 => ?_)
  · exact absurd c_29 hb
  · refine aw_aload_n k226_32 rfl ?_
    refine aw_iload k226_33 rfl ?_
    refine aw_sload k226_35 (sc_0 (by omega)) (hs.2 0 (by decide)) ?_
    try simp only [hM, ec0]
    refine aw_bipush (v := 63) k226_36 (by decide) ?_
    refine aw_iand k226_38 ?_
    rw [hc]
    refine aw_tableIn (t := 1350) (off := 1311) k226_39 (by decide) (by decide) (by decide) (by decide) ?_
    exact hG
theorem lh_28 {d i n LS : Nat} {M : mM} (hL : LS ≤ 2048) (hi : i ≤ 4000) (hM : M (16, 0, 0) 0 = nI LS) (he : ¬ LS < i + 4) (hs : Sc i M) (hc : M (15, 0, 0) i &&& 63 = 28) (h : LG d 1418 i n M) : LG d 23 i n M := by
  intro x5 x6 x7
  obtain ⟨M3, hG⟩ := h x5 x6 x7
  refine ⟨M3, ?_⟩
  have hb : ¬ (nI LS - 4 < nI i) := fun q => he ((lt4 hL hi).mp q)
  have ec0 : (nI i).toNatClampNeg = i := sc_c (by omega)
  refine aw_iload k226_23 rfl ?_
  refine aw_aload_n k226_25 rfl ?_
  refine aw_slen k226_26 ?_
  try simp only [hM, ec0]
  refine aw_iconst (v := 4) k226_27 (by decide) ?_
  refine aw_isub k226_28 ?_
  refine aw_icmp_gt 1866 k226_29 (by decide) (fun c_29 => ?_) (fun c_29 => ?_)
  · exact absurd c_29 hb
  · refine aw_aload_n k226_32 rfl ?_
    refine aw_iload k226_33 rfl ?_
    refine aw_sload k226_35 (sc_0 (by omega)) (hs.2 0 (by decide)) ?_
    try simp only [hM, ec0]
    refine aw_bipush (v := 63) k226_36 (by decide) ?_
    refine aw_iand k226_38 ?_
    rw [hc]
    refine aw_tableIn (t := 1418) (off := 1379) k226_39 (by decide) (by decide) (by decide) (by decide) ?_
    exact hG
theorem lh_29 {d i n LS : Nat} {M : mM} (hL : LS ≤ 2048) (hi : i ≤ 4000) (hM : M (16, 0, 0) 0 = nI LS) (he : ¬ LS < i + 4) (hs : Sc i M) (hc : M (15, 0, 0) i &&& 63 = 29) (h : LG d 1473 i n M) : LG d 23 i n M := by
  intro x5 x6 x7
  obtain ⟨M3, hG⟩ := h x5 x6 x7
  refine ⟨M3, ?_⟩
  have hb : ¬ (nI LS - 4 < nI i) := fun q => he ((lt4 hL hi).mp q)
  have ec0 : (nI i).toNatClampNeg = i := sc_c (by omega)
  refine aw_iload k226_23 rfl ?_
  refine aw_aload_n k226_25 rfl ?_
  refine aw_slen k226_26 ?_
  try simp only [hM, ec0]
  refine aw_iconst (v := 4) k226_27 (by decide) ?_
  refine aw_isub k226_28 ?_
  refine aw_icmp_gt 1866 k226_29 (by decide) (fun c_29 => ?_) (fun c_29 => ?_)
  · exact absurd c_29 hb
  · refine aw_aload_n k226_32 rfl ?_
    refine aw_iload k226_33 rfl ?_
    refine aw_sload k226_35 (sc_0 (by omega)) (hs.2 0 (by decide)) ?_
    try simp only [hM, ec0]
    refine aw_bipush (v := 63) k226_36 (by decide) ?_
    refine aw_iand k226_38 ?_
    rw [hc]
    refine aw_tableIn (t := 1473) (off := 1434) k226_39 (by decide) (by decide) (by decide) (by decide) ?_
    exact hG
theorem lh_30 {d i n LS : Nat} {M : mM} (hL : LS ≤ 2048) (hi : i ≤ 4000) (hM : M (16, 0, 0) 0 = nI LS) (he : ¬ LS < i + 4) (hs : Sc i M) (hc : M (15, 0, 0) i &&& 63 = 30) (h : LG d 1528 i n M) : LG d 23 i n M := by
  intro x5 x6 x7
  obtain ⟨M3, hG⟩ := h x5 x6 x7
  refine ⟨M3, ?_⟩
  have hb : ¬ (nI LS - 4 < nI i) := fun q => he ((lt4 hL hi).mp q)
  have ec0 : (nI i).toNatClampNeg = i := sc_c (by omega)
  refine aw_iload k226_23 rfl ?_
  refine aw_aload_n k226_25 rfl ?_
  refine aw_slen k226_26 ?_
  try simp only [hM, ec0]
  refine aw_iconst (v := 4) k226_27 (by decide) ?_
  refine aw_isub k226_28 ?_
  refine aw_icmp_gt 1866 k226_29 (by decide) (fun c_29 => ?_) (fun c_29 => ?_)
  · exact absurd c_29 hb
  · refine aw_aload_n k226_32 rfl ?_
    refine aw_iload k226_33 rfl ?_
    refine aw_sload k226_35 (sc_0 (by omega)) (hs.2 0 (by decide)) ?_
    try simp only [hM, ec0]
    refine aw_bipush (v := 63) k226_36 (by decide) ?_
    refine aw_iand k226_38 ?_
    rw [hc]
    refine aw_tableIn (t := 1528) (off := 1489) k226_39 (by decide) (by decide) (by decide) (by decide) ?_
    exact hG
theorem lh_31 {d i n LS : Nat} {M : mM} (hL : LS ≤ 2048) (hi : i ≤ 4000) (hM : M (16, 0, 0) 0 = nI LS) (he : ¬ LS < i + 4) (hs : Sc i M) (hc : M (15, 0, 0) i &&& 63 = 31) (h : LG d 1584 i n M) : LG d 23 i n M := by
  intro x5 x6 x7
  obtain ⟨M3, hG⟩ := h x5 x6 x7
  refine ⟨M3, ?_⟩
  have hb : ¬ (nI LS - 4 < nI i) := fun q => he ((lt4 hL hi).mp q)
  have ec0 : (nI i).toNatClampNeg = i := sc_c (by omega)
  refine aw_iload k226_23 rfl ?_
  refine aw_aload_n k226_25 rfl ?_
  refine aw_slen k226_26 ?_
  try simp only [hM, ec0]
  refine aw_iconst (v := 4) k226_27 (by decide) ?_
  refine aw_isub k226_28 ?_
  refine aw_icmp_gt 1866 k226_29 (by decide) (fun c_29 => ?_) (fun c_29 => ?_)
  · exact absurd c_29 hb
  · refine aw_aload_n k226_32 rfl ?_
    refine aw_iload k226_33 rfl ?_
    refine aw_sload k226_35 (sc_0 (by omega)) (hs.2 0 (by decide)) ?_
    try simp only [hM, ec0]
    refine aw_bipush (v := 63) k226_36 (by decide) ?_
    refine aw_iand k226_38 ?_
    rw [hc]
    refine aw_tableIn (t := 1584) (off := 1545) k226_39 (by decide) (by decide) (by decide) (by decide) ?_
    exact hG
theorem lh_32 {d i n LS : Nat} {M : mM} (hL : LS ≤ 2048) (hi : i ≤ 4000) (hM : M (16, 0, 0) 0 = nI LS) (he : ¬ LS < i + 4) (hs : Sc i M) (hc : M (15, 0, 0) i &&& 63 = 32) (h : LG d 1640 i n M) : LG d 23 i n M := by
  intro x5 x6 x7
  obtain ⟨M3, hG⟩ := h x5 x6 x7
  refine ⟨M3, ?_⟩
  have hb : ¬ (nI LS - 4 < nI i) := fun q => he ((lt4 hL hi).mp q)
  have ec0 : (nI i).toNatClampNeg = i := sc_c (by omega)
  refine aw_iload k226_23 rfl ?_
  refine aw_aload_n k226_25 rfl ?_
  refine aw_slen k226_26 ?_
  try simp only [hM, ec0]
  refine aw_iconst (v := 4) k226_27 (by decide) ?_
  refine aw_isub k226_28 ?_
  refine aw_icmp_gt 1866 k226_29 (by decide) (fun c_29 => ?_) (fun c_29 => ?_)
  · exact absurd c_29 hb
  · refine aw_aload_n k226_32 rfl ?_
    refine aw_iload k226_33 rfl ?_
    refine aw_sload k226_35 (sc_0 (by omega)) (hs.2 0 (by decide)) ?_
    try simp only [hM, ec0]
    refine aw_bipush (v := 63) k226_36 (by decide) ?_
    refine aw_iand k226_38 ?_
    rw [hc]
    refine aw_tableIn (t := 1640) (off := 1601) k226_39 (by decide) (by decide) (by decide) (by decide) ?_
    exact hG
theorem lh_33 {d i n LS : Nat} {M : mM} (hL : LS ≤ 2048) (hi : i ≤ 4000) (hM : M (16, 0, 0) 0 = nI LS) (he : ¬ LS < i + 4) (hs : Sc i M) (hc : M (15, 0, 0) i &&& 63 = 33) (h : LG d 1696 i n M) : LG d 23 i n M := by
  intro x5 x6 x7
  obtain ⟨M3, hG⟩ := h x5 x6 x7
  refine ⟨M3, ?_⟩
  have hb : ¬ (nI LS - 4 < nI i) := fun q => he ((lt4 hL hi).mp q)
  have ec0 : (nI i).toNatClampNeg = i := sc_c (by omega)
  refine aw_iload k226_23 rfl ?_
  refine aw_aload_n k226_25 rfl ?_
  refine aw_slen k226_26 ?_
  try simp only [hM, ec0]
  refine aw_iconst (v := 4) k226_27 (by decide) ?_
  refine aw_isub k226_28 ?_
  refine aw_icmp_gt 1866 k226_29 (by decide) (fun c_29 => ?_) (fun c_29 => ?_)
  · exact absurd c_29 hb
  · refine aw_aload_n k226_32 rfl ?_
    refine aw_iload k226_33 rfl ?_
    refine aw_sload k226_35 (sc_0 (by omega)) (hs.2 0 (by decide)) ?_
    try simp only [hM, ec0]
    refine aw_bipush (v := 63) k226_36 (by decide) ?_
    refine aw_iand k226_38 ?_
    rw [hc]
    refine aw_tableIn (t := 1696) (off := 1657) k226_39 (by decide) (by decide) (by decide) (by decide) ?_
    exact hG
theorem lh_34 {d i n LS : Nat} {M : mM} (hL : LS ≤ 2048) (hi : i ≤ 4000) (hM : M (16, 0, 0) 0 = nI LS) (he : ¬ LS < i + 4) (hs : Sc i M) (hc : M (15, 0, 0) i &&& 63 = 34) (h : LG d 1709 i n M) : LG d 23 i n M := by
  intro x5 x6 x7
  obtain ⟨M3, hG⟩ := h x5 x6 x7
  refine ⟨M3, ?_⟩
  have hb : ¬ (nI LS - 4 < nI i) := fun q => he ((lt4 hL hi).mp q)
  have ec0 : (nI i).toNatClampNeg = i := sc_c (by omega)
  refine aw_iload k226_23 rfl ?_
  refine aw_aload_n k226_25 rfl ?_
  refine aw_slen k226_26 ?_
  try simp only [hM, ec0]
  refine aw_iconst (v := 4) k226_27 (by decide) ?_
  refine aw_isub k226_28 ?_
  refine aw_icmp_gt 1866 k226_29 (by decide) (fun c_29 => ?_) (fun c_29 => ?_)
  · exact absurd c_29 hb
  · refine aw_aload_n k226_32 rfl ?_
    refine aw_iload k226_33 rfl ?_
    refine aw_sload k226_35 (sc_0 (by omega)) (hs.2 0 (by decide)) ?_
    try simp only [hM, ec0]
    refine aw_bipush (v := 63) k226_36 (by decide) ?_
    refine aw_iand k226_38 ?_
    rw [hc]
    refine aw_tableIn (t := 1709) (off := 1670) k226_39 (by decide) (by decide) (by decide) (by decide) ?_
    exact hG
theorem lh_35 {d i n LS : Nat} {M : mM} (hL : LS ≤ 2048) (hi : i ≤ 4000) (hM : M (16, 0, 0) 0 = nI LS) (he : ¬ LS < i + 4) (hs : Sc i M) (hc : M (15, 0, 0) i &&& 63 = 35) (h : LG d 1723 i n M) : LG d 23 i n M := by
  intro x5 x6 x7
  obtain ⟨M3, hG⟩ := h x5 x6 x7
  refine ⟨M3, ?_⟩
  have hb : ¬ (nI LS - 4 < nI i) := fun q => he ((lt4 hL hi).mp q)
  have ec0 : (nI i).toNatClampNeg = i := sc_c (by omega)
  refine aw_iload k226_23 rfl ?_
  refine aw_aload_n k226_25 rfl ?_
  refine aw_slen k226_26 ?_
  try simp only [hM, ec0]
  refine aw_iconst (v := 4) k226_27 (by decide) ?_
  refine aw_isub k226_28 ?_
  refine aw_icmp_gt 1866 k226_29 (by decide) (fun c_29 => ?_) (fun c_29 => ?_)
  · exact absurd c_29 hb
  · refine aw_aload_n k226_32 rfl ?_
    refine aw_iload k226_33 rfl ?_
    refine aw_sload k226_35 (sc_0 (by omega)) (hs.2 0 (by decide)) ?_
    try simp only [hM, ec0]
    refine aw_bipush (v := 63) k226_36 (by decide) ?_
    refine aw_iand k226_38 ?_
    rw [hc]
    refine aw_tableIn (t := 1723) (off := 1684) k226_39 (by decide) (by decide) (by decide) (by decide) ?_
    exact hG
theorem lh_36 {d i n LS : Nat} {M : mM} (hL : LS ≤ 2048) (hi : i ≤ 4000) (hM : M (16, 0, 0) 0 = nI LS) (he : ¬ LS < i + 4) (hs : Sc i M) (hc : M (15, 0, 0) i &&& 63 = 36) (h : LG d 1791 i n M) : LG d 23 i n M := by
  intro x5 x6 x7
  obtain ⟨M3, hG⟩ := h x5 x6 x7
  refine ⟨M3, ?_⟩
  have hb : ¬ (nI LS - 4 < nI i) := fun q => he ((lt4 hL hi).mp q)
  have ec0 : (nI i).toNatClampNeg = i := sc_c (by omega)
  refine aw_iload k226_23 rfl ?_
  refine aw_aload_n k226_25 rfl ?_
  refine aw_slen k226_26 ?_
  try simp only [hM, ec0]
  refine aw_iconst (v := 4) k226_27 (by decide) ?_
  refine aw_isub k226_28 ?_
  refine aw_icmp_gt 1866 k226_29 (by decide) (fun c_29 => ?_) (fun c_29 => ?_)
  · exact absurd c_29 hb
  · refine aw_aload_n k226_32 rfl ?_
    refine aw_iload k226_33 rfl ?_
    refine aw_sload k226_35 (sc_0 (by omega)) (hs.2 0 (by decide)) ?_
    try simp only [hM, ec0]
    refine aw_bipush (v := 63) k226_36 (by decide) ?_
    refine aw_iand k226_38 ?_
    rw [hc]
    refine aw_tableIn (t := 1791) (off := 1752) k226_39 (by decide) (by decide) (by decide) (by decide) ?_
    exact hG
theorem lh_37 {d i n LS : Nat} {M : mM} (hL : LS ≤ 2048) (hi : i ≤ 4000) (hM : M (16, 0, 0) 0 = nI LS) (he : ¬ LS < i + 4) (hs : Sc i M) (hc : M (15, 0, 0) i &&& 63 = 37) (h : LG d 1847 i n M) : LG d 23 i n M := by
  intro x5 x6 x7
  obtain ⟨M3, hG⟩ := h x5 x6 x7
  refine ⟨M3, ?_⟩
  have hb : ¬ (nI LS - 4 < nI i) := fun q => he ((lt4 hL hi).mp q)
  have ec0 : (nI i).toNatClampNeg = i := sc_c (by omega)
  refine aw_iload k226_23 rfl ?_
  refine aw_aload_n k226_25 rfl ?_
  refine aw_slen k226_26 ?_
  try simp only [hM, ec0]
  refine aw_iconst (v := 4) k226_27 (by decide) ?_
  refine aw_isub k226_28 ?_
  refine aw_icmp_gt 1866 k226_29 (by decide) (fun c_29 => ?_) (fun c_29 => ?_)
  · exact absurd c_29 hb
  · refine aw_aload_n k226_32 rfl ?_
    refine aw_iload k226_33 rfl ?_
    refine aw_sload k226_35 (sc_0 (by omega)) (hs.2 0 (by decide)) ?_
    try simp only [hM, ec0]
    refine aw_bipush (v := 63) k226_36 (by decide) ?_
    refine aw_iand k226_38 ?_
    rw [hc]
    refine aw_tableIn (t := 1847) (off := 1808) k226_39 (by decide) (by decide) (by decide) (by decide) ?_
    exact hG
theorem lh_out {d i n LS : Nat} {M : mM} (hL : LS ≤ 2048) (hi : i ≤ 4000) (hM : M (16, 0, 0) 0 = nI LS) (he : ¬ LS < i + 4) (hs : Sc i M) (hc : (M (15, 0, 0) i &&& 63).toInt < 0 ∨ 37 < (M (15, 0, 0) i &&& 63).toInt) (h : LG d 1860 i n M) : LG d 23 i n M := by
  intro x5 x6 x7
  obtain ⟨M3, hG⟩ := h x5 x6 x7
  refine ⟨M3, ?_⟩
  have hb : ¬ (nI LS - 4 < nI i) := fun q => he ((lt4 hL hi).mp q)
  have ec0 : (nI i).toNatClampNeg = i := sc_c (by omega)
  refine aw_iload k226_23 rfl ?_
  refine aw_aload_n k226_25 rfl ?_
  refine aw_slen k226_26 ?_
  try simp only [hM, ec0]
  refine aw_iconst (v := 4) k226_27 (by decide) ?_
  refine aw_isub k226_28 ?_
  refine aw_icmp_gt 1866 k226_29 (by decide) (fun c_29 => ?_) (fun c_29 => ?_)
  · exact absurd c_29 hb
  · refine aw_aload_n k226_32 rfl ?_
    refine aw_iload k226_33 rfl ?_
    refine aw_sload k226_35 (sc_0 (by omega)) (hs.2 0 (by decide)) ?_
    try simp only [hM, ec0]
    refine aw_bipush (v := 63) k226_36 (by decide) ?_
    refine aw_iand k226_38 ?_
    refine aw_tableOut (t := 1860) k226_39 hc (by decide) ?_
    exact hG
theorem lw_loop {d LS : Nat} (hL : LS ≤ 2048) : ∀ (m i : Nat) (M : mM), StW M → M (16, 0, 0) 0 = nI LS → LS ≤ i + 4 * m → i ≤ 2052 → LG d 23 i m M := by
  intro m
  induction m with
  | zero => intro i M hS hM hm hi; exact lh_end hL (by omega) hM (by omega)
  | succ m ih =>
    intro i M hS hM hm hi
    by_cases he : LS < i + 4
    · exact lh_end hL (by omega) hM he
    · have hs : Sc i M := ⟨by omega, fun j hj => by rw [hM]; exact nI_lt (by omega) (by omega)⟩
      have nx : ∀ M2, StW M2 → Wd M M2 → LG d 1860 i m M2 := fun M2 s2 w2 => lg_next (ih (i + 4) M2 s2 (by rw [w2.2]; exact hM) (by omega) (by omega))
      rcases sw38 (M (15, 0, 0) i &&& 63) with ⟨k, hk, hc⟩ | hc
      · have hk38 : k = 0 ∨ k = 1 ∨ k = 2 ∨ k = 3 ∨ k = 4 ∨ k = 5 ∨ k = 6 ∨ k = 7 ∨ k = 8 ∨ k = 9 ∨ k = 10 ∨ k = 11 ∨ k = 12 ∨ k = 13 ∨ k = 14 ∨ k = 15 ∨ k = 16 ∨ k = 17 ∨ k = 18 ∨ k = 19 ∨ k = 20 ∨ k = 21 ∨ k = 22 ∨ k = 23 ∨ k = 24 ∨ k = 25 ∨ k = 26 ∨ k = 27 ∨ k = 28 ∨ k = 29 ∨ k = 30 ∨ k = 31 ∨ k = 32 ∨ k = 33 ∨ k = 34 ∨ k = 35 ∨ k = 36 ∨ k = 37 := by omega
        rcases hk38 with rfl | rfl | rfl | rfl | rfl | rfl | rfl | rfl | rfl | rfl | rfl | rfl | rfl | rfl | rfl | rfl | rfl | rfl | rfl | rfl | rfl | rfl | rfl | rfl | rfl | rfl | rfl | rfl | rfl | rfl | rfl | rfl | rfl | rfl | rfl | rfl | rfl | rfl
        · exact lh_0 hL (by omega) hM he hs hc (lc_0 hS hs nx)
        · exact lh_1 hL (by omega) hM he hs hc (lc_1 hS hs nx)
        · exact lh_2 hL (by omega) hM he hs hc (lc_2 hS hs nx)
        · exact lh_3 hL (by omega) hM he hs hc (lc_3 hS hs nx)
        · exact lh_4 hL (by omega) hM he hs hc (lc_4 hS hs nx)
        · exact lh_5 hL (by omega) hM he hs hc (lc_5 hS hs nx)
        · exact lh_6 hL (by omega) hM he hs hc (lc_6 hS hs nx)
        · exact lh_7 hL (by omega) hM he hs hc (lc_7 hS hs nx)
        · exact lh_8 hL (by omega) hM he hs hc (lc_8 hS hs nx)
        · exact lh_9 hL (by omega) hM he hs hc (lc_9 hS hs nx)
        · exact lh_10 hL (by omega) hM he hs hc (lc_10 hS hs nx)
        · exact lh_11 hL (by omega) hM he hs hc (lc_11 hS hs nx)
        · exact lh_12 hL (by omega) hM he hs hc (lc_12 hS hs nx)
        · exact lh_13 hL (by omega) hM he hs hc (lc_13 hS hs nx)
        · exact lh_14 hL (by omega) hM he hs hc (lc_14 hS hs nx)
        · exact lh_15 hL (by omega) hM he hs hc (lc_15 hS hs nx)
        · exact lh_16 hL (by omega) hM he hs hc (lc_16 hS hs nx)
        · exact lh_17 hL (by omega) hM he hs hc (lc_17 hS hs nx)
        · exact lh_18 hL (by omega) hM he hs hc (lc_18 hS hs nx)
        · exact lh_19 hL (by omega) hM he hs hc (lc_19 hS hs nx)
        · exact lh_20 hL (by omega) hM he hs hc (lc_20 hS hs nx)
        · exact lh_21 hL (by omega) hM he hs hc (lc_21 hS hs nx)
        · exact lh_22 hL (by omega) hM he hs hc (lc_22 hS hs nx)
        · exact lh_23 hL (by omega) hM he hs hc (lc_23 hS hs nx)
        · exact lh_24 hL (by omega) hM he hs hc (lc_24 hS hs nx)
        · exact lh_25 hL (by omega) hM he hs hc (lc_25 hS hs nx)
        · exact lh_26 hL (by omega) hM he hs hc (lc_26 hS hs nx)
        · exact lh_27 hL (by omega) hM he hs hc (lc_27 hS hs nx)
        · exact lh_28 hL (by omega) hM he hs hc (lc_28 hS hs nx)
        · exact lh_29 hL (by omega) hM he hs hc (lc_29 hS hs nx)
        · exact lh_30 hL (by omega) hM he hs hc (lc_30 hS hs nx)
        · exact lh_31 hL (by omega) hM he hs hc (lc_31 hS hs nx)
        · exact lh_32 hL (by omega) hM he hs hc (lc_32 hS hs nx)
        · exact lh_33 hL (by omega) hM he hs hc (lc_33 hS hs nx)
        · exact lh_34 hL (by omega) hM he hs hc (lc_34 hS hs nx)
        · exact lh_35 hL (by omega) hM he hs hc (lc_35 hS hs nx)
        · exact lh_36 hL (by omega) hM he hs hc (lc_36 hS hs nx)
        · exact lh_37 hL (by omega) hM he hs hc (lc_37 hS hs nx)
      · intro x5 x6 x7
        obtain ⟨M3, hG⟩ := lh_out hL (by omega) hM he hs hc (nx M hS ⟨rfl, rfl⟩) x5 x6 x7
        exact ⟨M3, aw_mono (by omega) hG⟩
