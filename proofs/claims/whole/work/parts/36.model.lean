/-! THE MODEL: its row of numbers -/
theorem bI01 (b : Bool) : bI b = 0 ∨ bI b = 1 := by cases b; exact Or.inl rfl; exact Or.inr rfl
theorem tn0 : Int32.toNatClampNeg 0 = 0 := rfl
theorem tn37 : Int32.toNatClampNeg 37 = 37 := rfl
theorem tn38 : Int32.toNatClampNeg 38 = 38 := rfl
theorem tn39 : Int32.toNatClampNeg 39 = 39 := rfl
theorem nI_mul (a b : Nat) : nI a * nI b = nI (a * b) := by
  unfold nI
  rw [Int32.ofNat_mul]
theorem nI_mod : ∀ m < 13, 0 < m → ∀ k < 25, nI k - nI k / nI m * nI m = nI (k % m) := by decide +kernel
theorem ix_c (i : Nat) : (40 : Int32) + 25 * nI i = nI (40 + 25 * i) := by rw [← nI_add, ← nI_mul]; rfl
theorem ix_p (i k w : Nat) : (40 : Int32) + 25 * nI i + 1 + 2 * nI k + nI w = nI (41 + 25 * i + 2 * k + w) := by
  rw [ix_c, nI_1, show (2 : Int32) = nI 2 from rfl, nI_mul, nI_add, nI_add]
  exact congrArg nI (by omega)
theorem ix_b (k w : Nat) : (1 : Int32) + 3 * nI k + nI w = nI (1 + 3 * k + w) := by
  rw [show (1 : Int32) = nI 1 from rfl, show (3 : Int32) = nI 3 from rfl, nI_mul, nI_add, nI_add]
def ShF (f : Nat → Int32) : Prop := f 0 = nI (fN f) ∧ fN f ≤ 12 ∧ f 39 = nI (fC f) ∧ fC f ≤ 6 ∧ ∀ i, i < fC f → f (40 + 25 * i) = nI (bN f i) ∧ 3 ≤ bN f i ∧ bN f i ≤ 12
theorem RelS.sh {M : mM} {s : Nat} {f : Nat → Int32} (h : RelS M s f) : ShF f := ⟨h.n.1, h.n.2.1, h.c.1, h.c.2.1, fun i hi => ⟨(h.fd hi).1, (h.fd hi).2.2.1, (h.fd hi).2.1⟩⟩
theorem s_M_thrown {d : Nat} {M : mM} : CT iM_thrown d [vR 6 0 0] M (.inl (some (vI (M (6, 0, 0) 0)))) M 0 := by
  refine ct_go hL_M_thrown rfl ?_
  refine aw_aload_n k113_0 rfl ?_
  refine aw_getI k113_1 hC_M_thrown fs_M_25 (by decide) ⟨rfl, rfl⟩ rfl ?_
  refine aw_ireturn k113_4 hR_M_thrown ?_ ?_
  all_goals first | rfl | exact Or.inl rfl | exact Or.inr rfl | assumption | (simp_all; done) | ((repeat' split) <;> first | rfl | (simp only [Int32.lt_iff_toInt_lt, Int32.le_iff_toInt_le, Int64.lt_iff_toInt_lt, Int64.le_iff_toInt_le] at *; omega) | (simp_all; done))
theorem s_M_in {d : Nat} {M : mM} {v a b : Int32} : CT iM_in d [vI v, vI a, vI b] M (.inl (some (vI (bI (decide (a ≤ v) && decide (v ≤ b)))))) M 0 := by
  refine ct_go hL_M_in rfl ?_
  refine aw_iload_n k114_0 rfl ?_
  refine aw_iload_n k114_1 rfl ?_
  refine aw_icmp_lt 14 k114_2 (by decide) (fun c_2 => ?_) (fun c_2 => ?_)
  · refine aw_iconst (v := 0) k114_14 (by decide) ?_
    refine aw_zreturn k114_15 hR_M_in ?_ ?_ ?_
    · first | exact Or.inl rfl | exact Or.inr rfl
    · first | exact bI_t (and_t (decide_eq_true (Int32.not_lt.mp c_2)) (decide_eq_true (Int32.not_lt.mp c_7))) | exact bI_f (and_f2 (decide_eq_false (Int32.not_le.mpr c_7))) | exact bI_f (and_f1 (decide_eq_false (Int32.not_le.mpr c_2)))
    · rfl
  · refine aw_iload_n k114_5 rfl ?_
    refine aw_iload_n k114_6 rfl ?_
    refine aw_icmp_gt 14 k114_7 (by decide) (fun c_7 => ?_) (fun c_7 => ?_)
    · refine aw_iconst (v := 0) k114_14 (by decide) ?_
      refine aw_zreturn k114_15 hR_M_in ?_ ?_ ?_
      · first | exact Or.inl rfl | exact Or.inr rfl
      · first | exact bI_t (and_t (decide_eq_true (Int32.not_lt.mp c_2)) (decide_eq_true (Int32.not_lt.mp c_7))) | exact bI_f (and_f2 (decide_eq_false (Int32.not_le.mpr c_7))) | exact bI_f (and_f1 (decide_eq_false (Int32.not_le.mpr c_2)))
      · rfl
    · refine aw_iconst (v := 1) k114_10 (by decide) ?_
      refine aw_goto (t := 15) k114_11 (by decide) ?_
      refine aw_zreturn k114_15 hR_M_in ?_ ?_ ?_
      · first | exact Or.inl rfl | exact Or.inr rfl
      · first | exact bI_t (and_t (decide_eq_true (Int32.not_lt.mp c_2)) (decide_eq_true (Int32.not_lt.mp c_7))) | exact bI_f (and_f2 (decide_eq_false (Int32.not_le.mpr c_7))) | exact bI_f (and_f1 (decide_eq_false (Int32.not_le.mpr c_2)))
      · rfl
theorem in_t {d : Nat} {M : mM} {v a b : Int32} (h : a ≤ v ∧ v ≤ b) : CT iM_in d [vI v, vI a, vI b] M (.inl (some (vI 1))) M 0 := by
  have := s_M_in (d := d) (M := M) (v := v) (a := a) (b := b)
  rw [decide_eq_true h.1, decide_eq_true h.2] at this
  exact this
theorem in_f {d : Nat} {M : mM} {v a b : Int32} (h : ¬ (a ≤ v ∧ v ≤ b)) : CT iM_in d [vI v, vI a, vI b] M (.inl (some (vI 0))) M 0 := by
  have := s_M_in (d := d) (M := M) (v := v) (a := a) (b := b)
  by_cases g : a ≤ v
  · rw [decide_eq_true g, decide_eq_false (fun q => h ⟨g, q⟩)] at this
    exact this
  · rw [decide_eq_false g] at this
    exact this
theorem holds_t {d : Nat} {M : mM} : CT iM_holds d [vR 6 0 0, vI 0] M (.inl (some (vI 1))) (mUp M (6, 0, 0) 0 0) 0 := by
  refine ct_go hL_M_holds rfl ?_
  refine aw_aload_n k115_0 rfl ?_
  refine aw_iload_n k115_1 rfl ?_
  refine aw_putI k115_2 hC_M_holds fs_M_25 (by decide) ⟨rfl, rfl⟩ rfl po_6_0 ?_
  refine aw_iload_n k115_5 rfl ?_
  refine aw_if_ne 13 k115_6 (by decide) (fun c_6 => ?_) (fun c_6 => ?_)
  · exact absurd rfl c_6
  · refine aw_iconst (v := 1) k115_9 (by decide) ?_
    refine aw_goto (t := 14) k115_10 (by decide) ?_
    refine aw_zreturn k115_14 hR_M_holds ?_ ?_ ?_
    all_goals first | rfl | exact Or.inl rfl | exact Or.inr rfl | assumption | (simp_all; done) | ((repeat' split) <;> first | rfl | (simp only [Int32.lt_iff_toInt_lt, Int32.le_iff_toInt_le, Int64.lt_iff_toInt_lt, Int64.le_iff_toInt_le] at *; omega) | (simp_all; done))
theorem holds_f {d : Nat} {M : mM} {x : Int32} (h : ¬ x = 0) : CT iM_holds d [vR 6 0 0, vI x] M (.inl (some (vI 0))) (mUp M (6, 0, 0) 0 x) 0 := by
  refine ct_go hL_M_holds rfl ?_
  refine aw_aload_n k115_0 rfl ?_
  refine aw_iload_n k115_1 rfl ?_
  refine aw_putI k115_2 hC_M_holds fs_M_25 (by decide) ⟨rfl, rfl⟩ rfl po_6_0 ?_
  refine aw_iload_n k115_5 rfl ?_
  refine aw_if_ne 13 k115_6 (by decide) (fun c_6 => ?_) (fun c_6 => ?_)
  · refine aw_iconst (v := 0) k115_13 (by decide) ?_
    refine aw_zreturn k115_14 hR_M_holds ?_ ?_ ?_
    all_goals first | rfl | exact Or.inl rfl | exact Or.inr rfl | assumption | (simp_all; done) | ((repeat' split) <;> first | rfl | (simp only [Int32.lt_iff_toInt_lt, Int32.le_iff_toInt_le, Int64.lt_iff_toInt_lt, Int64.le_iff_toInt_le] at *; omega) | (simp_all; done))
  · exact absurd c_6 h
theorem hasF_in {f : Nat → Int32} {x : Int32} (hS : ShF f) : (decide (0 ≤ x) && decide (x ≤ f 39 - 1)) = hasF f x := by
  unfold hasF
  have e : decide (x ≤ f 39 - 1) = decide (x < f 39) := by
    rw [hS.2.2.1]
    have h6 := hS.2.2.2.1
    generalize fC f = c at h6
    refine decide_eq_decide.mpr ?_
    rw [Int32.le_iff_toInt_le, Int32.lt_iff_toInt_lt]
    have : (nI c - 1).toInt = (c : Int) - 1 := by
      obtain rfl | rfl | rfl | rfl | rfl | rfl | rfl : c = 0 ∨ c = 1 ∨ c = 2 ∨ c = 3 ∨ c = 4 ∨ c = 5 ∨ c = 6 := by omega
      all_goals decide
    rw [this, nI_toInt (by omega)]
    omega
  rw [e]
theorem s_M_isField {d : Nat} {M : mM} {x : Int32} (hS : ShF (M (13, 0, 0))) : CT iM_isField (d + 1) [vR 6 0 0, vI x] M (.inl (some (vI (bI (hasF (M (13, 0, 0)) x))))) M 0 := by
  rw [← hasF_in hS]
  refine ct_go hL_M_isField rfl ?_
  refine aw_iload_n k116_0 rfl ?_
  refine aw_iconst (v := 0) k116_1 (by decide) ?_
  refine aw_aload_n k116_2 rfl ?_
  refine aw_getR k116_3 hC_M_isField fs_M_7 (by decide) ⟨rfl, rfl⟩ rfl ?_
  try simp only [tn39]
  refine aw_bipush (v := 39) k116_6 (by decide) ?_
  refine aw_iaload k116_8 (by first | exact ⟨rfl, rfl⟩ | exact ⟨by assumption, rfl⟩ | exact ⟨by assumption, by assumption⟩ | exact ⟨rfl, by decide⟩ | exact ⟨by assumption, by decide⟩ | exact ⟨by decide, rfl⟩ | exact ⟨by decide, by decide⟩ | exact ⟨by decide, by assumption⟩ | assumption) (by first | rfl | assumption) (by first | rfl | assumption) (vp_in_nI (n := 39) (by decide) (by decide)) ?_
  try simp only [tn39]
  refine aw_iconst (v := 1) k116_9 (by decide) ?_
  refine aw_isub k116_10 ?_
  refine aw_callS3 k116_11 hC_M_isField ok_M_in ss_M_29 hH_M_in (by rw [hL_M_in]; exact Nat.le_of_ble_eq_true rfl) (Nat.le_of_ble_eq_true rfl) s_M_in ?_
  refine aw_zreturn k116_14 hR_M_isField ?_ ?_ ?_
  · exact bI01 _
  · rfl
  · rfl
theorem s_M_corners {d i : Nat} {M : mM} (hi : i < 6) : CT iM_corners d [vR 6 0 0, vI (nI i)] M (.inl (some (vI (M (13, 0, 0) (40 + 25 * i))))) M 0 := by
  have hc : (nI (40 + 25 * i)).toNatClampNeg = 40 + 25 * i := nI_clamp (by omega)
  have hin : vp_in (nI (40 + 25 * i)) 190 := vp_in_nI (by omega) (by decide)
  refine ct_go hL_M_corners rfl ?_
  refine aw_aload_n k117_0 rfl ?_
  refine aw_getR k117_1 hC_M_corners fs_M_7 (by decide) ⟨rfl, rfl⟩ rfl ?_
  try simp only [hc]
  refine aw_bipush (v := 40) k117_4 (by decide) ?_
  refine aw_bipush (v := 25) k117_6 (by decide) ?_
  refine aw_iload_n k117_8 rfl ?_
  refine aw_imul k117_9 ?_
  refine aw_iadd k117_10 ?_
  rw [ix_c]
  refine aw_iaload k117_11 (by first | exact ⟨rfl, rfl⟩ | exact ⟨by assumption, rfl⟩ | exact ⟨by assumption, by assumption⟩ | exact ⟨rfl, by decide⟩ | exact ⟨by assumption, by decide⟩ | exact ⟨by decide, rfl⟩ | exact ⟨by decide, by decide⟩ | exact ⟨by decide, by assumption⟩ | assumption) (by first | rfl | assumption) (by first | rfl | assumption) hin ?_
  try simp only [hc]
  refine aw_ireturn k117_12 hR_M_corners ?_ ?_
  all_goals first | rfl | exact Or.inl rfl | exact Or.inr rfl | assumption | (simp_all; done) | ((repeat' split) <;> first | rfl | (simp only [Int32.lt_iff_toInt_lt, Int32.le_iff_toInt_le, Int64.lt_iff_toInt_lt, Int64.le_iff_toInt_le] at *; omega) | (simp_all; done))
/-- a part of a corner: 0 east, 1 north -/
def cW (f : Nat → Int32) (i w k : Nat) : Int32 := f (41 + 25 * i + 2 * k + w)
theorem cW0 {f : Nat → Int32} {i : Nat} : cW f i 0 = fX f i := by
  funext k
  unfold cW fX bX blk
  exact congrArg f (by omega)
theorem cW1 {f : Nat → Int32} {i : Nat} : cW f i 1 = fY f i := by
  funext k
  unfold cW fY bY blk
  exact congrArg f (by omega)
theorem s_M_part {d i k w m : Nat} {M : mM} (hi : i < 6) (hm : M (13, 0, 0) (40 + 25 * i) = nI m) (h0 : 0 < m) (h12 : m ≤ 12) (hk : k < 25) (hw : w < 2) : CT iM_part (d + 1) [vR 6 0 0, vI (nI i), vI (nI k), vI (nI w)] M (.inl (some (vI (cW (M (13, 0, 0)) i w (k % m))))) M 0 := by
  have hkm : k % m < m := Nat.mod_lt _ h0
  have hc : (nI (41 + 25 * i + 2 * (k % m) + w)).toNatClampNeg = 41 + 25 * i + 2 * (k % m) + w := nI_clamp (by omega)
  have hin : vp_in (nI (41 + 25 * i + 2 * (k % m) + w)) 190 := vp_in_nI (by omega) (by decide)
  have hne : ¬ nI m = 0 := fun e => absurd (nI_eq_of (b := 0) e) (by omega)
  refine ct_go hL_M_part rfl ?_
  refine aw_iload_n k119_0 rfl ?_
  refine aw_aload_n k119_1 rfl ?_
  refine aw_iload_n k119_2 rfl ?_
  refine aw_callV1 k119_3 hC_M_part ok_M_corners sv_M_37 hH_M_corners ⟨rfl, rfl⟩ (by decide) hN_M_corners (by rw [hL_M_corners]; exact Nat.le_of_ble_eq_true rfl) (Nat.le_of_ble_eq_true rfl) (s_M_corners hi) ?_
  rw [hm]
  refine aw_irem k119_6 hne ?_
  rw [nI_mod m (by omega) h0 k hk]
  refine aw_istore k119_7 (Nat.le_of_ble_eq_true rfl) rfl ?_
  refine aw_aload_n k119_9 rfl ?_
  refine aw_getR k119_10 hC_M_part fs_M_7 (by decide) ⟨rfl, rfl⟩ rfl ?_
  try simp only [hc]
  refine aw_bipush (v := 40) k119_13 (by decide) ?_
  refine aw_bipush (v := 25) k119_15 (by decide) ?_
  refine aw_iload_n k119_17 rfl ?_
  refine aw_imul k119_18 ?_
  refine aw_iadd k119_19 ?_
  refine aw_iconst (v := 1) k119_20 (by decide) ?_
  refine aw_iadd k119_21 ?_
  refine aw_iconst (v := 2) k119_22 (by decide) ?_
  refine aw_iload k119_23 rfl ?_
  refine aw_imul k119_25 ?_
  refine aw_iadd k119_26 ?_
  refine aw_iload_n k119_27 rfl ?_
  refine aw_iadd k119_28 ?_
  rw [ix_p]
  refine aw_iaload k119_29 (by first | exact ⟨rfl, rfl⟩ | exact ⟨by assumption, rfl⟩ | exact ⟨by assumption, by assumption⟩ | exact ⟨rfl, by decide⟩ | exact ⟨by assumption, by decide⟩ | exact ⟨by decide, rfl⟩ | exact ⟨by decide, by decide⟩ | exact ⟨by decide, by assumption⟩ | assumption) (by first | rfl | assumption) (by first | rfl | assumption) hin ?_
  try simp only [hc]
  refine aw_ireturn k119_30 hR_M_part ?_ ?_
  all_goals first | rfl | exact Or.inl rfl | exact Or.inr rfl | assumption | (simp_all; done) | ((repeat' split) <;> first | rfl | (simp only [Int32.lt_iff_toInt_lt, Int32.le_iff_toInt_le, Int64.lt_iff_toInt_lt, Int64.le_iff_toInt_le] at *; omega) | (simp_all; done))
theorem s_M_change {d i k w m : Nat} {M : mM} (hi : i < 6) (hm : M (13, 0, 0) (40 + 25 * i) = nI m) (h0 : 0 < m) (h12 : m ≤ 12) (hk : k < 24) (hw : w < 2) : CT iM_change (d + 2) [vR 6 0 0, vI (nI i), vI (nI k), vI (nI w)] M (.inl (some (vL ((cW (M (13, 0, 0)) i w ((k + 1) % m)).toInt64 - (cW (M (13, 0, 0)) i w (k % m)).toInt64)))) M 0 := by
  refine ct_go hL_M_change rfl ?_
  refine aw_aload_n k129_0 rfl ?_
  refine aw_iload_n k129_1 rfl ?_
  refine aw_iload_n k129_2 rfl ?_
  refine aw_iconst (v := 1) k129_3 (by decide) ?_
  refine aw_iadd k129_4 ?_
  rw [nI_1]
  refine aw_iload_n k129_5 rfl ?_
  refine aw_callV3 k129_6 hC_M_change ok_M_part sv_M_61 hH_M_part ⟨rfl, rfl⟩ (by decide) hN_M_part (by rw [hL_M_part]; exact Nat.le_of_ble_eq_true rfl) (Nat.le_of_ble_eq_true rfl) (s_M_part hi hm h0 h12 (by omega) hw) ?_
  refine aw_i2l k129_9 ?_
  refine aw_aload_n k129_10 rfl ?_
  refine aw_iload_n k129_11 rfl ?_
  refine aw_iload_n k129_12 rfl ?_
  refine aw_iload_n k129_13 rfl ?_
  refine aw_callV3 k129_14 hC_M_change ok_M_part sv_M_61 hH_M_part ⟨rfl, rfl⟩ (by decide) hN_M_part (by rw [hL_M_part]; exact Nat.le_of_ble_eq_true rfl) (Nat.le_of_ble_eq_true rfl) (s_M_part hi hm h0 h12 (by omega) hw) ?_
  refine aw_i2l k129_17 ?_
  refine aw_lsub k129_18 ?_
  refine aw_lreturn k129_19 hR_M_change ?_ ?_
  all_goals first | rfl | exact Or.inl rfl | exact Or.inr rfl | assumption | (simp_all; done) | ((repeat' split) <;> first | rfl | (simp only [Int32.lt_iff_toInt_lt, Int32.le_iff_toInt_le, Int64.lt_iff_toInt_lt, Int64.le_iff_toInt_le] at *; omega) | (simp_all; done))
theorem nx_mod {m k : Nat} (hk : k < m) : (k + 1) % m = nx m k := by
  unfold nx
  split
  · exact Nat.mod_eq_of_lt (by assumption)
  · have : k + 1 = m := by omega
    rw [this, Nat.mod_self]
theorem pv_mod {m k : Nat} (hk : k < m) : (k + m - 1) % m = pv m k := by
  unfold pv
  split
  · have : k + m - 1 = (k - 1) + m := by omega
    rw [this, Nat.add_mod_right]
    exact Nat.mod_eq_of_lt (by omega)
  · have : k + m - 1 = m - 1 := by omega
    rw [this]
    exact Nat.mod_eq_of_lt (by omega)
theorem nx_pv {m k : Nat} (hk : k < m) : nx m (pv m k) = k := by
  unfold nx pv
  split <;> split <;> omega
/-- a field of the model's row -/
def FM (f : Nat → Int32) (i m : Nat) : Prop := i < 6 ∧ f (40 + 25 * i) = nI m ∧ 0 < m ∧ m ≤ 12
theorem ShF.fm {f : Nat → Int32} {i : Nat} (h : ShF f) (hi : i < fC f) : FM f i (bN f i) := ⟨by have := h.2.2.2.1; omega, (h.2.2.2.2 i hi).1, by have := (h.2.2.2.2 i hi).2.1; omega, (h.2.2.2.2 i hi).2.2⟩
theorem p_at {d i k w m : Nat} {M : mM} (h : FM (M (13, 0, 0)) i m) (hk : k < m) (hw : w < 2) : CT iM_part (d + 1) [vR 6 0 0, vI (nI i), vI (nI k), vI (nI w)] M (.inl (some (vI (cW (M (13, 0, 0)) i w k)))) M 0 := by
  have := s_M_part (d := d) h.1 h.2.1 h.2.2.1 h.2.2.2 (k := k) (by have := h.2.2.2; omega) hw
  rw [Nat.mod_eq_of_lt hk] at this
  exact this
theorem p_nx {d i k w m : Nat} {M : mM} (h : FM (M (13, 0, 0)) i m) (hk : k < m) (hw : w < 2) : CT iM_part (d + 1) [vR 6 0 0, vI (nI i), vI (nI (k + 1)), vI (nI w)] M (.inl (some (vI (cW (M (13, 0, 0)) i w (nx m k))))) M 0 := by
  have := s_M_part (d := d) h.1 h.2.1 h.2.2.1 h.2.2.2 (k := k + 1) (by have := h.2.2.2; omega) hw
  rw [nx_mod hk] at this
  exact this
theorem c_at {d i k w m : Nat} {M : mM} (h : FM (M (13, 0, 0)) i m) (hk : k < m) (hw : w < 2) : CT iM_change (d + 2) [vR 6 0 0, vI (nI i), vI (nI k), vI (nI w)] M (.inl (some (vL (dX (cW (M (13, 0, 0)) i w) m k)))) M 0 := by
  have := s_M_change (d := d) h.1 h.2.1 h.2.2.1 h.2.2.2 (k := k) (by have := h.2.2.2; omega) hw
  rw [Nat.mod_eq_of_lt hk, nx_mod hk] at this
  exact this
theorem c_pv {d i k w m : Nat} {M : mM} (h : FM (M (13, 0, 0)) i m) (hk : k < m) (hw : w < 2) : CT iM_change (d + 2) [vR 6 0 0, vI (nI i), vI (nI (k + m - 1)), vI (nI w)] M (.inl (some (vL (dX (cW (M (13, 0, 0)) i w) m (pv m k))))) M 0 := by
  have := s_M_change (d := d) h.1 h.2.1 h.2.2.1 h.2.2.2 (k := k + m - 1) (by have := h.2.2.2; omega) hw
  rw [pv_mod hk, show k + m - 1 + 1 = k + m by omega, Nat.add_mod_right, Nat.mod_eq_of_lt hk] at this
  unfold dX
  rw [nx_pv hk]
  exact this
theorem s_M_sizeOf {d : Nat} {M : mM} {x : Int64} : CT iM_sizeOf d [vL x] M (.inl (some (vL (labs x)))) M 0 := by
  refine ct_go hL_M_sizeOf rfl ?_
  unfold labs
  refine aw_lload_n k123_0 rfl ?_
  refine aw_lconst (v := 0) k123_1 (by decide) ?_
  refine aw_lcmp_ge 11 k123_2 k123_3 (by decide) (fun c_2 => ?_) (fun c_2 => ?_)
  · refine aw_lload_n k123_11 rfl ?_
    refine aw_lreturn k123_12 hR_M_sizeOf ?_ ?_
    all_goals first | rfl | exact Or.inl rfl | exact Or.inr rfl | assumption | (simp_all; done) | ((repeat' split) <;> first | rfl | (simp only [Int32.lt_iff_toInt_lt, Int32.le_iff_toInt_le, Int64.lt_iff_toInt_lt, Int64.le_iff_toInt_le] at *; omega) | (simp_all; done))
  · refine aw_lload_n k123_6 rfl ?_
    refine aw_lneg k123_7 ?_
    refine aw_goto (t := 12) k123_8 (by decide) ?_
    refine aw_lreturn k123_12 hR_M_sizeOf ?_ ?_
    all_goals first | rfl | exact Or.inl rfl | exact Or.inr rfl | assumption | (simp_all; done) | ((repeat' split) <;> first | rfl | (simp only [Int32.lt_iff_toInt_lt, Int32.le_iff_toInt_le, Int64.lt_iff_toInt_lt, Int64.le_iff_toInt_le] at *; omega) | (simp_all; done))
/-! twice the area -/
def dtw (X Y : Nat → Int32) (m k : Nat) : Int64 := ((X k).toInt64 - (X 0).toInt64) * dX Y m k - ((Y k).toInt64 - (Y 0).toInt64) * dX X m k
theorem tw_ring (a b c d x0 y0 D C E F : Int64) (h : D = C - x0 * (b - y0) + y0 * (a - x0)) : D + ((a - x0) * (d - b) - (b - y0) * (c - a)) = (C + (a * d - b * c)) - x0 * (d - y0) + y0 * (c - x0) := by
  subst h
  grind
