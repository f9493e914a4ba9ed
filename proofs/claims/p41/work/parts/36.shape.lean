/-! SHAPES, AND A FIELD'S CORNERS -/
/-! THE MODEL: its row of numbers -/
theorem bI01 (b : Bool) : bI b = 0 ∨ bI b = 1 := by cases b; exact Or.inl rfl; exact Or.inr rfl
theorem tn0 : Int32.toNatClampNeg 0 = 0 := rfl
theorem tn37 : Int32.toNatClampNeg 37 = 37 := rfl
theorem tn38 : Int32.toNatClampNeg 38 = 38 := rfl
theorem tn39 : Int32.toNatClampNeg 39 = 39 := rfl
theorem nI_mul (a b : Nat) : nI a * nI b = nI (a * b) := by
  unfold nI
  rw [Int32.ofNat_mul]
theorem ix_c (i : Nat) : (40 : Int32) + 25 * nI i = nI (40 + 25 * i) := by rw [← nI_add, ← nI_mul]; rfl
theorem nI_sub1 {a : Nat} (h : 0 < a) : nI a - 1 = nI (a - 1) := by
  obtain ⟨z, rfl⟩ : ∃ z, a = z + 1 := ⟨a - 1, by omega⟩
  exact nI_pred z
theorem nI_2 (a : Nat) : nI a + 2 = nI (a + 2) := by rw [show (2 : Int32) = nI 2 from rfl, nI_add]
theorem fTake_0 {f : Nat → Int32} : fTake f 0 = f 0 - 1 := if_pos rfl
def ShF (f : Nat → Int32) : Prop := f 0 = nI (fN f) ∧ fN f ≤ 12 ∧ f 39 = nI (fC f) ∧ fC f ≤ 6 ∧ ∀ i, i < fC f → f (40 + 25 * i) = nI (bN f i) ∧ 3 ≤ bN f i ∧ bN f i ≤ 12
theorem RelS.sh {M : mM} {s : Nat} {f : Nat → Int32} (h : RelS M s f) : ShF f := ⟨h.n.1, h.n.2.1, h.c.1, h.c.2.1, fun i hi => ⟨(h.fd hi).1, (h.fd hi).2.2.1, (h.fd hi).2.1⟩⟩
/-! A CORNER of a field, on both sides -/
def hcF (f : Nat → Int32) (x y : Int32) : Prop := 0 ≤ y ∧ y < f (40 + 25 * x.toNatClampNeg)
theorem hc_at {f : Nat → Int32} {x y : Int32} (hS : ShF f) (hx : hasF f x = true) (hy : hcF f x y) : y = nI y.toNatClampNeg ∧ y.toNatClampNeg < bN f x.toNatClampNeg ∧ bN f x.toNatClampNeg ≤ 12 := by
  obtain ⟨ex, hlt⟩ := hasF_at hx hS.2.2.1 hS.2.2.2.1
  obtain ⟨h1, h2, h3⟩ := hS.2.2.2.2 _ hlt
  have e := nI_back hy.1
  refine ⟨e.symm, ?_, h3⟩
  have h4 := hy.2
  rw [h1, ← e] at h4
  exact nI_lt_of h4 (ha := by
    have h3 := y.toInt_lt
    have h2 : y.toNatClampNeg = y.toInt.toNat := rfl
    omega)
theorem s_A_fieldWithCorner {d : Nat} {M : mM} {f : Nat → Int32} {x y : Int32} (hR : RelS M 0 f) (hx : hasF f x = true) (hy : hcF f x y) : CT iA_fieldWithCorner (d + 7) [vR 5 0 0, vI x, vI y] M (.inl (some (vR 0 0 x.toNatClampNeg))) M 0 := by
  obtain ⟨ex, hlt⟩ := hasF_at hx hR.c.1 hR.c.2.1
  have hok6 : x.toNatClampNeg < 6 := by have := hR.c.2.1; omega
  have hfd := hR.fd hlt
  have hk := s_F_hasCorner (d := d + 6) (s := 0) (j := x.toNatClampNeg) (M := M) (x := y) (by decide) hok6
  rw [if_pos ⟨hy.1, by rw [hfd.2.2.2.1, ← hfd.1]; exact hy.2⟩] at hk
  refine ct_go hL_A_fieldWithCorner rfl ?_
  refine aw_aload_n k87_0 rfl ?_
  refine aw_iload_n k87_1 rfl ?_
  refine aw_callV1 k87_2 hC_A_fieldWithCorner ok_A_knownField sv_A_173 hH_A_knownField ⟨rfl, rfl⟩ (by decide) hN_A_knownField (by rw [hL_A_knownField]; exact Nat.le_of_ble_eq_true rfl) (Nat.le_of_ble_eq_true rfl) (s_A_knownField hR hx) ?_
  refine aw_astore_n k87_5 (Nat.le_of_ble_eq_true rfl) rfl ?_
  refine aw_aload_n k87_6 rfl ?_
  refine aw_iload_n k87_7 rfl ?_
  refine aw_callV1 k87_8 hC_A_fieldWithCorner ok_F_hasCorner sv_A_257 hH_F_hasCorner ⟨(by decide), hok6⟩ (by decide) hN_F_hasCorner (by rw [hL_F_hasCorner]; exact Nat.le_of_ble_eq_true rfl) (Nat.le_of_ble_eq_true rfl) hk ?_
  refine aw_if_ne 25 k87_11 (by decide) (fun c_11 => ?_) (fun c_11 => ?_)
  · refine aw_aload_n k87_25 rfl ?_
    refine aw_areturn k87_26 ⟨_, hR_A_fieldWithCorner⟩ ?_
    all_goals first | rfl | exact Or.inl rfl | exact Or.inr rfl | assumption | (simp_all; done) | ((repeat' split) <;> first | rfl | (simp only [Int32.lt_iff_toInt_lt, Int32.le_iff_toInt_le, Int64.lt_iff_toInt_lt, Int64.le_iff_toInt_le] at *; omega) | (simp_all; done))
  · exact absurd (show (1 : Int32) = 0 from c_11) (by decide)
theorem s_A_cornerEast {d : Nat} {M : mM} {f : Nat → Int32} {x y : Int32} (hR : RelS M 0 f) (hx : hasF f x = true) (hy : hcF f x y) : CT iA_cornerEast (d + 8) [vR 5 0 0, vI x, vI y] M (.inl (some (vI (fX f x.toNatClampNeg y.toNatClampNeg)))) M 0 := by
  obtain ⟨ex, hlt⟩ := hasF_at hx hR.c.1 hR.c.2.1
  have hok6 : x.toNatClampNeg < 6 := by have := hR.c.2.1; omega
  obtain ⟨ey, hy1, hy2⟩ := hc_at hR.sh hx hy
  have hk := s_F_eastAt (d := d + 6) (s := 0) (j := x.toNatClampNeg) (i := y.toNatClampNeg) (M := M) (by decide) hok6 (by omega)
  rw [← ey, rX hR hlt _ hy1] at hk
  refine ct_go hL_A_cornerEast rfl ?_
  refine aw_aload_n k68_0 rfl ?_
  refine aw_iload_n k68_1 rfl ?_
  refine aw_iload_n k68_2 rfl ?_
  refine aw_callV2 k68_3 hC_A_cornerEast ok_A_fieldWithCorner sv_A_182 hH_A_fieldWithCorner ⟨rfl, rfl⟩ (by decide) hN_A_fieldWithCorner (by rw [hL_A_fieldWithCorner]; exact Nat.le_of_ble_eq_true rfl) (Nat.le_of_ble_eq_true rfl) (s_A_fieldWithCorner hR hx hy) ?_
  refine aw_iload_n k68_6 rfl ?_
  refine aw_callV1 k68_7 hC_A_cornerEast ok_F_eastAt sv_A_186 hH_F_eastAt ⟨(by decide), hok6⟩ (by decide) hN_F_eastAt (by rw [hL_F_eastAt]; exact Nat.le_of_ble_eq_true rfl) (Nat.le_of_ble_eq_true rfl) hk ?_
  refine aw_ireturn k68_10 hR_A_cornerEast ?_ ?_
  all_goals first | rfl | exact Or.inl rfl | exact Or.inr rfl | assumption | (simp_all; done) | ((repeat' split) <;> first | rfl | (simp only [Int32.lt_iff_toInt_lt, Int32.le_iff_toInt_le, Int64.lt_iff_toInt_lt, Int64.le_iff_toInt_le] at *; omega) | (simp_all; done))
theorem s_A_cornerNorth {d : Nat} {M : mM} {f : Nat → Int32} {x y : Int32} (hR : RelS M 0 f) (hx : hasF f x = true) (hy : hcF f x y) : CT iA_cornerNorth (d + 8) [vR 5 0 0, vI x, vI y] M (.inl (some (vI (fY f x.toNatClampNeg y.toNatClampNeg)))) M 0 := by
  obtain ⟨ex, hlt⟩ := hasF_at hx hR.c.1 hR.c.2.1
  have hok6 : x.toNatClampNeg < 6 := by have := hR.c.2.1; omega
  obtain ⟨ey, hy1, hy2⟩ := hc_at hR.sh hx hy
  have hk := s_F_northAt (d := d + 6) (s := 0) (j := x.toNatClampNeg) (i := y.toNatClampNeg) (M := M) (by decide) hok6 (by omega)
  rw [← ey, rY hR hlt _ hy1] at hk
  refine ct_go hL_A_cornerNorth rfl ?_
  refine aw_aload_n k69_0 rfl ?_
  refine aw_iload_n k69_1 rfl ?_
  refine aw_iload_n k69_2 rfl ?_
  refine aw_callV2 k69_3 hC_A_cornerNorth ok_A_fieldWithCorner sv_A_182 hH_A_fieldWithCorner ⟨rfl, rfl⟩ (by decide) hN_A_fieldWithCorner (by rw [hL_A_fieldWithCorner]; exact Nat.le_of_ble_eq_true rfl) (Nat.le_of_ble_eq_true rfl) (s_A_fieldWithCorner hR hx hy) ?_
  refine aw_iload_n k69_6 rfl ?_
  refine aw_callV1 k69_7 hC_A_cornerNorth ok_F_northAt sv_A_189 hH_F_northAt ⟨(by decide), hok6⟩ (by decide) hN_F_northAt (by rw [hL_F_northAt]; exact Nat.le_of_ble_eq_true rfl) (Nat.le_of_ble_eq_true rfl) hk ?_
  refine aw_ireturn k69_10 hR_A_cornerNorth ?_ ?_
  all_goals first | rfl | exact Or.inl rfl | exact Or.inr rfl | assumption | (simp_all; done) | ((repeat' split) <;> first | rfl | (simp only [Int32.lt_iff_toInt_lt, Int32.le_iff_toInt_le, Int64.lt_iff_toInt_lt, Int64.le_iff_toInt_le] at *; omega) | (simp_all; done))
