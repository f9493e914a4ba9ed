/-! THE MODEL: what it holds -/
def MR (M : mM) (f : Nat → Int32) (hs : List (Nat → Int32)) (sn : Option (Nat → Int32)) (t : Nat → Int32) (L : Nat) : Prop :=
  M (13, 0, 0) = f ∧ (M (6, 0, 0) 6 = nI hs.length ∧ hs.length ≤ 4 ∧ ∀ i g, hs[i]? = some g → ∀ k, k < 190 → M (13, 0, 3) (190 * (hs.length - 1 - i) + k) = g k) ∧
  (M (6, 0, 0) 4 = (if sn.isSome = true then 1 else 0) ∧ ∀ g, sn = some g → ∀ k, k < 190 → M (13, 0, 2) k = g k) ∧ L ≤ 80 ∧ M (6, 0, 0) 8 = nI L ∧ ∀ j, j < L → M (13, 0, 4) j = t j
/-- the component has not changed -/
def MFr (M M' : mM) : Prop := ∀ r : mRef, r.1 ≠ 6 → r.1 ≠ 13 → M' r = M r
theorem MFr.rf {M : mM} : MFr M M := fun _ _ _ => rfl
theorem MFr.tr {M M1 M2 : mM} (h1 : MFr M M1) (h2 : MFr M1 M2) : MFr M M2 := fun r a b => (h2 r a b).trans (h1 r a b)
theorem MFr.u6 {M : mM} {k : Nat} {v : Int32} : MFr M (mUp M (6, 0, 0) k v) := fun r a b => mUp_ne (fun q => by subst q; exact a rfl)
theorem MFr.s {M : mM} {g : Nat → Int32} : MFr M (mS M g) := fun r a b => mS_ne (fun q => by subst q; exact b rfl)
theorem MR.thr {M : mM} {f t : Nat → Int32} {hs : List (Nat → Int32)} {sn : Option (Nat → Int32)} {L : Nat} {x : Int32} (h : MR M f hs sn t L) : MR (mUp M (6, 0, 0) 0 x) f hs sn t L := by
  obtain ⟨h1, ⟨a1, a2, a3⟩, ⟨b1, b2⟩, c1, c2, c3⟩ := h
  have e : ∀ j, mUp M (6, 0, 0) 0 x (13, 0, j) = M (13, 0, j) := fun j => mUp_ne (by simp)
  refine ⟨by rw [e]; exact h1, ⟨by rw [← a1]; simp [mUp_at], a2, by simp only [e]; exact a3⟩, ⟨by rw [← b1]; simp [mUp_at], by simp only [e]; exact b2⟩, c1, by rw [← c2]; simp [mUp_at], by simp only [e]; exact c3⟩
theorem MR.set {M : mM} {f g t : Nat → Int32} {hs : List (Nat → Int32)} {sn : Option (Nat → Int32)} {L : Nat} (h : MR M f hs sn t L) : MR (mS M g) g hs sn t L := by
  obtain ⟨h1, ⟨a1, a2, a3⟩, ⟨b1, b2⟩, c1, c2, c3⟩ := h
  have e : ∀ j, j ≠ 0 → mS M g (13, 0, j) = M (13, 0, j) := fun j hj => mS_ne (by simp [hj])
  have e6 : mS M g (6, 0, 0) = M (6, 0, 0) := mS_ne (by simp)
  refine ⟨mS_at, ⟨by rw [e6]; exact a1, a2, by rw [e 3 (by decide)]; exact a3⟩, ⟨by rw [e6]; exact b1, by rw [e 2 (by decide)]; exact b2⟩, c1, by rw [e6]; exact c2, by rw [e 4 (by decide)]; exact c3⟩
theorem mS_of {M : mM} {f : Nat → Int32} (h : M (13, 0, 0) = f) : mS M f = M := by rw [← h]; exact mS_self
theorem m_rec {d L : Nat} {M : mM} {f t : Nat → Int32} {hs : List (Nat → Int32)} {sn : Option (Nat → Int32)} (h : MR M f hs sn t L) : ∃ M', CT iM_records d [vR 6 0 0] M (.inl none) M' 0 ∧ MR M' f ((f :: hs).take 4) sn t L ∧ MFr M M' ∧ M' (6, 0, 0) 0 = M (6, 0, 0) 0 := by
  obtain ⟨h1, ⟨a1, a2, a3⟩, ⟨b1, b2⟩, c1, c2, c3⟩ := h
  have hlen : ((f :: hs).take 4).length = min (hs.length + 1) 4 := by simp; omega
  have e : ∀ R v j, j ≠ 3 → mRC M R v (13, 0, j) = M (13, 0, j) := fun R v j hj => by unfold mRC; rw [mUp_ne (by simp), mW_ne (by simp [hj])]
  have e6 : ∀ R v k, k ≠ 6 → mRC M R v (6, 0, 0) k = M (6, 0, 0) k := fun R v k hk => by
    unfold mRC mUp
    rw [if_neg (fun q => hk q.2), mW_ne (by simp)]
  refine ⟨_, s_M_records a1 a2, ⟨by rw [e _ _ 0 (by decide)]; exact h1, ⟨by rw [mRC_6, hlen], by omega, fun i g hg k hk => ?_⟩, ⟨by rw [e6 _ _ 4 (by decide)]; exact b1, by rw [e _ _ 2 (by decide)]; exact b2⟩, c1, by rw [e6 _ _ 8 (by decide)]; exact c2, by rw [e _ _ 4 (by decide)]; exact c3⟩, fun r p q => ?_, e6 _ _ 0 (by decide)⟩
  · have hi4 : i < 4 := by
      have := (List.getElem?_eq_some_iff.mp hg).1
      omega
    rw [List.getElem?_take_of_lt hi4] at hg
    rw [mRC_r, hlen, h1]
    by_cases h4 : hs.length < 4
    · rw [show rcF f (M (13, 0, 3)) hs.length = rcA f (M (13, 0, 3)) hs.length 190 from if_pos h4]
      unfold rcA
      cases i with
      | zero =>
        simp at hg
        rw [if_pos (by omega), ← hg]
        exact congrArg f (by omega)
      | succ i =>
        simp at hg
        have hi := (List.getElem?_eq_some_iff.mp hg).1
        rw [if_neg (by omega), ← a3 i g hg k hk]
        exact congrArg _ (by omega)
    · rw [show rcF f (M (13, 0, 3)) hs.length = rcA f (rcS (M (13, 0, 3)) 570) 3 190 from if_neg h4]
      unfold rcA rcS
      cases i with
      | zero =>
        simp at hg
        rw [if_pos (by omega), ← hg]
        exact congrArg f (by omega)
      | succ i =>
        simp at hg
        rw [if_neg (by omega), if_pos (by omega), ← a3 i g hg k hk]
        exact congrArg _ (by omega)
  · unfold mRC
    rw [mUp_ne (fun s => by subst s; exact p rfl), mW_ne (fun s => by subst s; exact q rfl)]
def cpR (f A : Nat → Int32) (k : Nat) : Nat → Int32 := fun j => if j < k then f j else A j
theorem cpR_up {f A : Nat → Int32} {k : Nat} : up (cpR f A k) k (f k) = cpR f A (k + 1) := by
  funext j
  unfold up cpR
  by_cases e : j = k
  · rw [if_pos e, if_pos (by omega), e]
  · rw [if_neg e]
    by_cases e2 : j < k
    · rw [if_pos e2, if_pos (by omega)]
    · rw [if_neg e2, if_neg (by omega)]
theorem cpR_0 {f A : Nat → Int32} : cpR f A 0 = A := by
  funext j
  unfold cpR
  rw [if_neg (by omega)]
theorem s_M_putAside {d : Nat} {M : mM} : CT iM_putAside d [vR 6 0 0] M (.inl none) (mW M (13, 0, 1) (cpR (M (13, 0, 0)) (M (13, 0, 1)) 190)) 0 := by
  have loop : ∀ (l k : Nat), k + l = 190 → AW iM_putAside d 2 [some (vR 6 0 0), some (vI (nI k))] [] (mW M (13, 0, 1) (cpR (M (13, 0, 0)) (M (13, 0, 1)) k)) (.inl none) (mW M (13, 0, 1) (cpR (M (13, 0, 0)) (M (13, 0, 1)) 190)) 0 := by
    intro l
    induction l with
    | zero =>
      intro k hk
      obtain rfl : k = 190 := by omega
      refine aw_iload_n k121_2 rfl ?_
      refine aw_sipush (v := 190) k121_3 (by decide) ?_
      refine aw_icmp_ge 27 k121_6 (by decide) (fun c_6 => ?_) (fun c_6 => ?_)
      · refine aw_return k121_27 hR_M_putAside ?_
        all_goals first | rfl | exact Or.inl rfl | exact Or.inr rfl | assumption | (simp_all; done) | ((repeat' split) <;> first | rfl | (simp only [Int32.lt_iff_toInt_lt, Int32.le_iff_toInt_le, Int64.lt_iff_toInt_lt, Int64.le_iff_toInt_le] at *; omega) | (simp_all; done))
      · exact absurd (Int32.le_refl _) c_6
    | succ l ih =>
      intro k hk
      have k2 : (nI k).toNatClampNeg = k := nI_clamp (by omega)
      have i2 : vp_in (nI k) 190 := vp_in_nI (by omega) (by decide)
      have e : ∀ g, mW M (13, 0, 1) g (13, 0, 0) = M (13, 0, 0) := fun g => mW_ne (by simp)
      refine aw_iload_n k121_2 rfl ?_
      refine aw_sipush (v := 190) k121_3 (by decide) ?_
      refine aw_icmp_ge 27 k121_6 (by decide) (fun c_6 => ?_) (fun c_6 => ?_)
      · exact absurd (nI_le_of (a := 190) c_6) (by omega)
      · refine aw_aload_n k121_9 rfl ?_
        refine aw_getR k121_10 hC_M_putAside fs_M_13 (by decide) ⟨rfl, rfl⟩ rfl ?_
        try simp only [e, mW_up, k2, cpR_up]
        refine aw_iload_n k121_13 rfl ?_
        refine aw_aload_n k121_14 rfl ?_
        refine aw_getR k121_15 hC_M_putAside fs_M_7 (by decide) ⟨rfl, rfl⟩ rfl ?_
        try simp only [e, mW_up, k2, cpR_up]
        refine aw_iload_n k121_18 rfl ?_
        refine aw_iaload k121_19 (by first | exact ⟨rfl, rfl⟩ | exact ⟨by assumption, rfl⟩ | exact ⟨by assumption, by assumption⟩ | exact ⟨rfl, by decide⟩ | exact ⟨by assumption, by decide⟩ | exact ⟨by decide, rfl⟩ | exact ⟨by decide, by decide⟩ | exact ⟨by decide, by assumption⟩ | assumption) (by first | rfl | assumption) (by first | rfl | assumption) i2 ?_
        try simp only [e, mW_up, k2, cpR_up]
        refine aw_iastore k121_20 (by first | exact ⟨rfl, rfl⟩ | exact ⟨by assumption, rfl⟩ | exact ⟨by assumption, by assumption⟩ | exact ⟨rfl, by decide⟩ | exact ⟨by assumption, by decide⟩ | exact ⟨by decide, rfl⟩ | exact ⟨by decide, by decide⟩ | exact ⟨by decide, by assumption⟩ | assumption) (by first | rfl | assumption) (by first | rfl | assumption) i2 ?_
        try simp only [e, mW_up, k2, cpR_up]
        refine aw_iinc (y := 1) k121_21 rfl (by decide) rfl ?_
        try simp only [e, mW_up, k2, cpR_up]
        rw [nI_1 k]
        refine aw_goto (t := 2) k121_24 (by decide) ?_
        exact ih (k + 1) (by omega)
  have := loop 190 0 (by omega)
  rw [cpR_0, mW_self] at this
  refine ct_go hL_M_putAside rfl ?_
  refine aw_iconst (v := 0) k121_0 (by decide) ?_
  refine aw_istore_n k121_1 (Nat.le_of_ble_eq_true rfl) rfl ?_
  exact this
theorem s_M_putBack {d : Nat} {M : mM} : CT iM_putBack d [vR 6 0 0] M (.inl none) (mW M (13, 0, 0) (cpR (M (13, 0, 1)) (M (13, 0, 0)) 190)) 0 := by
  have loop : ∀ (l k : Nat), k + l = 190 → AW iM_putBack d 2 [some (vR 6 0 0), some (vI (nI k))] [] (mW M (13, 0, 0) (cpR (M (13, 0, 1)) (M (13, 0, 0)) k)) (.inl none) (mW M (13, 0, 0) (cpR (M (13, 0, 1)) (M (13, 0, 0)) 190)) 0 := by
    intro l
    induction l with
    | zero =>
      intro k hk
      obtain rfl : k = 190 := by omega
      refine aw_iload_n k122_2 rfl ?_
      refine aw_sipush (v := 190) k122_3 (by decide) ?_
      refine aw_icmp_ge 27 k122_6 (by decide) (fun c_6 => ?_) (fun c_6 => ?_)
      · refine aw_return k122_27 hR_M_putBack ?_
        all_goals first | rfl | exact Or.inl rfl | exact Or.inr rfl | assumption | (simp_all; done) | ((repeat' split) <;> first | rfl | (simp only [Int32.lt_iff_toInt_lt, Int32.le_iff_toInt_le, Int64.lt_iff_toInt_lt, Int64.le_iff_toInt_le] at *; omega) | (simp_all; done))
      · exact absurd (Int32.le_refl _) c_6
    | succ l ih =>
      intro k hk
      have k2 : (nI k).toNatClampNeg = k := nI_clamp (by omega)
      have i2 : vp_in (nI k) 190 := vp_in_nI (by omega) (by decide)
      have e : ∀ g, mW M (13, 0, 0) g (13, 0, 1) = M (13, 0, 1) := fun g => mW_ne (by simp)
      refine aw_iload_n k122_2 rfl ?_
      refine aw_sipush (v := 190) k122_3 (by decide) ?_
      refine aw_icmp_ge 27 k122_6 (by decide) (fun c_6 => ?_) (fun c_6 => ?_)
      · exact absurd (nI_le_of (a := 190) c_6) (by omega)
      · refine aw_aload_n k122_9 rfl ?_
        refine aw_getR k122_10 hC_M_putBack fs_M_7 (by decide) ⟨rfl, rfl⟩ rfl ?_
        try simp only [e, mW_up, k2, cpR_up]
        refine aw_iload_n k122_13 rfl ?_
        refine aw_aload_n k122_14 rfl ?_
        refine aw_getR k122_15 hC_M_putBack fs_M_13 (by decide) ⟨rfl, rfl⟩ rfl ?_
        try simp only [e, mW_up, k2, cpR_up]
        refine aw_iload_n k122_18 rfl ?_
        refine aw_iaload k122_19 (by first | exact ⟨rfl, rfl⟩ | exact ⟨by assumption, rfl⟩ | exact ⟨by assumption, by assumption⟩ | exact ⟨rfl, by decide⟩ | exact ⟨by assumption, by decide⟩ | exact ⟨by decide, rfl⟩ | exact ⟨by decide, by decide⟩ | exact ⟨by decide, by assumption⟩ | assumption) (by first | rfl | assumption) (by first | rfl | assumption) i2 ?_
        try simp only [e, mW_up, k2, cpR_up]
        refine aw_iastore k122_20 (by first | exact ⟨rfl, rfl⟩ | exact ⟨by assumption, rfl⟩ | exact ⟨by assumption, by assumption⟩ | exact ⟨rfl, by decide⟩ | exact ⟨by assumption, by decide⟩ | exact ⟨by decide, rfl⟩ | exact ⟨by decide, by decide⟩ | exact ⟨by decide, by assumption⟩ | assumption) (by first | rfl | assumption) (by first | rfl | assumption) i2 ?_
        try simp only [e, mW_up, k2, cpR_up]
        refine aw_iinc (y := 1) k122_21 rfl (by decide) rfl ?_
        try simp only [e, mW_up, k2, cpR_up]
        rw [nI_1 k]
        refine aw_goto (t := 2) k122_24 (by decide) ?_
        exact ih (k + 1) (by omega)
  have := loop 190 0 (by omega)
  rw [cpR_0, mW_self] at this
  refine ct_go hL_M_putBack rfl ?_
  refine aw_iconst (v := 0) k122_0 (by decide) ?_
  refine aw_istore_n k122_1 (Nat.le_of_ble_eq_true rfl) rfl ?_
  exact this
