/-! THE STATE'S OTHER ACTIONS, and the history -/
theorem nI_back {x : Int32} (h : 0 ≤ x) : nI x.toNatClampNeg = x := by
  have h0 : (0 : Int) ≤ x.toInt := by rw [Int32.le_iff_toInt_le] at h; exact h
  have h2 : x.toNatClampNeg = x.toInt.toNat := rfl
  have h3 := x.toInt_lt
  refine Int32.toInt_inj.mp ?_
  rw [nI_toInt (by rw [h2]; omega), h2]
  omega
def hasF (f : Nat → Int32) (x : Int32) : Bool := decide (0 ≤ x) && decide (x < f 39)
theorem hasF_eq {M : mM} {s : Nat} {f : Nat → Int32} {x : Int32} (hR : RelS M s f) : (decide (0 ≤ x) && (decide (x < M (3, s, 0) 2) && decide (x < 6))) = hasF f x := by
  obtain ⟨g1, g2, g3, -⟩ := hR.c
  unfold hasF
  rw [g3, g1]
  by_cases h : x < nI (fC f)
  · have h6 : x < 6 := by
      rw [Int32.lt_iff_toInt_lt, nI_toInt (by omega)] at h
      rw [Int32.lt_iff_toInt_lt]
      have : (6 : Int32).toInt = 6 := rfl
      omega
    rw [decide_eq_true h, decide_eq_true h6]
    rfl
  · rw [decide_eq_false h]
    rfl
theorem hasF_at {f : Nat → Int32} {x : Int32} {c : Nat} (h : hasF f x = true) (hc : f 39 = nI c) (h6 : c ≤ 6) : x = nI x.toNatClampNeg ∧ x.toNatClampNeg < c := by
  unfold hasF at h
  rw [Bool.and_eq_true] at h
  have h0 := of_decide_eq_true h.1
  have h1 := of_decide_eq_true h.2
  have e := nI_back h0
  refine ⟨e.symm, ?_⟩
  rw [hc, ← e] at h1
  exact nI_lt_of h1 (ha := by
    have h3 := x.toInt_lt
    have h2 : x.toNatClampNeg = x.toInt.toNat := rfl
    omega)
theorem hasF_nI {f : Nat → Int32} {x c : Nat} (hc : f 39 = nI c) (h6 : c ≤ 6) (hx : x < c) : hasF f (nI x) = true := by
  unfold hasF
  rw [hc, decide_eq_true (nI_pos' (by omega)), decide_eq_true (nI_lt hx (by omega))]
  rfl
theorem s_S_hasF {d s : Nat} {M : mM} {f : Nat → Int32} {x : Int32} (hR : RelS M s f) : CT iS_hasField d [vR 3 s 0, vI x] M (.inl (some (vI (bI (hasF f x))))) M 0 := by
  rw [← hasF_eq hR]
  exact s_S_hasField hR.1
/-- the fields behind x moved by one place, as far as i -/
def Mv (M M1 : mM) (s x i : Nat) : Prop := (∀ r, (r.2.1 = s → r.1 ≠ 0 ∧ r.1 ≠ 8 ∧ r.1 ≠ 9) → M1 r = M r) ∧ (∀ r, (r.2.1 = s → r.2.2 < x ∨ i ≤ r.2.2) → M1 r = M r) ∧ ∀ k, x ≤ k → k < i → M1 (0, s, k) 2 = M (0, s, k + 1) 2 ∧ ∀ q, q < 12 → M1 (8, s, k) q = M (8, s, k + 1) q ∧ M1 (9, s, k) q = M (9, s, k + 1) q
theorem Mv.step {M M1 : mM} {s x i : Nat} (hx : x ≤ i) (h : Mv M M1 s x i) : Mv M (fCopy M1 s i s (i + 1)) s x (i + 1) := by
  obtain ⟨h1, h2, h3⟩ := h
  have fa := fCopy_at (M := M1) (s := s) (s' := s) (i := i) (i' := i + 1) (fun q => by omega)
  refine ⟨fun r hr => ?_, fun r hr => ?_, fun k hk hk2 => ?_⟩
  · have g : ∀ k, (k = 0 ∨ k = 8 ∨ k = 9) → r ≠ (k, s, i) := fun k hk e => by
      subst e
      have := hr rfl
      simp at this
      omega
    rw [fCopy_ne (g 0 (by simp)) (g 8 (by simp)) (g 9 (by simp))]
    exact h1 r hr
  · have g : ∀ k, r ≠ (k, s, i) := fun k e => by
      subst e
      have := hr rfl
      simp at this
      omega
    rw [fCopy_ne (g 0) (g 8) (g 9)]
    exact h2 r (fun e => by have := hr e; omega)
  · by_cases e : k = i
    · subst e
      have e1 : ∀ j, M1 (j, s, k + 1) = M (j, s, k + 1) := fun j => h2 _ (fun _ => Or.inr (by simp))
      refine ⟨fa.1.trans (by rw [e1]), fun q hq => ⟨(fa.2 q hq).1.trans (by rw [e1]), (fa.2 q hq).2.trans (by rw [e1])⟩⟩
    · have := h3 k hk (by omega)
      refine ⟨?_, fun q hq => ?_⟩
      · rw [fCopy_ne (by simp [e]) (by simp) (by simp)]; exact this.1
      · rw [fCopy_ne (by simp) (by simp [e]) (by simp), fCopy_ne (by simp) (by simp) (by simp [e])]; exact this.2 q hq
theorem give_rel {M M1 : mM} {s x : Nat} {f : Nat → Int32} (hR : RelS M s f) (hx : x < fC f) (hm : Mv M M1 s x (fC f - 1)) : RelS (mUp M1 (3, s, 0) 2 (nI (fC f - 1))) s (fGive f x) ∧ Fr s M (mUp M1 (3, s, 0) 2 (nI (fC f - 1))) := by
  have hC := hR.c
  obtain ⟨hs, ⟨n, h1, h2, h3, h4, h5, h6⟩, -⟩ := hR
  generalize hc : fC f = c at hC hx hm
  obtain ⟨g1, g2, g3, g4⟩ := hC
  obtain ⟨m1, m2, m3⟩ := hm
  have hlo : ∀ j, j < 39 → fGive f x j = f j := fun j a => by
    unfold fGive
    rw [hc, if_neg (by omega), if_neg (by omega), if_neg (by omega)]
  have ek : ∀ k, k ≠ 3 → k ≠ 0 → k ≠ 8 → k ≠ 9 → ∀ j, mUp M1 (3, s, 0) 2 (nI (c - 1)) (k, s, j) = M (k, s, j) := fun k a0 a b c j => by
    rw [mUp_ne (by simp [a0])]
    exact m1 _ (fun _ => ⟨a, b, c⟩)
  refine ⟨⟨hs, ⟨n, (hlo 0 (by omega)).trans h1, h2, by rw [ek 4 (by simp) (by simp) (by simp) (by simp)]; exact h3, by rw [ek 4 (by simp) (by simp) (by simp) (by simp), hlo 37 (by omega)]; exact h4, by rw [ek 4 (by simp) (by simp) (by simp) (by simp), hlo 38 (by omega)]; exact h5, fun w hw j hj => ?_⟩, c - 1, ?_, by omega, by simp [mUp_at], fun i hi => ?_⟩, ?_⟩
  · rw [ek 7 (by simp) (by simp) (by simp) (by simp), h6 w hw j hj]
    exact (bef_congr (fun i hi => hlo _ (by omega))).symm
  · unfold fGive
    rw [hc, if_pos rfl]
  · by_cases hix : i < x
    · obtain ⟨m, hm⟩ := g4 i (by omega)
      refine ⟨m, hm.congr (fun k hk => ?_) ?_ ?_ ?_⟩
      · unfold blk fGive
        rw [hc, if_neg (by omega), if_neg (by omega), if_neg (by omega)]
      all_goals (rw [mUp_ne (by simp)]; exact m2 _ (fun _ => Or.inl hix))
    · obtain ⟨m, a1, a2, a3, a4, a5⟩ := g4 (i + 1) (by omega)
      have hb : ∀ k, k < 25 → blk (fGive f x) i k = blk f (i + 1) k := fun k hk => by
        unfold blk fGive
        rw [hc, if_neg (by omega), if_pos (by omega), show 40 + 25 * i + k + 25 = 40 + 25 * (i + 1) + k by omega]
      have := m3 i (by omega) hi
      refine ⟨m, (hb 0 (by omega)).trans a1, a2, a3, by rw [mUp_ne (by simp)]; exact this.1.trans a4, fun k hk => ?_⟩
      rw [mUp_ne (by simp), mUp_ne (by simp), hb _ (by omega), hb _ (by omega)]
      exact ⟨(this.2 k (by omega)).1.trans (a5 k hk).1, (this.2 k (by omega)).2.trans (a5 k hk).2⟩
  · refine Fr.up (fun r hr => m1 r (fun e => ⟨fun q => hr ⟨e, Or.inl q⟩, fun q => hr ⟨e, by simp [q]⟩, fun q => hr ⟨e, by simp [q]⟩⟩)) ⟨rfl, by simp⟩
theorem s_S_dropField {d s : Nat} {M : mM} {f : Nat → Int32} {x : Int32} (hR : RelS M s f) : ∃ M', CT iS_dropField (d + 2) [vR 3 s 0, vI x] M (.inl (some (vI (bI (hasF f x))))) M' 0 ∧ RelS M' s (if hasF f x = true then fGive f x.toNatClampNeg else f) ∧ Fr s M M' := by
  have hC := hR.c
  obtain ⟨hs, -⟩ := id hR
  by_cases hh : hasF f x = true
  · rw [hh]
    obtain ⟨e, hlt⟩ := hasF_at hh hC.1 hC.2.1
    have g2 := hC.2.1
    have hsF : CT iS_hasField (d + 1) [vR 3 s 0, vI x] M (.inl (some (vI (bI true)))) M 0 := by rw [← hh]; exact s_S_hasF hR
    revert e hlt hsF
    generalize x.toNatClampNeg = y
    intro e hlt hsF
    subst e
    have loop : ∀ (k i : Nat) (M1 : mM), i + 1 + k = fC f → y ≤ i → Mv M M1 s y i → ∃ M', AW iS_dropField (d + 2) 14 [some (vR 3 s 0), some (vI (nI y)), some (vI (nI (i + 1)))] [] M1 (.inl (some (vI (bI true)))) M' 0 ∧ RelS M' s (fGive f y) ∧ Fr s M M' := by
      intro k
      induction k with
      | zero =>
        intro i M1 hi hy hm
        have hi' : i = fC f - 1 := by omega
        have hp := nI_pred i
        have e3 : M1 (3, s, 0) 2 = nI (i + 1) := by rw [hm.1 _ (fun _ => by simp), hC.2.2.1]; exact congrArg nI (by omega)
        have hg := give_rel hR hlt (by rw [← hi']; exact hm)
        rw [← hi'] at hg
        refine ⟨_, ?_, hg⟩
        refine aw_iload_n k33_14 rfl ?_
        refine aw_aload_n k33_15 rfl ?_
        refine aw_getI k33_16 hC_S_dropField fs_S_25 (by decide) ⟨(by first | assumption | decide), rfl⟩ rfl ?_
        try simp only [e3]
        refine aw_icmp_ge 51 k33_19 (by decide) (fun c_19 => ?_) (fun c_19 => ?_)
        · refine aw_aload_n k33_51 rfl ?_
          first | refine aw_dupI k33_52 ?_ | refine aw_dupR k33_52 ?_
          refine aw_getI k33_53 hC_S_dropField fs_S_25 (by decide) ⟨(by first | assumption | decide), rfl⟩ rfl ?_
          try simp only [e3]
          refine aw_iconst (v := 1) k33_56 (by decide) ?_
          refine aw_isub k33_57 ?_
          rw [hp]
          refine aw_putI k33_58 hC_S_dropField fs_S_25 (by decide) ⟨(by first | assumption | decide), rfl⟩ rfl po_3_2 ?_
          try simp only [e3]
          refine aw_iconst (v := 1) k33_61 (by decide) ?_
          refine aw_zreturn k33_62 hR_S_dropField ?_ ?_ ?_
          all_goals first | rfl | exact Or.inl rfl | exact Or.inr rfl | assumption | (simp_all; done) | ((repeat' split) <;> first | rfl | (simp only [Int32.lt_iff_toInt_lt, Int32.le_iff_toInt_le, Int64.lt_iff_toInt_lt, Int64.le_iff_toInt_le] at *; omega) | (simp_all; done))
        · exact absurd (nI_leI (by omega) (by omega) |>.mpr (Nat.le_refl _)) c_19
      | succ k ih =>
        intro i M1 hi hy hm
        have hp := nI_pred i
        have e3 : M1 (3, s, 0) 2 = nI (fC f) := by rw [hm.1 _ (fun _ => by simp)]; exact hC.2.2.1
        have hc0 : (nI i).toNatClampNeg = i := nI_clamp (by omega)
        have hc1 : (nI (i + 1)).toNatClampNeg = i + 1 := nI_clamp (by omega)
        have hi6 : i < 6 := by omega
        have hi7 : i + 1 < 6 := by omega
        obtain ⟨M', hA, hq⟩ := ih (i + 1) _ (by omega) (by omega) (Mv.step hy hm)
        refine ⟨M', ?_, hq⟩
        refine aw_iload_n k33_14 rfl ?_
        refine aw_aload_n k33_15 rfl ?_
        refine aw_getI k33_16 hC_S_dropField fs_S_25 (by decide) ⟨(by first | assumption | decide), rfl⟩ rfl ?_
        try simp only [e3]
        refine aw_icmp_ge 51 k33_19 (by decide) (fun c_19 => ?_) (fun c_19 => ?_)
        · exact absurd (nI_le_of c_19) (by omega)
        · refine aw_iload_n k33_22 rfl ?_
          refine aw_bipush (v := 6) k33_23 (by decide) ?_
          refine aw_icmp_ge 51 k33_25 (by decide) (fun c_25 => ?_) (fun c_25 => ?_)
          · exact absurd (nI_le_of (a := 6) c_25) (by omega)
          · refine aw_aload_n k33_28 rfl ?_
            refine aw_getR k33_29 hC_S_dropField fs_S_20 (by decide) ⟨(by first | assumption | decide), rfl⟩ rfl ?_
            try simp only [e3]
            refine aw_iload_n k33_32 rfl ?_
            refine aw_iconst (v := 1) k33_33 (by decide) ?_
            refine aw_isub k33_34 ?_
            rw [hp]
            first | refine aw_aaloadF k33_35 (by first | assumption | decide) (vp_in_nI hi6 (by decide)) ?_ | refine aw_aaloadS k33_35 (vp_in_nI hi6 (by decide)) ?_
            rw [hc0]
            refine aw_aload_n k33_36 rfl ?_
            refine aw_getR k33_37 hC_S_dropField fs_S_20 (by decide) ⟨(by first | assumption | decide), rfl⟩ rfl ?_
            try simp only [e3]
            refine aw_iload_n k33_40 rfl ?_
            first | refine aw_aaloadF k33_41 (by first | assumption | decide) (vp_in_nI hi7 (by decide)) ?_ | refine aw_aaloadS k33_41 (vp_in_nI hi7 (by decide)) ?_
            rw [hc1]
            refine aw_callV1v k33_42 hC_S_dropField ok_F_copyFrom sv_S_33 hH_F_copyFrom ⟨(by first | assumption | decide), (by first | assumption | decide)⟩ (by decide) hN_F_copyFrom (by rw [hL_F_copyFrom]; exact Nat.le_of_ble_eq_true rfl) (Nat.le_of_ble_eq_true rfl) (s_F_copyFrom hs hi6 hs hi7) ?_
            refine aw_iinc (y := 1) k33_45 rfl (by decide) rfl ?_
            try simp only [e3]
            rw [nI_1]
            refine aw_goto (t := 14) k33_48 (by decide) ?_
            exact hA
    obtain ⟨M', hA, hq⟩ := loop (fC f - y - 1) y M (by omega) (Nat.le_refl y) ⟨fun r _ => rfl, fun r _ => rfl, fun k a b => by omega⟩
    refine ⟨M', ct_go hL_S_dropField rfl ?_, hq⟩
    refine aw_aload_n k33_0 rfl ?_
    refine aw_iload_n k33_1 rfl ?_
    refine aw_callV1 k33_2 hC_S_dropField ok_S_hasField sv_S_64 hH_S_hasField ⟨(by first | assumption | decide), rfl⟩ (by decide) hN_S_hasField (by rw [hL_S_hasField]; exact Nat.le_of_ble_eq_true rfl) (Nat.le_of_ble_eq_true rfl) hsF ?_
    refine aw_if_ne 10 k33_5 (by decide) (fun c_5 => ?_) (fun c_5 => ?_)
    · refine aw_iload_n k33_10 rfl ?_
      refine aw_iconst (v := 1) k33_11 (by decide) ?_
      refine aw_iadd k33_12 ?_
      rw [nI_1]
      refine aw_istore_n k33_13 (Nat.le_of_ble_eq_true rfl) rfl ?_
      exact hA
    · exact absurd c_5 (by decide)
  · have hf := Bool.eq_false_iff.mpr hh
    rw [hf]
    have hsF : CT iS_hasField (d + 1) [vR 3 s 0, vI x] M (.inl (some (vI (bI false)))) M 0 := by rw [← hf]; exact s_S_hasF hR
    refine ⟨M, ct_go hL_S_dropField rfl ?_, hR, Fr.rf⟩
    refine aw_aload_n k33_0 rfl ?_
    refine aw_iload_n k33_1 rfl ?_
    refine aw_callV1 k33_2 hC_S_dropField ok_S_hasField sv_S_64 hH_S_hasField ⟨(by first | assumption | decide), rfl⟩ (by decide) hN_S_hasField (by rw [hL_S_hasField]; exact Nat.le_of_ble_eq_true rfl) (Nat.le_of_ble_eq_true rfl) hsF ?_
    refine aw_if_ne 10 k33_5 (by decide) (fun c_5 => ?_) (fun c_5 => ?_)
    · exact absurd rfl c_5
    · refine aw_iconst (v := 0) k33_8 (by decide) ?_
      refine aw_zreturn k33_9 hR_S_dropField ?_ ?_ ?_
      all_goals first | rfl | exact Or.inl rfl | exact Or.inr rfl | assumption | (simp_all; done) | ((repeat' split) <;> first | rfl | (simp only [Int32.lt_iff_toInt_lt, Int32.le_iff_toInt_le, Int64.lt_iff_toInt_lt, Int64.le_iff_toInt_le] at *; omega) | (simp_all; done))
def bN (f : Nat → Int32) (i : Nat) : Nat := (f (40 + 25 * i)).toNatClampNeg
def twF (f : Nat → Int32) (i : Nat) : Int64 := twB (blk f i) (bN f i)
theorem bN_of {M : mM} {s i m : Nat} {f : Nat → Int32} (h : FdR M s i (blk f i) m) : bN f i = m := by
  unfold bN
  rw [show f (40 + 25 * i) = nI m from h.1]
  exact nI_clamp (by have := h.2.1; omega)
theorem RelS.fd {M : mM} {s i : Nat} {f : Nat → Int32} (h : RelS M s f) (hi : i < fC f) : FdR M s i (blk f i) (bN f i) := by
  obtain ⟨m, hm⟩ := h.c.2.2.2 i hi
  rw [bN_of hm]
  exact hm
theorem RelS.fdM {M : mM} {s i : Nat} {f : Nat → Int32} (h : RelS M s f) (hi : i < fC f) : FdM M s i (bN f i) := by
  obtain ⟨a1, a2, a3, a4, a5⟩ := h.fd hi
  exact ⟨h.1, by have := h.c.2.1; omega, a4, a2⟩
theorem RelS.tw {M : mM} {s i : Nat} {f : Nat → Int32} (h : RelS M s f) (hi : i < fC f) : twC M s i (bN f i) = twF f i := by
  obtain ⟨a1, a2, a3, a4, a5⟩ := h.fd hi
  exact twC_eq a5
def grF (f : Nat → Int32) : Nat → Int32 × Int64
  | 0 => (-1, -1)
  | n + 1 => if (grF f n).2 < twF f n / 2 then (nI n, twF f n / 2) else grF f n
theorem grF_t {f : Nat → Int32} {n : Nat} (h : (grF f n).2 < twF f n / 2) : grF f (n + 1) = (nI n, twF f n / 2) := if_pos h
theorem grF_f {f : Nat → Int32} {n : Nat} (h : ¬ (grF f n).2 < twF f n / 2) : grF f (n + 1) = grF f n := if_neg h
theorem s_S_fieldOfGreatestArea {d s : Nat} {M : mM} {f : Nat → Int32} (hR : RelS M s f) : CT iS_fieldOfGreatestArea (d + 4) [vR 3 s 0] M (.inl (some (vI (grF f (fC f)).1))) M 0 := by
  obtain ⟨g1, g2, g3, g4⟩ := hR.c
  have hs := hR.1
  refine ct_go hL_S_fieldOfGreatestArea rfl ?_
  have loop : ∀ (k i : Nat) (a : Int32) (b : Int64) (z : Option mAV), i + k = fC f → a = (grF f i).1 → b = (grF f i).2 → AW iS_fieldOfGreatestArea (d + 4) 9 [some (vR 3 s 0), some (vI a), some (vL b), none, some (vI (nI i)), z, none] [] M (.inl (some (vI (grF f (fC f)).1))) M 0 := by
    intro k
    induction k with
    | zero =>
      intro i a b z hi ha hb
      obtain rfl : i = fC f := by omega
      subst ha
      refine aw_iload k34_9 rfl ?_
      refine aw_aload_n k34_11 rfl ?_
      refine aw_getI k34_12 hC_S_fieldOfGreatestArea fs_S_25 (by decide) ⟨(by first | assumption | decide), rfl⟩ rfl ?_
      try simp only [g3]
      refine aw_icmp_ge 56 k34_15 (by decide) (fun c_15 => ?_) (fun c_15 => ?_)
      · refine aw_iload_n k34_56 rfl ?_
        refine aw_ireturn k34_57 hR_S_fieldOfGreatestArea ?_ ?_
        all_goals first | rfl | exact Or.inl rfl | exact Or.inr rfl | assumption | (simp_all; done) | ((repeat' split) <;> first | rfl | (simp only [Int32.lt_iff_toInt_lt, Int32.le_iff_toInt_le, Int64.lt_iff_toInt_lt, Int64.le_iff_toInt_le] at *; omega) | (simp_all; done))
      · exact absurd (nI_leI (by omega) (by omega) |>.mpr (Nat.le_refl _)) c_15
    | succ k ih =>
      intro i a b z hi ha hb
      have hcc : (nI i).toNatClampNeg = i := nI_clamp (by omega)
      have hi6 : i < 6 := by omega
      have har : CT iF_area (d + 3) [vR 0 s i] M (.inl (some (vL (twF f i / 2)))) M 0 := by
        rw [← hR.tw (by omega)]
        exact s_F_area (hR.fdM (by omega))
      subst ha
      subst hb
      refine aw_iload k34_9 rfl ?_
      refine aw_aload_n k34_11 rfl ?_
      refine aw_getI k34_12 hC_S_fieldOfGreatestArea fs_S_25 (by decide) ⟨(by first | assumption | decide), rfl⟩ rfl ?_
      try simp only [g3]
      refine aw_icmp_ge 56 k34_15 (by decide) (fun c_15 => ?_) (fun c_15 => ?_)
      · exact absurd (nI_le_of c_15) (by omega)
      · refine aw_iload k34_18 rfl ?_
        refine aw_bipush (v := 6) k34_20 (by decide) ?_
        refine aw_icmp_ge 56 k34_22 (by decide) (fun c_22 => ?_) (fun c_22 => ?_)
        · exact absurd (nI_le_of (a := 6) c_22) (by omega)
        · refine aw_aload_n k34_25 rfl ?_
          refine aw_getR k34_26 hC_S_fieldOfGreatestArea fs_S_20 (by decide) ⟨(by first | assumption | decide), rfl⟩ rfl ?_
          try simp only [g3]
          refine aw_iload k34_29 rfl ?_
          first | refine aw_aaloadF k34_31 (by first | assumption | decide) (vp_in_nI hi6 (by decide)) ?_ | refine aw_aaloadS k34_31 (vp_in_nI hi6 (by decide)) ?_
          rw [hcc]
          refine aw_callV0 k34_32 hC_S_fieldOfGreatestArea ok_F_area sv_S_70 hH_F_area ⟨(by first | assumption | decide), (by first | assumption | decide)⟩ (by decide) hN_F_area (by rw [hL_F_area]; exact Nat.le_of_ble_eq_true rfl) (Nat.le_of_ble_eq_true rfl) har ?_
          refine aw_lstore k34_35 (Nat.le_of_ble_eq_true rfl) rfl ?_
          refine aw_lload k34_37 rfl ?_
          refine aw_lload_n k34_39 rfl ?_
          refine aw_lcmp_le 50 k34_40 k34_41 (by decide) (fun c_40 => ?_) (fun c_40 => ?_)
          · refine aw_iinc (y := 1) k34_50 rfl (by decide) rfl ?_
            try simp only [g3]
            rw [nI_1]
            refine aw_goto (t := 9) k34_53 (by decide) ?_
            refine ih (i + 1) _ _ _ (by omega) ?_ ?_
            · first | rw [grF_f (Int64.not_lt.mpr c_40)] | rw [grF_t (Int64.not_le.mp c_40)]
            · first | rw [grF_f (Int64.not_lt.mpr c_40)] | rw [grF_t (Int64.not_le.mp c_40)]
          · refine aw_lload k34_44 rfl ?_
            refine aw_lstore_n k34_46 (Nat.le_of_ble_eq_true rfl) rfl ?_
            refine aw_iload k34_47 rfl ?_
            refine aw_istore_n k34_49 (Nat.le_of_ble_eq_true rfl) rfl ?_
            refine aw_iinc (y := 1) k34_50 rfl (by decide) rfl ?_
            try simp only [g3]
            rw [nI_1]
            refine aw_goto (t := 9) k34_53 (by decide) ?_
            refine ih (i + 1) _ _ _ (by omega) ?_ ?_
            · first | rw [grF_f (Int64.not_lt.mpr c_40)] | rw [grF_t (Int64.not_le.mp c_40)]
            · first | rw [grF_f (Int64.not_lt.mpr c_40)] | rw [grF_t (Int64.not_le.mp c_40)]
  refine aw_iconst (v := (-1)) k34_0 (by decide) ?_
  refine aw_istore_n k34_1 (Nat.le_of_ble_eq_true rfl) rfl ?_
  refine aw_ldc2_w k34_2 hC_S_fieldOfGreatestArea cl_S_68 ?_
  refine aw_lstore_n k34_5 (Nat.le_of_ble_eq_true rfl) rfl ?_
  refine aw_iconst (v := 0) k34_6 (by decide) ?_
  refine aw_istore k34_7 (Nat.le_of_ble_eq_true rfl) rfl ?_
  exact loop (fC f) 0 _ _ _ (by omega) rfl rfl
theorem s_S_sumOfTwiceAreas {d s : Nat} {M : mM} {f : Nat → Int32} (hR : RelS M s f) : CT iS_sumOfTwiceAreas (d + 3) [vR 3 s 0] M (.inl (some (vL (sumL (twF f) (fC f))))) M 0 := by
  obtain ⟨g1, g2, g3, g4⟩ := hR.c
  have hs := hR.1
  refine ct_go hL_S_sumOfTwiceAreas rfl ?_
  have loop : ∀ (k i : Nat) (b : Int64), i + k = fC f → b = sumL (twF f) i → AW iS_sumOfTwiceAreas (d + 3) 4 [some (vR 3 s 0), some (vL b), none, some (vI (nI i))] [] M (.inl (some (vL (sumL (twF f) (fC f))))) M 0 := by
    intro k
    induction k with
    | zero =>
      intro i b hi hb
      obtain rfl : i = fC f := by omega
      subst hb
      refine aw_iload_n k35_4 rfl ?_
      refine aw_aload_n k35_5 rfl ?_
      refine aw_getI k35_6 hC_S_sumOfTwiceAreas fs_S_25 (by decide) ⟨(by first | assumption | decide), rfl⟩ rfl ?_
      try simp only [g3]
      refine aw_icmp_ge 36 k35_9 (by decide) (fun c_9 => ?_) (fun c_9 => ?_)
      · refine aw_lload_n k35_36 rfl ?_
        refine aw_lreturn k35_37 hR_S_sumOfTwiceAreas ?_ ?_
        all_goals first | rfl | exact Or.inl rfl | exact Or.inr rfl | assumption | (simp_all; done) | ((repeat' split) <;> first | rfl | (simp only [Int32.lt_iff_toInt_lt, Int32.le_iff_toInt_le, Int64.lt_iff_toInt_lt, Int64.le_iff_toInt_le] at *; omega) | (simp_all; done))
      · exact absurd (nI_leI (by omega) (by omega) |>.mpr (Nat.le_refl _)) c_9
    | succ k ih =>
      intro i b hi hb
      have hcc : (nI i).toNatClampNeg = i := nI_clamp (by omega)
      have hi6 : i < 6 := by omega
      have har : CT iF_twiceByCorners (d + 2) [vR 0 s i] M (.inl (some (vL (twF f i)))) M 0 := by
        rw [← hR.tw (by omega)]
        exact s_F_twiceByCorners (hR.fdM (by omega))
      subst hb
      refine aw_iload_n k35_4 rfl ?_
      refine aw_aload_n k35_5 rfl ?_
      refine aw_getI k35_6 hC_S_sumOfTwiceAreas fs_S_25 (by decide) ⟨(by first | assumption | decide), rfl⟩ rfl ?_
      try simp only [g3]
      refine aw_icmp_ge 36 k35_9 (by decide) (fun c_9 => ?_) (fun c_9 => ?_)
      · exact absurd (nI_le_of c_9) (by omega)
      · refine aw_iload_n k35_12 rfl ?_
        refine aw_bipush (v := 6) k35_13 (by decide) ?_
        refine aw_icmp_ge 36 k35_15 (by decide) (fun c_15 => ?_) (fun c_15 => ?_)
        · exact absurd (nI_le_of (a := 6) c_15) (by omega)
        · refine aw_lload_n k35_18 rfl ?_
          refine aw_aload_n k35_19 rfl ?_
          refine aw_getR k35_20 hC_S_sumOfTwiceAreas fs_S_20 (by decide) ⟨(by first | assumption | decide), rfl⟩ rfl ?_
          try simp only [g3]
          refine aw_iload_n k35_23 rfl ?_
          first | refine aw_aaloadF k35_24 (by first | assumption | decide) (vp_in_nI hi6 (by decide)) ?_ | refine aw_aaloadS k35_24 (vp_in_nI hi6 (by decide)) ?_
          rw [hcc]
          refine aw_callV0 k35_25 hC_S_sumOfTwiceAreas ok_F_twiceByCorners sv_S_57 hH_F_twiceByCorners ⟨(by first | assumption | decide), (by first | assumption | decide)⟩ (by decide) hN_F_twiceByCorners (by rw [hL_F_twiceByCorners]; exact Nat.le_of_ble_eq_true rfl) (Nat.le_of_ble_eq_true rfl) har ?_
          refine aw_ladd k35_28 ?_
          refine aw_lstore_n k35_29 (Nat.le_of_ble_eq_true rfl) rfl ?_
          refine aw_iinc (y := 1) k35_30 rfl (by decide) rfl ?_
          try simp only [g3]
          rw [nI_1]
          refine aw_goto (t := 4) k35_33 (by decide) ?_
          exact ih (i + 1) _ (by omega) rfl
  refine aw_lconst (v := 0) k35_0 (by decide) ?_
  refine aw_lstore_n k35_1 (Nat.le_of_ble_eq_true rfl) rfl ?_
  refine aw_iconst (v := 0) k35_2 (by decide) ?_
  refine aw_istore_n k35_3 (Nat.le_of_ble_eq_true rfl) rfl ?_
  exact loop (fC f) 0 _ (by omega) rfl
/-! the history: a ring of four states -/
theorem nI_mod4 {a : Nat} (h : a < 8) : nI a - nI a / 4 * 4 = nI (a % 4) := by
  obtain rfl | rfl | rfl | rfl | rfl | rfl | rfl | rfl : a = 0 ∨ a = 1 ∨ a = 2 ∨ a = 3 ∨ a = 4 ∨ a = 5 ∨ a = 6 ∨ a = 7 := by omega
  all_goals decide
theorem s_H_remember {d t a n : Nat} {M : mM} {f : Nat → Int32} (ha : a < 4) (hn : n ≤ 4) (h1 : M (1, 0, 0) 1 = nI a) (h2 : M (1, 0, 0) 2 = nI n) (hR : RelS M t f) (ht : t < 3) : ∃ M', CT iH_remember (d + 3) [vR 1 0 0, vR 3 t 0] M (.inl none) M' 0 ∧ RelS M' (3 + a) f ∧ M' (1, 0, 0) 1 = nI ((a + 1) % 4) ∧ M' (1, 0, 0) 2 = nI (min (n + 1) 4) ∧ ∀ r, r ≠ (1, 0, 0) → ¬ InS (3 + a) r → M' r = M r := by
  obtain ⟨M1, hA, hR1, hF⟩ := s_S_copyFrom (d := d) (s := 3 + a) (M := M) (by omega) hR (by omega)
  have h37 : 3 + a < 7 := by omega
  have h37t : t < 7 := by omega
  have e1 : M1 (1, 0, 0) = M (1, 0, 0) := hF _ (fun q => by have := q.2; simp at this)
  have e2 : nI (a + 1) - nI (a + 1) / 4 * 4 = nI ((a + 1) % 4) := nI_mod4 (by omega)
  have hcc : (nI a).toNatClampNeg = a := nI_clamp (by omega)
  have hmin : (if (4 : Int32) < nI (n + 1) then 4 else nI (n + 1)) = nI (min (n + 1) 4) := by
    obtain rfl | rfl | rfl | rfl | rfl : n = 0 ∨ n = 1 ∨ n = 2 ∨ n = 3 ∨ n = 4 := by omega
    all_goals decide
  refine ⟨mUp (mUp M1 (1, 0, 0) 1 (nI ((a + 1) % 4))) (1, 0, 0) 2 (nI (min (n + 1) 4)), ct_go hL_H_remember rfl ?_, ?_, by simp [mUp_at], by simp [mUp_at], fun r hr hi => by rw [mUp_ne hr, mUp_ne hr]; exact hF r hi⟩
  · have e3 : ∀ v, mUp M1 (1, 0, 0) 1 v (1, 0, 0) 2 = nI n := fun v => by rw [← h2, ← e1]; simp [mUp_at]
    have e4 : M1 (1, 0, 0) 1 = nI a := by rw [e1]; exact h1
    refine aw_aload_n k26_0 rfl ?_
    refine aw_getI k26_1 hC_H_remember fs_H_18 (by decide) ⟨rfl, rfl⟩ rfl ?_
    try simp only [h1, h2, e3, e4]
    refine aw_if_lt 15 k26_4 (by decide) (fun c_4 => ?_) (fun c_4 => ?_)
    · exact absurd c_4 (nI_pos (by omega))
    · refine aw_aload_n k26_7 rfl ?_
      refine aw_getI k26_8 hC_H_remember fs_H_18 (by decide) ⟨rfl, rfl⟩ rfl ?_
      try simp only [h1, h2, e3, e4]
      refine aw_iconst (v := 4) k26_11 (by decide) ?_
      refine aw_icmp_lt 16 k26_12 (by decide) (fun c_12 => ?_) (fun c_12 => ?_)
      · refine aw_aload_n k26_16 rfl ?_
        refine aw_getR k26_17 hC_H_remember fs_H_11 (by decide) ⟨rfl, rfl⟩ rfl ?_
        try simp only [h1, h2, e3, e4]
        refine aw_aload_n k26_20 rfl ?_
        refine aw_getI k26_21 hC_H_remember fs_H_18 (by decide) ⟨rfl, rfl⟩ rfl ?_
        try simp only [h1, h2, e3, e4]
        first | refine aw_aaloadF k26_24 (by first | assumption | decide) (vp_in_nI ha (by decide)) ?_ | refine aw_aaloadS k26_24 (vp_in_nI ha (by decide)) ?_
        rw [hcc]
        refine aw_aload_n k26_25 rfl ?_
        refine aw_callV1v k26_26 hC_H_remember ok_S_copyFrom sv_H_25 hH_S_copyFrom ⟨(by first | assumption | decide), rfl⟩ (by decide) hN_S_copyFrom (by rw [hL_S_copyFrom]; exact Nat.le_of_ble_eq_true rfl) (Nat.le_of_ble_eq_true rfl) hA ?_
        refine aw_aload_n k26_29 rfl ?_
        refine aw_aload_n k26_30 rfl ?_
        refine aw_getI k26_31 hC_H_remember fs_H_18 (by decide) ⟨rfl, rfl⟩ rfl ?_
        try simp only [h1, h2, e3, e4]
        refine aw_iconst (v := 1) k26_34 (by decide) ?_
        refine aw_iadd k26_35 ?_
        rw [nI_1]
        refine aw_iconst (v := 4) k26_36 (by decide) ?_
        refine aw_irem k26_37 (by decide) ?_
        rw [e2]
        refine aw_putI k26_38 hC_H_remember fs_H_18 (by decide) ⟨rfl, rfl⟩ rfl po_1_1 ?_
        try simp only [h1, h2, e3, e4]
        refine aw_aload_n k26_41 rfl ?_
        refine aw_aload_n k26_42 rfl ?_
        refine aw_getI k26_43 hC_H_remember fs_H_22 (by decide) ⟨rfl, rfl⟩ rfl ?_
        try simp only [h1, h2, e3, e4]
        refine aw_iconst (v := 1) k26_46 (by decide) ?_
        refine aw_iadd k26_47 ?_
        rw [nI_1]
        refine aw_iconst (v := 4) k26_48 (by decide) ?_
        refine aw_callS2 k26_49 hC_H_remember ok_J_min ss_H_29 hH_J_min (by rw [hL_J_min]; exact Nat.le_of_ble_eq_true rfl) (Nat.le_of_ble_eq_true rfl) s_J_min ?_
        rw [hmin]
        refine aw_putI k26_52 hC_H_remember fs_H_22 (by decide) ⟨rfl, rfl⟩ rfl po_1_2 ?_
        try simp only [h1, h2, e3, e4]
        refine aw_return k26_55 hR_H_remember ?_
        all_goals first | rfl | exact Or.inl rfl | exact Or.inr rfl | assumption | (simp_all; done) | ((repeat' split) <;> first | rfl | (simp only [Int32.lt_iff_toInt_lt, Int32.le_iff_toInt_le, Int64.lt_iff_toInt_lt, Int64.le_iff_toInt_le] at *; omega) | (simp_all; done))
      · exact absurd (nI_lt (a := a) (b := 4) ha (by omega)) c_12
  · exact hR1.congr (fun r hr => by
      have : r ≠ (1, 0, 0) := fun q => by subst q; have := hr.2; simp at this
      rw [mUp_ne this, mUp_ne this])
theorem s_H_giveBack0 {d t : Nat} {M : mM} (h2 : M (1, 0, 0) 2 = nI 0) : CT iH_giveBack d [vR 1 0 0, vR 3 t 0] M (.inl (some (vI 0))) M 0 := by
  refine ct_go hL_H_giveBack rfl ?_
  refine aw_aload_n k27_0 rfl ?_
  refine aw_getI k27_1 hC_H_giveBack fs_H_22 (by decide) ⟨rfl, rfl⟩ rfl ?_
  try simp only [h2]
  refine aw_if_le 14 k27_4 (by decide) (fun c_4 => ?_) (fun c_4 => ?_)
  · refine aw_iconst (v := 0) k27_14 (by decide) ?_
    refine aw_zreturn k27_15 hR_H_giveBack ?_ ?_ ?_
    all_goals first | rfl | exact Or.inl rfl | exact Or.inr rfl | assumption | (simp_all; done) | ((repeat' split) <;> first | rfl | (simp only [Int32.lt_iff_toInt_lt, Int32.le_iff_toInt_le, Int64.lt_iff_toInt_lt, Int64.le_iff_toInt_le] at *; omega) | (simp_all; done))
  · exact absurd (Int32.le_refl 0) c_4
theorem s_H_giveBack {d t a n : Nat} {M : mM} {f : Nat → Int32} (ha : a < 4) (hn : n < 4) (h1 : M (1, 0, 0) 1 = nI a) (h2 : M (1, 0, 0) 2 = nI (n + 1)) (hR : RelS M (3 + (a + 3) % 4) f) (ht : t < 3) : ∃ M', CT iH_giveBack (d + 3) [vR 1 0 0, vR 3 t 0] M (.inl (some (vI 1))) M' 0 ∧ RelS M' t f ∧ M' (1, 0, 0) 1 = nI ((a + 3) % 4) ∧ M' (1, 0, 0) 2 = nI n ∧ ∀ r, r ≠ (1, 0, 0) → ¬ InS t r → M' r = M r := by
  obtain ⟨M0, hM0⟩ : ∃ M0, M0 = mUp (mUp M (1, 0, 0) 1 (nI ((a + 3) % 4))) (1, 0, 0) 2 (nI n) := ⟨_, rfl⟩
  have hR0 : RelS M0 (3 + (a + 3) % 4) f := hR.congr (fun r hr => by
      have : r ≠ (1, 0, 0) := fun q => by subst q; have := hr.2; simp at this
      rw [hM0, mUp_ne this, mUp_ne this])
  obtain ⟨M1, hA, hR1, hF⟩ := s_S_copyFrom (d := d) (s := t) (M := M0) (by omega) hR0 (by omega)
  have h37 : 3 + (a + 3) % 4 < 7 := by omega
  have h37t : t < 7 := by omega
  have e1 : M1 (1, 0, 0) = M0 (1, 0, 0) := hF _ (fun q => by have := q.2; simp at this)
  have e0 : nI a + 4 - 1 = nI (a + 3) := by
    obtain rfl | rfl | rfl | rfl : a = 0 ∨ a = 1 ∨ a = 2 ∨ a = 3 := by omega
    all_goals decide
  have e2 : nI (a + 3) - nI (a + 3) / 4 * 4 = nI ((a + 3) % 4) := nI_mod4 (by omega)
  have hcc : (nI ((a + 3) % 4)).toNatClampNeg = (a + 3) % 4 := nI_clamp (by omega)
  have hp := nI_pred n
  have hlt : (a + 3) % 4 < 4 := by omega
  refine ⟨M1, ct_go hL_H_giveBack rfl ?_, hR1, by rw [e1, hM0]; simp [mUp_at], by rw [e1, hM0]; simp [mUp_at], fun r hr hi => by rw [hF r hi, hM0, mUp_ne hr, mUp_ne hr]⟩
  have e3 : ∀ v, mUp M (1, 0, 0) 1 v (1, 0, 0) 2 = nI (n + 1) := fun v => by rw [← h2]; simp [mUp_at]
  have e5 : ∀ v w, mUp (mUp M (1, 0, 0) 1 v) (1, 0, 0) 2 w (1, 0, 0) 1 = v := fun v w => by simp [mUp_at]
  refine aw_aload_n k27_0 rfl ?_
  refine aw_getI k27_1 hC_H_giveBack fs_H_22 (by decide) ⟨rfl, rfl⟩ rfl ?_
  try simp only [h1, h2, e3, e5]
  refine aw_if_le 14 k27_4 (by decide) (fun c_4 => ?_) (fun c_4 => ?_)
  · exact absurd (nI_le_of (b := 0) c_4) (by omega)
  · refine aw_aload_n k27_7 rfl ?_
    refine aw_getI k27_8 hC_H_giveBack fs_H_18 (by decide) ⟨rfl, rfl⟩ rfl ?_
    try simp only [h1, h2, e3, e5]
    refine aw_if_ge 16 k27_11 (by decide) (fun c_11 => ?_) (fun c_11 => ?_)
    · refine aw_aload_n k27_16 rfl ?_
      refine aw_aload_n k27_17 rfl ?_
      refine aw_getI k27_18 hC_H_giveBack fs_H_18 (by decide) ⟨rfl, rfl⟩ rfl ?_
      try simp only [h1, h2, e3, e5]
      refine aw_iconst (v := 4) k27_21 (by decide) ?_
      refine aw_iadd k27_22 ?_
      refine aw_iconst (v := 1) k27_23 (by decide) ?_
      refine aw_isub k27_24 ?_
      rw [e0]
      refine aw_iconst (v := 4) k27_25 (by decide) ?_
      refine aw_irem k27_26 (by decide) ?_
      rw [e2]
      refine aw_putI k27_27 hC_H_giveBack fs_H_18 (by decide) ⟨rfl, rfl⟩ rfl po_1_1 ?_
      try simp only [h1, h2, e3, e5]
      refine aw_aload_n k27_30 rfl ?_
      first | refine aw_dupI k27_31 ?_ | refine aw_dupR k27_31 ?_
      refine aw_getI k27_32 hC_H_giveBack fs_H_22 (by decide) ⟨rfl, rfl⟩ rfl ?_
      try simp only [h1, h2, e3, e5]
      refine aw_iconst (v := 1) k27_35 (by decide) ?_
      refine aw_isub k27_36 ?_
      rw [hp]
      refine aw_putI k27_37 hC_H_giveBack fs_H_22 (by decide) ⟨rfl, rfl⟩ rfl po_1_2 ?_
      try simp only [h1, h2, e3, e5]
      refine aw_aload_n k27_40 rfl ?_
      refine aw_aload_n k27_41 rfl ?_
      refine aw_getR k27_42 hC_H_giveBack fs_H_11 (by decide) ⟨rfl, rfl⟩ rfl ?_
      try simp only [h1, h2, e3, e5]
      refine aw_aload_n k27_45 rfl ?_
      refine aw_getI k27_46 hC_H_giveBack fs_H_18 (by decide) ⟨rfl, rfl⟩ rfl ?_
      try simp only [h1, h2, e3, e5]
      first | refine aw_aaloadF k27_49 (by first | assumption | decide) (vp_in_nI hlt (by decide)) ?_ | refine aw_aaloadS k27_49 (vp_in_nI hlt (by decide)) ?_
      rw [hcc, ← hM0]
      refine aw_callV1v k27_50 hC_H_giveBack ok_S_copyFrom sv_H_25 hH_S_copyFrom ⟨(by first | assumption | decide), rfl⟩ (by decide) hN_S_copyFrom (by rw [hL_S_copyFrom]; exact Nat.le_of_ble_eq_true rfl) (Nat.le_of_ble_eq_true rfl) hA ?_
      refine aw_iconst (v := 1) k27_53 (by decide) ?_
      refine aw_zreturn k27_54 hR_H_giveBack ?_ ?_ ?_
      all_goals first | rfl | exact Or.inl rfl | exact Or.inr rfl | assumption | (simp_all; done) | ((repeat' split) <;> first | rfl | (simp only [Int32.lt_iff_toInt_lt, Int32.le_iff_toInt_le, Int64.lt_iff_toInt_lt, Int64.le_iff_toInt_le] at *; omega) | (simp_all; done))
    · exact absurd (nI_pos' (by omega)) c_11
