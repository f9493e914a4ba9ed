/-! THE MODEL: how many orders -/
def cnt (T : Nat → Int32) : Nat → Nat → Nat
  | 0, _ => 0
  | n + 1, a => (if T a = 59 then 1 else 0) + cnt T n (a + 1)
theorem cnt_s {T : Nat → Int32} {n a : Nat} : cnt T (n + 1) a = (if T a = 59 then 1 else 0) + cnt T n (a + 1) := rfl
theorem cnt_add {T : Nat → Int32} : ∀ {m n a : Nat}, cnt T (m + n) a = cnt T m a + cnt T n (a + m) := by
  intro m
  induction m with
  | zero => intro n a; simp [cnt]
  | succ m ih =>
    intro n a
    rw [show m + 1 + n = (m + n) + 1 by omega, cnt_s, cnt_s, ih, show a + 1 + m = a + (m + 1) by omega]
    omega
theorem cnt_no {T : Nat → Int32} : ∀ {n a : Nat}, (∀ j, a ≤ j → j < a + n → ¬ T j = 59) → cnt T n a = 0 := by
  intro n
  induction n with
  | zero => intro a _; rfl
  | succ n ih =>
    intro a h
    rw [cnt_s, if_neg (h a (Nat.le_refl a) (by omega)), ih (fun j p q => h j (by omega) (by omega))]
theorem dg_59 {c : Int32} (h : 48 ≤ c ∧ c ≤ 57) : ¬ c = 59 := fun e => by
  rw [e] at h
  exact absurd h (by decide)
theorem numG_no {T : Nat → Int32} {most : Int32} : ∀ {k a : Nat} {v : Int32} {j : Nat}, a ≤ j → j < (numG T most k a v).1 → ¬ T j = 59 := by
  intro k
  induction k with
  | zero =>
    intro a v j h1 h2
    have h3 : j < a := h2
    omega
  | succ k ih =>
    intro a v j h1 h2
    unfold numG at h2
    by_cases g : grows (T a) v most
    · rw [if_pos g] at h2
      by_cases e : j = a
      · rw [e]
        exact dg_59 g.1
      · exact ih (by omega) h2
    · rw [if_neg g] at h2
      have h3 : j < a := h2
      omega
theorem num_no {T : Nat → Int32} {most least : Int32} {p j : Nat} (h48 : 48 ≤ least) (h1 : p ≤ j) (h2 : j < (num T most least p).1) : ¬ T j = 59 := by
  unfold num at h2
  by_cases g : least ≤ T p ∧ T p ≤ 57
  · rw [if_pos g] at h2
    by_cases e : j = p
    · rw [e]
      exact dg_59 ⟨Int32.le_trans h48 g.1, g.2⟩
    · exact numG_no (by omega) h2
  · rw [if_neg g] at h2
    have h3 : j < p := h2
    omega
theorem one_no {T : Nat → Int32} {p q j : Nat} {o : mOrd} (h : one T p = .inr (q, o)) (h1 : p ≤ j) (h2 : j < q) : ¬ T j = 59 := by
  unfold one at h
  split at h
  · rename_i g
    obtain ⟨gA, gB, gC, gD, gE, hq, hoo⟩ := oneLeg_inv h
    rw [hq] at h2
    by_cases e0 : j = p
    · rw [e0]
      intro e
      rw [e] at g
      exact absurd g (by decide)
    by_cases e1 : j < (legE T p).1
    · exact num_no (p := p + 1) (by decide) (by omega) e1
    by_cases e2 : j = (legE T p).1
    · rw [e2]
      intro e
      rw [e] at gB
      exact absurd gB (by decide)
    by_cases e3 : j < (legN T p).1
    · exact num_no (p := (legE T p).1 + 1) (by decide) (by omega) e3
    by_cases e4 : j = (legN T p).1
    · rw [e4]
      intro e
      rw [e] at gD
      exact absurd gD (by decide)
    exact num_no (p := (legN T p).1 + 1) (least := 49) (by decide) (by omega) h2
  · split at h
    · rename_i g
      split at h
      · rename_i g3
        simp only [Sum.inr.injEq, Prod.mk.injEq] at h
        by_cases e0 : j = p
        · rw [e0, g]
          decide
        · have e1 : j = p + 1 := by omega
          rw [e1]
          intro e
          rw [e] at g3
          exact absurd g3 (by decide)
      · exact absurd h (by simp)
    · split at h
      · rename_i g
        simp only [Sum.inr.injEq, Prod.mk.injEq] at h
        have e0 : j = p := by omega
        rw [e0, g]
        decide
      · split at h
        · rename_i g
          simp only [Sum.inr.injEq, Prod.mk.injEq] at h
          have e0 : j = p := by omega
          rw [e0, g]
          decide
        · exact absurd h (by simp)
theorem ords_len {t : Nat → Int32} {L : Nat} : ∀ {k p : Nat} {os : List mOrd}, ords (tx t L) L k p = .inr os → os.length = 1 + cnt (tx t L) (L - p) p := by
  intro k
  induction k with
  | zero => intro p os h; exact absurd h (by simp [ords])
  | succ k ih =>
    intro p os h
    unfold ords at h
    cases h1 : one (tx t L) p with
    | inl e => rw [h1] at h; exact absurd h (by simp)
    | inr qo =>
      obtain ⟨q, o⟩ := qo
      have hpL := (one_ok h1).2
      have hpq := one_lt h1
      have hqL := (one_le (t := t) (Nat.le_of_lt hpL)).2 q o h1
      rw [h1] at h
      simp only at h
      have e1 : cnt (tx t L) (L - p) p = cnt (tx t L) (L - q) q := by
        rw [show L - p = (q - p) + (L - q) by omega, cnt_add, cnt_no (fun j a b => one_no h1 a (by omega)), show p + (q - p) = q by omega]
        omega
      rw [e1]
      split at h
      · rename_i g1
        split at h
        · rename_i g2
          cases h2 : ords (tx t L) L k (q + 1) with
          | inl e => rw [h2] at h; exact absurd h (by simp)
          | inr l =>
            rw [h2] at h
            simp at h
            rw [← h, show L - q = (L - (q + 1)) + 1 by omega]
            rw [cnt_s, if_pos g2, List.length_cons, ih h2]
            omega
        · exact absurd h (by simp)
      · simp at h
        rw [← h, show L - q = 0 by omega]
        rfl
theorem s_count {d L : Nat} {M : mM} {t : Nat → Int32} {n : Int32} (h : TxM M t L) : ∀ (m k c : Nat), k + m = L → AW iM_carryOut (d + 8) 43 [some (vR 6 0 0), some (vI n), some (vI (nI c)), some (vI (nI k))] [] M (.inl (some (vI (nI (c + cnt (tx t L) m k))))) M 0 := by
  have h80 := h.1
  have h8 := h.2.1
  intro m
  induction m with
  | zero =>
    intro k c hk
    obtain rfl : k = L := by omega
    show AW _ _ _ _ _ _ (.inl (some (vI (nI c)))) _ _
    refine aw_iload_n k164_43 rfl ?_
    refine aw_aload_n k164_44 rfl ?_
    refine aw_getI k164_45 hC_M_carryOut fs_M_122 (by decide) ⟨rfl, rfl⟩ rfl ?_
    try simp only [h8]
    refine aw_icmp_ge 76 k164_48 (by decide) (fun c_48 => ?_) (fun c_48 => ?_)
    · refine aw_iload_n k164_76 rfl ?_
      refine aw_ireturn k164_77 hR_M_carryOut ?_ ?_
      all_goals first | rfl | exact Or.inl rfl | exact Or.inr rfl | assumption | (simp_all; done) | ((repeat' split) <;> first | rfl | (simp only [Int32.lt_iff_toInt_lt, Int32.le_iff_toInt_le, Int64.lt_iff_toInt_lt, Int64.le_iff_toInt_le] at *; omega) | (simp_all; done))
    · exact absurd (Int32.le_refl _) c_48
  | succ m ih =>
    intro k c hk
    have hcc : (nI k).toNatClampNeg = k := nI_clamp (by omega)
    have hin : vp_in (nI k) 80 := vp_in_nI (by omega) (by decide)
    have hv : M (13, 0, 4) k = tx t L k := by rw [h.2.2 k (by omega), tx_at (by omega)]
    by_cases g : tx t L k = 59
    · have er : c + cnt (tx t L) (m + 1) k = (c + 1) + cnt (tx t L) m (k + 1) := by
        rw [cnt_s, if_pos g]
        omega
      rw [er]
      have i9 := ih (k + 1) (c + 1) (by omega)
      refine aw_iload_n k164_43 rfl ?_
      refine aw_aload_n k164_44 rfl ?_
      refine aw_getI k164_45 hC_M_carryOut fs_M_122 (by decide) ⟨rfl, rfl⟩ rfl ?_
      try simp only [h8, hcc, hv]
      refine aw_icmp_ge 76 k164_48 (by decide) (fun c_48 => ?_) (fun c_48 => ?_)
      · exact absurd (nI_le_of c_48) (by omega)
      · refine aw_iload_n k164_51 rfl ?_
        refine aw_aload_n k164_52 rfl ?_
        refine aw_getR k164_53 hC_M_carryOut fs_M_22 (by decide) ⟨rfl, rfl⟩ rfl ?_
        try simp only [h8, hcc, hv]
        refine aw_iload_n k164_56 rfl ?_
        refine aw_iaload k164_57 (by first | exact ⟨rfl, rfl⟩ | exact ⟨by assumption, rfl⟩ | exact ⟨by assumption, by assumption⟩ | exact ⟨rfl, by decide⟩ | exact ⟨by assumption, by decide⟩ | exact ⟨by decide, rfl⟩ | exact ⟨by decide, by decide⟩ | exact ⟨by decide, by assumption⟩ | assumption) (by first | rfl | assumption) (by first | rfl | assumption) hin ?_
        try simp only [h8, hcc, hv]
        refine aw_bipush (v := 59) k164_58 (by decide) ?_
        refine aw_icmp_ne 67 k164_60 (by decide) (fun c_60 => ?_) (fun c_60 => ?_)
        · exact absurd g c_60
        · refine aw_iconst (v := 1) k164_63 (by decide) ?_
          refine aw_goto (t := 68) k164_64 (by decide) ?_
          refine aw_iadd k164_68 ?_
          rw [nI_1 c]
          refine aw_istore_n k164_69 (Nat.le_of_ble_eq_true rfl) rfl ?_
          refine aw_iinc (y := 1) k164_70 rfl (by decide) rfl ?_
          try simp only [h8, hcc, hv]
          rw [nI_1 k]
          refine aw_goto (t := 43) k164_73 (by decide) ?_
          exact i9
    · have er : c + cnt (tx t L) (m + 1) k = c + cnt (tx t L) m (k + 1) := by
        rw [show cnt (tx t L) (m + 1) k = (if tx t L k = 59 then 1 else 0) + cnt (tx t L) m (k + 1) from rfl, if_neg g]
        omega
      rw [er]
      have i9 := ih (k + 1) c (by omega)
      have z0 : nI c + 0 = nI c := by grind
      refine aw_iload_n k164_43 rfl ?_
      refine aw_aload_n k164_44 rfl ?_
      refine aw_getI k164_45 hC_M_carryOut fs_M_122 (by decide) ⟨rfl, rfl⟩ rfl ?_
      try simp only [h8, hcc, hv]
      refine aw_icmp_ge 76 k164_48 (by decide) (fun c_48 => ?_) (fun c_48 => ?_)
      · exact absurd (nI_le_of c_48) (by omega)
      · refine aw_iload_n k164_51 rfl ?_
        refine aw_aload_n k164_52 rfl ?_
        refine aw_getR k164_53 hC_M_carryOut fs_M_22 (by decide) ⟨rfl, rfl⟩ rfl ?_
        try simp only [h8, hcc, hv]
        refine aw_iload_n k164_56 rfl ?_
        refine aw_iaload k164_57 (by first | exact ⟨rfl, rfl⟩ | exact ⟨by assumption, rfl⟩ | exact ⟨by assumption, by assumption⟩ | exact ⟨rfl, by decide⟩ | exact ⟨by assumption, by decide⟩ | exact ⟨by decide, rfl⟩ | exact ⟨by decide, by decide⟩ | exact ⟨by decide, by assumption⟩ | assumption) (by first | rfl | assumption) (by first | rfl | assumption) hin ?_
        try simp only [h8, hcc, hv]
        refine aw_bipush (v := 59) k164_58 (by decide) ?_
        refine aw_icmp_ne 67 k164_60 (by decide) (fun c_60 => ?_) (fun c_60 => ?_)
        · refine aw_iconst (v := 0) k164_67 (by decide) ?_
          refine aw_iadd k164_68 ?_
          rw [z0]
          refine aw_istore_n k164_69 (Nat.le_of_ble_eq_true rfl) rfl ?_
          refine aw_iinc (y := 1) k164_70 rfl (by decide) rfl ?_
          try simp only [h8, hcc, hv]
          rw [nI_1 k]
          refine aw_goto (t := 43) k164_73 (by decide) ?_
          exact i9
        · exact absurd c_60 g
theorem m_carryOut {d L : Nat} {M : mM} {f t : Nat → Int32} {hs : List (Nat → Int32)} {sn : Option (Nat → Int32)} {l : List mOrd} (h : MR M f hs sn t L) (hS : ShF f) (hB : BdF f) (hp : pars t L = .inr l) (hr9 : (runO f l 0).1 = -1) : ∃ M', CT iM_carryOut (d + 8) [vR 6 0 0] M (.inl (some (vI (nI l.length)))) M' 0 ∧ mGood M M' (runO f l 0).2 ((f :: hs).take 4) sn t L := by
  have hW := s_M_wrong (d := d + 3) h.tx
  have hr : resF (pars t L) = -1 := by rw [hp]; rfl
  rw [hr] at hW
  obtain ⟨M1, hA, hR, hF, h0⟩ := m_stops (d := d) h hS hB hp
  rw [hr9] at hA
  obtain ⟨M2, hA2, hR2, hF2, h02⟩ := m_rec (d := d + 7) (hR.thr (x := 0))
  have hD := s_M_doesAll (d := d + 1) hR2.tx hS hB hp
  rw [mS_of hR2.1] at hD
  have hlen := ords_len hp
  have hcn := s_count (d := d) (n := (runO f l 0).1) (hR2.tx.s (g := (runO f l 0).2)) L 0 1 (by omega)
  rw [Nat.sub_zero] at hlen
  rw [← hlen] at hcn
  refine ⟨_, ct_go hL_M_carryOut rfl ?_, hR2.set, (hF.tr MFr.u6).tr (hF2.tr MFr.s), by rw [mS_ne (by simp), h02]; simp [mUp_at]⟩
  refine aw_aload_n k164_0 rfl ?_
  refine aw_aload_n k164_1 rfl ?_
  refine aw_callV0 k164_2 hC_M_carryOut ok_M_wrong sv_M_137 hH_M_wrong ⟨rfl, rfl⟩ (by decide) hN_M_wrong (by rw [hL_M_wrong]; exact Nat.le_of_ble_eq_true rfl) (Nat.le_of_ble_eq_true rfl) hW ?_
  refine aw_iconst (v := (-1)) k164_5 (by decide) ?_
  refine aw_icmp_ne 17 k164_6 (by decide) (fun c_6 => ?_) (fun c_6 => ?_)
  · exact absurd rfl c_6
  · refine aw_aload_n k164_9 rfl ?_
    refine aw_callV0 k164_10 hC_M_carryOut ok_M_stops sv_M_158 hH_M_stops ⟨rfl, rfl⟩ (by decide) hN_M_stops (by rw [hL_M_stops]; exact Nat.le_of_ble_eq_true rfl) (Nat.le_of_ble_eq_true rfl) hA ?_
    refine aw_iconst (v := (-1)) k164_13 (by decide) ?_
    refine aw_icmp_eq 21 k164_14 (by decide) (fun c_14 => ?_) (fun c_14 => ?_)
    · refine aw_iconst (v := 0) k164_21 (by decide) ?_
      refine aw_callV1 k164_22 hC_M_carryOut ok_M_holds sv_M_102 hH_M_holds ⟨rfl, rfl⟩ (by decide) hN_M_holds (by rw [hL_M_holds]; exact Nat.le_of_ble_eq_true rfl) (Nat.le_of_ble_eq_true rfl) holds_t ?_
      refine aw_if_ne 30 k164_25 (by decide) (fun c_25 => ?_) (fun c_25 => ?_)
      · refine aw_aload_n k164_30 rfl ?_
        refine aw_callV0v k164_31 hC_M_carryOut ok_M_records sv_M_105 hH_M_records ⟨rfl, rfl⟩ (by decide) hN_M_records (by rw [hL_M_records]; exact Nat.le_of_ble_eq_true rfl) (Nat.le_of_ble_eq_true rfl) hA2 ?_
        refine aw_aload_n k164_34 rfl ?_
        refine aw_callV0 k164_35 hC_M_carryOut ok_M_doesAll sv_M_152 hH_M_doesAll ⟨rfl, rfl⟩ (by decide) hN_M_doesAll (by rw [hL_M_doesAll]; exact Nat.le_of_ble_eq_true rfl) (Nat.le_of_ble_eq_true rfl) hD ?_
        refine aw_istore_n k164_38 (Nat.le_of_ble_eq_true rfl) rfl ?_
        refine aw_iconst (v := 1) k164_39 (by decide) ?_
        refine aw_istore_n k164_40 (Nat.le_of_ble_eq_true rfl) rfl ?_
        refine aw_iconst (v := 0) k164_41 (by decide) ?_
        refine aw_istore_n k164_42 (Nat.le_of_ble_eq_true rfl) rfl ?_
        exact hcn
      · exact absurd (show (1 : Int32) = 0 from c_25) (by decide)
    · exact absurd rfl c_14
