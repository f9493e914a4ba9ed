/-! THE ORDERS ON A STATE, one after another -/
def runO (f : Nat → Int32) : List mOrd → Nat → Int32 × (Nat → Int32)
  | [], _ => (-1, f)
  | o :: os, i => match doO f o with
    | none => (nI i, f)
    | some f' => runO f' os (i + 1)
def okK (o : mOrd) : Prop := o.1 = 0 ∨ o.1 = 1 ∨ o.1 = 2 ∨ o.1 = 3
theorem one_ok {t : Nat → Int32} {L p q : Nat} {o : mOrd} (h : one (tx t L) p = .inr (q, o)) : okK o ∧ p < L := by
  have hp : ∀ c, tx t L p = c → ¬ c = 0 → p < L := fun c hc h0 => tx_lt (fun e => h0 (hc.symm.trans e))
  unfold one at h
  split at h
  · rename_i g
    have hpL : p < L := tx_lt (fun e => by rw [e] at g; exact absurd g (by decide))
    unfold oneLeg at h
    split at h
    · exact absurd h (by simp)
    · split at h
      · exact absurd h (by simp)
      · split at h
        · exact absurd h (by simp)
        · simp at h
          rw [← h.2]
          exact ⟨Or.inl rfl, hpL⟩
  · split at h
    · rename_i g
      split at h
      · simp at h
        rw [← h.2]
        exact ⟨Or.inr (Or.inr (Or.inr rfl)), hp _ g (by decide)⟩
      · exact absurd h (by simp)
    · split at h
      · rename_i g
        simp at h
        rw [← h.2]
        exact ⟨Or.inr (Or.inl rfl), hp _ g (by decide)⟩
      · split at h
        · rename_i g
          simp at h
          rw [← h.2]
          exact ⟨Or.inr (Or.inr (Or.inl rfl)), hp _ g (by decide)⟩
        · exact absurd h (by simp)
theorem ords_ok {t : Nat → Int32} {L : Nat} : ∀ {k p : Nat} {os : List mOrd}, ords (tx t L) L k p = .inr os → os.length + p ≤ L ∧ ∀ o ∈ os, okK o := by
  intro k
  induction k with
  | zero => intro p os h; exact absurd h (by simp [ords])
  | succ k ih =>
    intro p os h
    unfold ords at h
    cases h1 : one (tx t L) p with
    | inl e => rw [h1] at h; exact absurd h (by simp)
    | inr qo =>
      obtain ⟨q, o⟩ := qo
      have hok := one_ok h1
      have hlt := one_lt h1
      rw [h1] at h
      simp only at h
      split at h
      · split at h
        · cases h2 : ords (tx t L) L k (q + 1) with
          | inl e => rw [h2] at h; exact absurd h (by simp)
          | inr l =>
            rw [h2] at h
            simp at h
            have := ih h2
            rw [← h]
            refine ⟨by simp; omega, fun o' ho' => ?_⟩
            rcases List.mem_cons.mp ho' with e | e
            · rw [e]; exact hok.1
            · exact this.2 o' e
        · exact absurd h (by simp)
      · simp at h
        rw [← h]
        refine ⟨by simp; omega, fun o' ho' => ?_⟩
        rw [List.mem_singleton.mp ho']
        exact hok.1
theorem rowO.fr {M M' : mM} {i : Nat} {o : mOrd} {s : Nat} (hF : Fr s M M') (h : rowO M i o) : rowO M' i o := by
  unfold rowO at *
  have e : ∀ j, M' (12, 0, j) = M (12, 0, j) := fun j => hF _ (fun q => by have := q.2; simp at this)
  simp only [e]
  exact h
theorem s_O_firstFailureOn {d s : Nat} {M : mM} {f : Nat → Int32} {os : List mOrd} (hl : os.length ≤ 80) (hk : ∀ o ∈ os, okK o) (ho : ∀ i o, os[i]? = some o → rowO M i o) (h7 : M (2, 0, 0) 7 = nI os.length) (hR : RelS M s f) : ∃ M', CT iO_firstFailureOn (d + 7) [vR 2 0 0, vR 3 s 0] M (.inl (some (vI (runO f os 0).1))) M' 0 ∧ RelS M' s (runO f os 0).2 ∧ Fr s M M' := by
  have hs := hR.1
  have loop : ∀ (l : List mOrd) (i : Nat) (g : Nat → Int32) (M1 : mM), i + l.length = os.length → (∀ j, l[j]? = os[i + j]?) → RelS M1 s g → Fr s M M1 → ∃ M', AW iO_firstFailureOn (d + 7) 2 [some (vR 2 0 0), some (vR 3 s 0), some (vI (nI i))] [] M1 (.inl (some (vI (runO g l i).1))) M' 0 ∧ RelS M' s (runO g l i).2 ∧ Fr s M M' := by
    intro l
    induction l with
    | nil =>
      intro i g M1 hi hj hR1 hF
      have e7 : M1 (2, 0, 0) 7 = nI i := by rw [hF _ (fun q => by have := q.2; simp at this), h7]; simp at hi; rw [hi]
      refine ⟨M1, ?_, hR1, hF⟩
      simp at hi
      show AW iO_firstFailureOn (d + 7) 2 _ [] M1 (.inl (some (vI (-1)))) M1 0
      refine aw_iload_n k43_2 rfl ?_
      refine aw_aload_n k43_3 rfl ?_
      refine aw_getI k43_4 hC_O_firstFailureOn fs_O_38 (by decide) ⟨rfl, rfl⟩ rfl ?_
      try simp only [e7]
      refine aw_icmp_ge 33 k43_7 (by decide) (fun c_7 => ?_) (fun c_7 => ?_)
      · refine aw_iconst (v := (-1)) k43_33 (by decide) ?_
        refine aw_ireturn k43_34 hR_O_firstFailureOn ?_ ?_
        all_goals first | rfl | exact Or.inl rfl | exact Or.inr rfl | assumption | (simp_all; done) | ((repeat' split) <;> first | rfl | (simp only [Int32.lt_iff_toInt_lt, Int32.le_iff_toInt_le, Int64.lt_iff_toInt_lt, Int64.le_iff_toInt_le] at *; omega) | (simp_all; done))
      · exact absurd (nI_leI (by omega) (by omega) |>.mpr (Nat.le_refl _)) c_7
    | cons o l ih =>
      intro i g M1 hi hj hR1 hF
      have e7 : M1 (2, 0, 0) 7 = nI os.length := by rw [hF _ (fun q => by have := q.2; simp at this), h7]
      simp at hi
      have hi80 : i < 80 := by omega
      have hoi : os[i]? = some o := by have := hj 0; simp at this; exact this.symm
      have hro := (ho i o hoi).fr hF
      obtain ⟨M2, hA, hR2, hF2⟩ := s_O_isCarriedOut (d := d) hi80 hR1 hro (hk o (List.mem_of_getElem? hoi))
      cases hd : doO g o with
      | none =>
        rw [hd] at hA hR2
        have er : runO g (o :: l) i = (nI i, g) := by unfold runO; rw [hd]
        rw [er]
        refine ⟨M2, ?_, hR2, hF.tr hF2⟩
        refine aw_iload_n k43_2 rfl ?_
        refine aw_aload_n k43_3 rfl ?_
        refine aw_getI k43_4 hC_O_firstFailureOn fs_O_38 (by decide) ⟨rfl, rfl⟩ rfl ?_
        try simp only [e7]
        refine aw_icmp_ge 33 k43_7 (by decide) (fun c_7 => ?_) (fun c_7 => ?_)
        · exact absurd (nI_le_of c_7) (by omega)
        · refine aw_iload_n k43_10 rfl ?_
          refine aw_bipush (v := 80) k43_11 (by decide) ?_
          refine aw_icmp_ge 33 k43_13 (by decide) (fun c_13 => ?_) (fun c_13 => ?_)
          · exact absurd (nI_le_of (a := 80) c_13) (by omega)
          · refine aw_aload_n k43_16 rfl ?_
            refine aw_iload_n k43_17 rfl ?_
            refine aw_aload_n k43_18 rfl ?_
            refine aw_callV2 k43_19 hC_O_firstFailureOn ok_O_isCarriedOut sv_O_86 hH_O_isCarriedOut ⟨rfl, rfl⟩ (by decide) hN_O_isCarriedOut (by rw [hL_O_isCarriedOut]; exact Nat.le_of_ble_eq_true rfl) (Nat.le_of_ble_eq_true rfl) hA ?_
            refine aw_if_ne 27 k43_22 (by decide) (fun c_22 => ?_) (fun c_22 => ?_)
            · exact absurd rfl c_22
            · refine aw_iload_n k43_25 rfl ?_
              refine aw_ireturn k43_26 hR_O_firstFailureOn ?_ ?_
              all_goals first | rfl | exact Or.inl rfl | exact Or.inr rfl | assumption | (simp_all; done) | ((repeat' split) <;> first | rfl | (simp only [Int32.lt_iff_toInt_lt, Int32.le_iff_toInt_le, Int64.lt_iff_toInt_lt, Int64.le_iff_toInt_le] at *; omega) | (simp_all; done))
      | some g2 =>
        rw [hd] at hA hR2
        have er : runO g (o :: l) i = runO g2 l (i + 1) := by rw [runO]; rw [hd]
        rw [er]
        obtain ⟨M', hG, hp⟩ := ih (i + 1) g2 M2 (by omega) (fun j => by have := hj (j + 1); simp at this; rw [this]; congr 1; omega) hR2 (hF.tr hF2)
        refine ⟨M', ?_, hp⟩
        refine aw_iload_n k43_2 rfl ?_
        refine aw_aload_n k43_3 rfl ?_
        refine aw_getI k43_4 hC_O_firstFailureOn fs_O_38 (by decide) ⟨rfl, rfl⟩ rfl ?_
        try simp only [e7]
        refine aw_icmp_ge 33 k43_7 (by decide) (fun c_7 => ?_) (fun c_7 => ?_)
        · exact absurd (nI_le_of c_7) (by omega)
        · refine aw_iload_n k43_10 rfl ?_
          refine aw_bipush (v := 80) k43_11 (by decide) ?_
          refine aw_icmp_ge 33 k43_13 (by decide) (fun c_13 => ?_) (fun c_13 => ?_)
          · exact absurd (nI_le_of (a := 80) c_13) (by omega)
          · refine aw_aload_n k43_16 rfl ?_
            refine aw_iload_n k43_17 rfl ?_
            refine aw_aload_n k43_18 rfl ?_
            refine aw_callV2 k43_19 hC_O_firstFailureOn ok_O_isCarriedOut sv_O_86 hH_O_isCarriedOut ⟨rfl, rfl⟩ (by decide) hN_O_isCarriedOut (by rw [hL_O_isCarriedOut]; exact Nat.le_of_ble_eq_true rfl) (Nat.le_of_ble_eq_true rfl) hA ?_
            refine aw_if_ne 27 k43_22 (by decide) (fun c_22 => ?_) (fun c_22 => ?_)
            · refine aw_iinc (y := 1) k43_27 rfl (by decide) rfl ?_
              try simp only [e7]
              rw [nI_1]
              refine aw_goto (t := 2) k43_30 (by decide) ?_
              exact hG
            · exact absurd (show (1 : Int32) = 0 from c_22) (by decide)
  obtain ⟨M', hG, hp⟩ := loop os 0 f M (by omega) (fun j => by simp) hR Fr.rf
  refine ⟨M', ct_go hL_O_firstFailureOn rfl ?_, hp⟩
  refine aw_iconst (v := 0) k43_0 (by decide) ?_
  refine aw_istore_n k43_1 (Nat.le_of_ble_eq_true rfl) rfl ?_
  exact hG
/-! THE OFFICE: what it holds -/
def CR (M : mM) (f : Nat → Int32) (hs : List (Nat → Int32)) (sn : Option (Nat → Int32)) (t : Nat → Int32) (L : Nat) : Prop :=
  RelS M 0 f ∧ (∃ a, a < 4 ∧ M (1, 0, 0) 1 = nI a ∧ M (1, 0, 0) 2 = nI hs.length ∧ hs.length ≤ 4 ∧ ∀ i g, hs[i]? = some g → RelS M (3 + (a + 3 - i) % 4) g) ∧
  (M (5, 0, 0) 5 = (if sn.isSome = true then 1 else 0) ∧ ∀ g, sn = some g → RelS M 2 g) ∧ L ≤ 80 ∧ M (2, 0, 0) 1 = nI L ∧ ∀ j, j < L → M (12, 0, 0) j = t j
/-- the law's side has not changed -/
def CFr (M M' : mM) : Prop := ∀ r : mRef, (r.1 = 6 ∨ 13 ≤ r.1) → M' r = M r
theorem CFr.rf {M : mM} : CFr M M := fun _ _ => rfl
theorem CFr.tr {M M1 M2 : mM} (h1 : CFr M M1) (h2 : CFr M1 M2) : CFr M M2 := fun r h => (h2 r h).trans (h1 r h)
theorem Fr.c {s : Nat} {M M' : mM} (h : Fr s M M') : CFr M M' := fun r hr => h r (fun q => by have := q.2; omega)
theorem OFr.c {M M' : mM} (h : OFr M M') : CFr M M' := fun r hr => h.1 r (fun e => by subst e; simp at hr) (fun q => by omega)
/-- the trial alone -/
theorem CR.trial {M M' : mM} {f t : Nat → Int32} {hs : List (Nat → Int32)} {sn : Option (Nat → Int32)} {L : Nat} (h : CR M f hs sn t L) (hF : Fr 1 M M') : CR M' f hs sn t L := by
  obtain ⟨h1, ⟨a, a1, a2, a3, a4, a5⟩, ⟨b1, b2⟩, c1, c2, c3⟩ := h
  have e : ∀ k, k ≠ 0 → k ≠ 3 → k ≠ 4 → k ≠ 7 → k ≠ 8 → k ≠ 9 → ∀ i j, M' (k, i, j) = M (k, i, j) := fun k p1 p2 p3 p4 p5 p6 i j => hF _ (fun q => by have := q.2; omega)
  have e1 := e 1 (by decide) (by decide) (by decide) (by decide) (by decide) (by decide)
  have e5 := e 5 (by decide) (by decide) (by decide) (by decide) (by decide) (by decide)
  have e2 := e 2 (by decide) (by decide) (by decide) (by decide) (by decide) (by decide)
  have e12 := e 12 (by decide) (by decide) (by decide) (by decide) (by decide) (by decide)
  refine ⟨h1.fr hF (by decide), ⟨a, a1, by rw [e1]; exact a2, by rw [e1]; exact a3, a4, fun i g hg => (a5 i g hg).fr hF (by omega)⟩, ⟨by rw [e5]; exact b1, fun g hg => (b2 g hg).fr hF (by decide)⟩, c1, by rw [e2]; exact c2, fun j hj => by rw [e12]; exact c3 j hj⟩
theorem CR.orders {M M' : mM} {f t : Nat → Int32} {hs : List (Nat → Int32)} {sn : Option (Nat → Int32)} {L : Nat} (h : CR M f hs sn t L) (hF : OFr M M') : CR M' f hs sn t L := by
  obtain ⟨h1, ⟨a, a1, a2, a3, a4, a5⟩, ⟨b1, b2⟩, c1, c2, c3⟩ := h
  have e : ∀ k, k ≠ 2 → k ≠ 12 → ∀ i j, M' (k, i, j) = M (k, i, j) := fun k p1 p2 i j => hF.1 _ (by simp [p1]) (by simp [p2])
  have hin : ∀ s r, InS s r → M' r = M r := fun s r hr => hF.1 r (fun q => by subst q; have := hr.2; simp at this) (fun q => by have := hr.2; omega)
  have e1 := e 1 (by decide) (by decide)
  have e5 := e 5 (by decide) (by decide)
  refine ⟨h1.congr (hin _), ⟨a, a1, by rw [e1]; exact a2, by rw [e1]; exact a3, a4, fun i g hg => (a5 i g hg).congr (hin _)⟩, ⟨by rw [e5]; exact b1, fun g hg => (b2 g hg).congr (hin _)⟩, c1, hF.2.trans c2, fun j hj => by rw [hF.1 _ (by simp) (by simp)]; exact c3 j hj⟩
theorem s_A_beginTrial {d L : Nat} {M : mM} {f t : Nat → Int32} {hs : List (Nat → Int32)} {sn : Option (Nat → Int32)} (h : CR M f hs sn t L) : ∃ M', CT iA_beginTrial (d + 3) [vR 5 0 0] M (.inl none) M' 0 ∧ CR M' f hs sn t L ∧ RelS M' 1 f ∧ CFr M M' := by
  obtain ⟨M', hA, hR, hF⟩ := s_S_copyFrom (d := d) (s := 1) (by decide) h.1 (by decide)
  refine ⟨M', ct_go hL_A_beginTrial rfl ?_, h.trial hF, hR, hF.c⟩
  refine aw_aload_n k105_0 rfl ?_
  refine aw_getR k105_1 hC_A_beginTrial fs_A_16 (by decide) ⟨rfl, rfl⟩ rfl ?_
  refine aw_aload_n k105_4 rfl ?_
  refine aw_getR k105_5 hC_A_beginTrial fs_A_10 (by decide) ⟨rfl, rfl⟩ rfl ?_
  refine aw_callV1v k105_8 hC_A_beginTrial ok_S_copyFrom sv_A_143 hH_S_copyFrom ⟨(by first | assumption | decide), rfl⟩ (by decide) hN_S_copyFrom (by rw [hL_S_copyFrom]; exact Nat.le_of_ble_eq_true rfl) (Nat.le_of_ble_eq_true rfl) hA ?_
  refine aw_return k105_11 hR_A_beginTrial ?_
  all_goals first | rfl | exact Or.inl rfl | exact Or.inr rfl | assumption | (simp_all; done) | ((repeat' split) <;> first | rfl | (simp only [Int32.lt_iff_toInt_lt, Int32.le_iff_toInt_le, Int64.lt_iff_toInt_lt, Int64.le_iff_toInt_le] at *; omega) | (simp_all; done))
theorem s_A_settleTrial2 {d L : Nat} {M : mM} {f g t : Nat → Int32} {hs : List (Nat → Int32)} {sn : Option (Nat → Int32)} (h : CR M f hs sn t L) (hg : RelS M 1 g) : ∃ M', CT iA_settleTrial (d + 4) [vR 5 0 0] M (.inl none) M' 0 ∧ CR M' g ((f :: hs).take 4) sn t L ∧ CFr M M' ∧ M' (2, 0, 0) = M (2, 0, 0) := by
  obtain ⟨h1, ⟨a, a1, a2, a3, a4, a5⟩, ⟨b1, b2⟩, c1, c2, c3⟩ := h
  obtain ⟨M1, hA, hR1, k1, k2, hF1⟩ := s_H_remember (d := d) a1 a4 a2 a3 h1 (by decide)
  have hin : ∀ s, s ≠ 3 + a → ∀ r, InS s r → M1 r = M r := fun s hs r hr => hF1 r (fun q => by subst q; have := hr.2; simp at this) (fun q => hs (hr.1.symm.trans q.1))
  obtain ⟨M2, hA2, hR2, hF2⟩ := s_S_copyFrom (d := d + 1) (s := 0) (M := M1) (by decide) (hg.congr (hin 1 (by omega))) (by decide)
  have e : ∀ k, k ≠ 0 → k ≠ 1 → k ≠ 3 → k ≠ 4 → k ≠ 7 → k ≠ 8 → k ≠ 9 → ∀ i j, M2 (k, i, j) = M (k, i, j) := fun k p1 p1' p2 p3 p4 p5 p6 i j => (hF2 _ (fun q => by have := q.2; omega)).trans (hF1 _ (by simp [p1']) (fun q => by have := q.2; omega))
  have e5 := e 5 (by decide) (by decide) (by decide) (by decide) (by decide) (by decide) (by decide)
  have e2 := e 2 (by decide) (by decide) (by decide) (by decide) (by decide) (by decide) (by decide)
  have e12 := e 12 (by decide) (by decide) (by decide) (by decide) (by decide) (by decide) (by decide)
  have e1 : M2 (1, 0, 0) = M1 (1, 0, 0) := hF2 _ (fun q => by have := q.2; simp at this)
  have hlen : ((f :: hs).take 4).length = min (hs.length + 1) 4 := by simp; omega
  refine ⟨M2, ct_go hL_A_settleTrial rfl ?_, ⟨hR2, ⟨(a + 1) % 4, by omega, by rw [e1]; exact k1, by rw [e1, hlen]; exact k2, by omega, fun i g' hg' => ?_⟩, ⟨by rw [e5]; exact b1, fun g' hg' => ((b2 g' hg').congr (hin 2 (by omega))).fr hF2 (by decide)⟩, c1, by rw [e2]; exact c2, fun j hj => by rw [e12]; exact c3 j hj⟩, fun r hr => (hF2 r (fun q => by have := q.2; omega)).trans (hF1 r (fun q => by subst q; simp at hr) (fun q => by have := q.2; omega)), e2 0 0⟩
  · refine aw_aload_n k106_0 rfl ?_
    refine aw_getR k106_1 hC_A_settleTrial fs_A_25 (by decide) ⟨rfl, rfl⟩ rfl ?_
    refine aw_aload_n k106_4 rfl ?_
    refine aw_getR k106_5 hC_A_settleTrial fs_A_10 (by decide) ⟨rfl, rfl⟩ rfl ?_
    refine aw_callV1v k106_8 hC_A_settleTrial ok_H_remember sv_A_247 hH_H_remember ⟨rfl, rfl⟩ (by decide) hN_H_remember (by rw [hL_H_remember]; exact Nat.le_of_ble_eq_true rfl) (Nat.le_of_ble_eq_true rfl) hA ?_
    refine aw_aload_n k106_11 rfl ?_
    refine aw_getR k106_12 hC_A_settleTrial fs_A_10 (by decide) ⟨rfl, rfl⟩ rfl ?_
    refine aw_aload_n k106_15 rfl ?_
    refine aw_getR k106_16 hC_A_settleTrial fs_A_16 (by decide) ⟨rfl, rfl⟩ rfl ?_
    refine aw_callV1v k106_19 hC_A_settleTrial ok_S_copyFrom sv_A_143 hH_S_copyFrom ⟨(by first | assumption | decide), rfl⟩ (by decide) hN_S_copyFrom (by rw [hL_S_copyFrom]; exact Nat.le_of_ble_eq_true rfl) (Nat.le_of_ble_eq_true rfl) hA2 ?_
    refine aw_return k106_22 hR_A_settleTrial ?_
    all_goals first | rfl | exact Or.inl rfl | exact Or.inr rfl | assumption | (simp_all; done) | ((repeat' split) <;> first | rfl | (simp only [Int32.lt_iff_toInt_lt, Int32.le_iff_toInt_le, Int64.lt_iff_toInt_lt, Int64.le_iff_toInt_le] at *; omega) | (simp_all; done))
  · have hi4 : i < 4 := by
      have := (List.getElem?_eq_some_iff.mp hg').1
      omega
    rw [List.getElem?_take_of_lt hi4] at hg'
    cases i with
    | zero =>
      simp at hg'
      subst hg'
      have e3 : 3 + ((a + 1) % 4 + 3 - 0) % 4 = 3 + a := by omega
      rw [e3]
      exact hR1.fr hF2 (by omega)
    | succ i =>
      simp at hg'
      have e3 : 3 + ((a + 1) % 4 + 3 - (i + 1)) % 4 = 3 + (a + 3 - i) % 4 := by omega
      rw [e3]
      exact ((a5 i g' hg').congr (hin _ (by omega))).fr hF2 (by omega)
theorem s_A_settleTrial {d L : Nat} {M : mM} {f g t : Nat → Int32} {hs : List (Nat → Int32)} {sn : Option (Nat → Int32)} (h : CR M f hs sn t L) (hg : RelS M 1 g) : ∃ M', CT iA_settleTrial (d + 4) [vR 5 0 0] M (.inl none) M' 0 ∧ CR M' g ((f :: hs).take 4) sn t L ∧ CFr M M' := by
  obtain ⟨M', h1, h2, h3, -⟩ := s_A_settleTrial2 (d := d) h hg
  exact ⟨M', h1, h2, h3⟩
