/-! THE OFFICE: what it holds -/
def CR (M : mM) (f : Nat → Int32) (hs : List (Nat → Int32)) (sn : Option (Nat → Int32)) (t : Nat → Int32) (L : Nat) : Prop :=
  RelS M 0 f ∧ (∃ a, a < 4 ∧ M (1, 0, 0) 1 = nI a ∧ M (1, 0, 0) 2 = nI hs.length ∧ hs.length ≤ 4 ∧ ∀ i g, hs[i]? = some g → RelS M (3 + (a + 3 - i) % 4) g) ∧
  (M (5, 0, 0) 5 = (if sn.isSome = true then 1 else 0) ∧ ∀ g, sn = some g → RelS M 2 g) ∧ L ≤ 80 ∧ M (2, 0, 0) 1 = nI L ∧ ∀ j, j < L → M (12, 0, 0) j = t j
/-- the law's side has not changed -/
def CFr (M M' : mM) : Prop := ∀ r : mRef, (r.1 = 6 ∨ 13 ≤ r.1) → M' r = M r
theorem CFr.rf {M : mM} : CFr M M := fun _ _ => rfl
theorem CFr.tr {M M1 M2 : mM} (h1 : CFr M M1) (h2 : CFr M1 M2) : CFr M M2 := fun r h => (h2 r h).trans (h1 r h)
theorem Fr.c {s : Nat} {M M' : mM} (h : Fr s M M') : CFr M M' := fun r hr => h r (fun q => by have := q.2; omega)
/-- the trial alone -/
theorem CR.trial {M M' : mM} {f t : Nat → Int32} {hs : List (Nat → Int32)} {sn : Option (Nat → Int32)} {L : Nat} (h : CR M f hs sn t L) (hF : Fr 1 M M') : CR M' f hs sn t L := by
  obtain ⟨h1, ⟨a, a1, a2, a3, a4, a5⟩, ⟨b1, b2⟩, c1, c2, c3⟩ := h
  have e : ∀ k, k ≠ 0 → k ≠ 3 → k ≠ 4 → k ≠ 7 → k ≠ 8 → k ≠ 9 → ∀ i j, M' (k, i, j) = M (k, i, j) := fun k p1 p2 p3 p4 p5 p6 i j => hF _ (fun q => by have := q.2; omega)
  have e1 := e 1 (by decide) (by decide) (by decide) (by decide) (by decide) (by decide)
  have e5 := e 5 (by decide) (by decide) (by decide) (by decide) (by decide) (by decide)
  have e2 := e 2 (by decide) (by decide) (by decide) (by decide) (by decide) (by decide)
  have e12 := e 12 (by decide) (by decide) (by decide) (by decide) (by decide) (by decide)
  refine ⟨h1.fr hF (by decide), ⟨a, a1, by rw [e1]; exact a2, by rw [e1]; exact a3, a4, fun i g hg => (a5 i g hg).fr hF (by omega)⟩, ⟨by rw [e5]; exact b1, fun g hg => (b2 g hg).fr hF (by decide)⟩, c1, by rw [e2]; exact c2, fun j hj => by rw [e12]; exact c3 j hj⟩
theorem s_A_beginTrial {d L : Nat} {M : mM} {f t : Nat → Int32} {hs : List (Nat → Int32)} {sn : Option (Nat → Int32)} (h : CR M f hs sn t L) : ∃ M', CT iA_beginTrial (d + 3) [vR 5 0 0] M (.inl none) M' 0 ∧ CR M' f hs sn t L ∧ RelS M' 1 f ∧ CFr M M' := by
  obtain ⟨M', hA, hR, hF⟩ := s_S_copyFrom (d := d) (s := 1) (by decide) h.1 (by decide)
  refine ⟨M', ct_go hL_A_beginTrial rfl ?_, h.trial hF, hR, hF.c⟩
  refine aw_aload_n k84_0 rfl ?_
  refine aw_getR k84_1 hC_A_beginTrial fs_A_16 (by decide) ⟨rfl, rfl⟩ rfl ?_
  refine aw_aload_n k84_4 rfl ?_
  refine aw_getR k84_5 hC_A_beginTrial fs_A_10 (by decide) ⟨rfl, rfl⟩ rfl ?_
  refine aw_callV1v k84_8 hC_A_beginTrial ok_S_copyFrom sv_A_143 hH_S_copyFrom ⟨(by first | assumption | decide), rfl⟩ (by decide) hN_S_copyFrom (by rw [hL_S_copyFrom]; exact Nat.le_of_ble_eq_true rfl) (Nat.le_of_ble_eq_true rfl) hA ?_
  refine aw_return k84_11 hR_A_beginTrial ?_
  all_goals first | rfl | exact Or.inl rfl | exact Or.inr rfl | assumption | (simp_all; done) | ((repeat' split) <;> first | rfl | (simp only [Int32.lt_iff_toInt_lt, Int32.le_iff_toInt_le, Int64.lt_iff_toInt_lt, Int64.le_iff_toInt_le] at *; omega) | (simp_all; done))
theorem s_A_settleTrial2 {d L : Nat} {M : mM} {f g t : Nat → Int32} {hs : List (Nat → Int32)} {sn : Option (Nat → Int32)} (h : CR M f hs sn t L) (hg : RelS M 1 g) : ∃ M', CT iA_settleTrial (d + 4) [vR 5 0 0] M (.inl none) M' 0 ∧ CR M' g ((f :: hs).take 4) sn t L ∧ CFr M M' ∧ M' (2, 0, 0) = M (2, 0, 0) := by
  obtain ⟨h1, ⟨a, a1, a2, a3, a4, a5⟩, ⟨b1, b2⟩, c1, c2, c3⟩ := h
  obtain ⟨M1, hA, hR1, k1, k2, hF1⟩ := s_H_remember (d := d) a1 a4 a2 a3 h1 (by decide)
  have hin : ∀ s, s ≠ 3 + a → ∀ r, InS s r → M1 r = M r := fun s hs r hr => hF1 r (fun q => by subst q; have := hr.2; simp at this) (fun q => hs (hr.1.symm.trans q.1))
  obtain ⟨M2, hA2, hR2, hF2⟩ := s_S_copyFrom (d := d + 1) (s := 0) (M := M1) (by decide) (hg.congr (hin 1 (by omega))) (by decide)
  have e : ∀ k, k ≠ 0 → k ≠ 1 → k ≠ 3 → k ≠ 4 → k ≠ 7 → k ≠ 8 → k ≠ 9 → ∀ i j, M2 (k, i, j) = M (k, i, j) := fun k p1 p1' p2 p3 p4 p5 p6 i j => (hF2 _ (fun q => by have := q.2; omega)).trans (hF1 _ (by simp [p1']) (fun q => by have := q.2; omega))
  have e5 := e 5 (by decide) (by decide) (by decide) (by decide) (by decide) (by decide) (by decide)
  have e2 := e 2 (by decide) (by decide) (by decide) (by decide) (by decide) (by decide) (by decide)
  have e12 := e 12 (by decide) (by decide) (by decide) (by decide) (by decide) (by decide) (by decide)
  have e1 : M2 (1, 0, 0) = M1 (1, 0, 0) := hF2 _ (fun q => by have := q.2; simp at this)
  have hlen : ((f :: hs).take 4).length = min (hs.length + 1) 4 := by simp; omega
  refine ⟨M2, ct_go hL_A_settleTrial rfl ?_, ⟨hR2, ⟨(a + 1) % 4, by omega, by rw [e1]; exact k1, by rw [e1, hlen]; exact k2, by omega, fun i g' hg' => ?_⟩, ⟨by rw [e5]; exact b1, fun g' hg' => ((b2 g' hg').congr (hin 2 (by omega))).fr hF2 (by decide)⟩, c1, by rw [e2]; exact c2, fun j hj => by rw [e12]; exact c3 j hj⟩, fun r hr => (hF2 r (fun q => by have := q.2; omega)).trans (hF1 r (fun q => by subst q; simp at hr) (fun q => by have := q.2; omega)), e2 0 0⟩
  · refine aw_aload_n k85_0 rfl ?_
    refine aw_getR k85_1 hC_A_settleTrial fs_A_25 (by decide) ⟨rfl, rfl⟩ rfl ?_
    refine aw_aload_n k85_4 rfl ?_
    refine aw_getR k85_5 hC_A_settleTrial fs_A_10 (by decide) ⟨rfl, rfl⟩ rfl ?_
    refine aw_callV1v k85_8 hC_A_settleTrial ok_H_remember sv_A_247 hH_H_remember ⟨rfl, rfl⟩ (by decide) hN_H_remember (by rw [hL_H_remember]; exact Nat.le_of_ble_eq_true rfl) (Nat.le_of_ble_eq_true rfl) hA ?_
    refine aw_aload_n k85_11 rfl ?_
    refine aw_getR k85_12 hC_A_settleTrial fs_A_10 (by decide) ⟨rfl, rfl⟩ rfl ?_
    refine aw_aload_n k85_15 rfl ?_
    refine aw_getR k85_16 hC_A_settleTrial fs_A_16 (by decide) ⟨rfl, rfl⟩ rfl ?_
    refine aw_callV1v k85_19 hC_A_settleTrial ok_S_copyFrom sv_A_143 hH_S_copyFrom ⟨(by first | assumption | decide), rfl⟩ (by decide) hN_S_copyFrom (by rw [hL_S_copyFrom]; exact Nat.le_of_ble_eq_true rfl) (Nat.le_of_ble_eq_true rfl) hA2 ?_
    refine aw_return k85_22 hR_A_settleTrial ?_
    all_goals first | rfl | exact Or.inl rfl | exact Or.inr rfl | assumption | (simp_all; done) | ((repeat' split) <;> first | rfl | (simp only [Int32.lt_iff_toInt_lt, Int32.le_iff_toInt_le, Int64.lt_iff_toInt_lt, Int64.le_iff_toInt_le] at *; omega) | (simp_all; done))
  · have hi4 : i < 4 := by
      have := (List.getElem?_eq_some_iff.mp hg').1
      omega
    rw [List.getElem?_take_of_lt hi4] at hg'
    cases i with
    | zero =>
      simp at hg'
      subst hg'
      have e3 : 3 + ((a + 1) % 4 + 3 - 0) % 4 = 3 + a := by omega
      rw [e3]
      exact hR1.fr hF2 (by omega)
    | succ i =>
      simp at hg'
      have e3 : 3 + ((a + 1) % 4 + 3 - (i + 1)) % 4 = 3 + (a + 3 - i) % 4 := by omega
      rw [e3]
      exact ((a5 i g' hg').congr (hin _ (by omega))).fr hF2 (by omega)
theorem s_A_settleTrial {d L : Nat} {M : mM} {f g t : Nat → Int32} {hs : List (Nat → Int32)} {sn : Option (Nat → Int32)} (h : CR M f hs sn t L) (hg : RelS M 1 g) : ∃ M', CT iA_settleTrial (d + 4) [vR 5 0 0] M (.inl none) M' 0 ∧ CR M' g ((f :: hs).take 4) sn t L ∧ CFr M M' := by
  obtain ⟨M', h1, h2, h3, -⟩ := s_A_settleTrial2 (d := d) h hg
  exact ⟨M', h1, h2, h3⟩
