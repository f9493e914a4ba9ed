/-! THE ORDER TEXT: the first error; the orders done one after another -/
theorem kd_pe {M0 : mM} {t : Nat → Int32} {L p q : Nat} {os : List mOrd} {M : mM} {a : Int32} (hS : St M0 os M) (ha : ¬ a = 0) (ha3 : ¬ a = 3) : PE M0 t L (os ++ [(a, 0, 0, 0)]) q (oKd M os.length a 1) := by
  unfold oKd
  refine ⟨((((hS.row (by decide) rfl).o (by decide)).o (by decide)).snoc ⟨by simp [mUp_at], fun h => absurd h ha, fun h => absurd h ha3⟩), ?_, Or.inl (by simp [mUp_at])⟩
  simp [mUp_at]
theorem go_one {d L : Nat} {res : Int32} {Post : mM → Prop} {M0 : mM} {t : Nat → Int32} (hL80 : L ≤ 80) (hL : M0 (2, 0, 0) 1 = nI L) (ht : M0 (12, 0, 0) = t) {os : List mOrd} {p : Nat} (hp : p ≤ L) (hos : os.length ≤ p) {M : mM} (hS : St M0 os M) (h7 : M (2, 0, 0) 7 = nI os.length) (h8 : M (2, 0, 0) 8 = 0) (hx : cont d res Post M0 t L os (one (tx t L) p)) : GO d res Post M p := by
  have hE : ¬ (M (2, 0, 0) 8 = 1 ∨ M (2, 0, 0) 8 = 8) := by rw [h8]; decide
  unfold one at hx
  by_cases g1 : tx t L p = 101 ∨ tx t L p = 119
  · rw [if_pos g1] at hx
    have hpL : p < L := tx_lt (fun e => by rw [e] at g1; exact absurd g1 (by decide))
    exact go_leg hL80 hL ht hpL hos hS h7 h8 g1 hx
  · rw [if_neg g1] at hx
    by_cases g2 : tx t L p = 103
    · rw [if_pos g2] at hx
      have hpL : p < L := tx_lt (fun e => by rw [e] at g2; exact absurd g2 (by decide))
      have hk80 : os.length < 80 := by omega
      refine go_step hL80 hL ht hS.1 hpL g2 (a_0 h8 (Or.inr rfl) (s_O_beginG hk80 h7)) ?_
      have hS2 : St M0 os (oKd M os.length 3 2) := ((hS.row (by decide) rfl).o (by decide)).o (by decide)
      have b7 : oKd M os.length 3 2 (2, 0, 0) 7 = nI (os.length + 1) := by simp [oKd, mUp_at]
      have b8 : oKd M os.length 3 2 (2, 0, 0) 8 = 2 := by simp [oKd, mUp_at]
      have bk : oKd M os.length 3 2 (12, 0, 1) os.length = 3 := by simp [oKd, mUp_at]
      revert hS2 b7 b8 bk
      generalize oKd M os.length 3 2 = M2
      intro hS2 b7 b8 bk
      by_cases g3 : 48 ≤ tx t L (p + 1) ∧ tx t L (p + 1) ≤ 53
      · rw [if_pos g3] at hx
        have hpL2 : p + 1 < L := tx_lt (ge_ne0 g3.1)
        refine go_step hL80 hL ht hS2.1 hpL2 rfl (a_2 b8 (Or.inr rfl) (s_O_readField hk80 b7 g3)) (hx (by omega) _ ⟨((hS2.row (by decide) rfl).o (by decide)).snoc ⟨?_, fun h => absurd (show (3 : Int32) = 0 from h) (by decide), fun _ => ?_⟩, ?_, Or.inl ?_⟩)
        · rw [← bk]; simp [mUp_at]
        · simp [mUp_at]
        · rw [mUp_at]; simp [mUp_at]; exact b7
        · simp [mUp_at]
      · rw [if_neg g3] at hx
        exact go_bad hL80 hL ht hS2.1 hpL (a_2 b8 (Or.inl rfl) (s_O_readFieldN g3)) (by rw [b8]; decide) hx.1 (hx.2 M2 hS2.1)
    · rw [if_neg g2] at hx
      by_cases g3 : tx t L p = 98
      · rw [if_pos g3] at hx
        have hpL : p < L := tx_lt (fun e => by rw [e] at g3; exact absurd g3 (by decide))
        exact go_step hL80 hL ht hS.1 hpL g3 (a_0 h8 (Or.inr rfl) (s_O_beginB (by omega) h7)) (hx hpL _ (kd_pe (p := p) hS (by decide) (by decide)))
      · rw [if_neg g3] at hx
        by_cases g4 : tx t L p = 107
        · rw [if_pos g4] at hx
          have hpL : p < L := tx_lt (fun e => by rw [e] at g4; exact absurd g4 (by decide))
          exact go_step hL80 hL ht hS.1 hpL g4 (a_0 h8 (Or.inr rfl) (s_O_beginK (by omega) h7)) (hx hpL _ (kd_pe (p := p) hS (by decide) (by decide)))
        · rw [if_neg g4] at hx
          exact go_bad hL80 hL ht hS.1 hp (a_0 h8 (Or.inl rfl) (s_O_beginN ⟨fun e => g1 (Or.inl e), fun e => g1 (Or.inr e), g3, g4, g2⟩)) hE hx.1 (hx.2 M hS.1)
theorem one_lt {t : Nat → Int32} {L p q : Nat} {o : mOrd} (h : one (tx t L) p = .inr (q, o)) : p < q := by
  unfold one at h
  split at h
  · unfold oneLeg at h
    split at h
    · exact absurd h (by simp)
    · split at h
      · exact absurd h (by simp)
      · split at h
        · exact absurd h (by simp)
        · simp at h
          have a1 : p + 1 ≤ (legE (tx t L) p).1 := by
            unfold legE num
            split
            · exact Nat.le_trans (Nat.le_succ _) numG_ge
            · exact Nat.le_refl _
          have a2 : (legE (tx t L) p).1 + 1 ≤ (legN (tx t L) p).1 := by
            unfold legN num
            split
            · exact Nat.le_trans (Nat.le_succ _) numG_ge
            · exact Nat.le_refl _
          have a3 : (legN (tx t L) p).1 + 1 ≤ (legL (tx t L) p).1 := by
            unfold legL num
            split
            · exact Nat.le_trans (Nat.le_succ _) numG_ge
            · exact Nat.le_refl _
          omega
  · split at h
    · split at h
      · simp at h; omega
      · exact absurd h (by simp)
    · split at h
      · simp at h; omega
      · split at h
        · simp at h; omega
        · exact absurd h (by simp)
def PostF (M0 : mM) (r : Nat ⊕ List mOrd) (os : List mOrd) (M : mM) : Prop := OFr M0 M ∧ ∀ l, r = .inr l → St M0 (os ++ l) M ∧ M (2, 0, 0) 7 = nI (os ++ l).length
def resF (r : Nat ⊕ List mOrd) : Int32 := match r with | .inl e => nI e | .inr _ => -1
theorem go_all {d L : Nat} {res : Int32} {Post : mM → Prop} {M0 : mM} {t : Nat → Int32} (hL80 : L ≤ 80) (hL : M0 (2, 0, 0) 1 = nI L) (ht : M0 (12, 0, 0) = t) : ∀ (k p : Nat) (os : List mOrd) (M : mM), p ≤ L → L < p + k → os.length ≤ p → St M0 os M → M (2, 0, 0) 7 = nI os.length → M (2, 0, 0) 8 = 0 → res = resF (ords (tx t L) L k p) → (∀ M', PostF M0 (ords (tx t L) L k p) os M' → Post M') → GO d res Post M p := by
  intro k
  induction k with
  | zero => intro p os M hp hk; omega
  | succ k ih =>
    intro p os M hp hk hos hS h7 h8 hr hP
    refine go_one hL80 hL ht hp hos hS h7 h8 ?_
    unfold ords at hr hP
    cases h1 : one (tx t L) p with
    | inl e =>
      rw [h1] at hr hP
      exact ⟨hr, fun M' hM' => hP M' ⟨hM', fun l hl => absurd hl (by simp)⟩⟩
    | inr qo =>
      obtain ⟨q, o⟩ := qo
      rw [h1] at hr hP
      intro hqL M2 hM2
      obtain ⟨hS2, h72, hE2⟩ := hM2
      have hpq := one_lt h1
      have hlen : (os ++ [o]).length = os.length + 1 := by simp
      by_cases e : q < L
      · simp only [if_pos e] at hr hP
        by_cases g : tx t L q = 59
        · simp only [if_pos g] at hr hP
          have hend : ∃ M3, iacc d 59 M2 1 M3 ∧ St M0 (os ++ [o]) M3 ∧ M3 (2, 0, 0) 7 = nI (os ++ [o]).length ∧ M3 (2, 0, 0) 8 = 0 := by
            refine ⟨mUp M2 (2, 0, 0) 8 0, ?_, hS2.o (by decide), by rw [← h72]; simp [mUp_at], by simp [mUp_at]⟩
            obtain h | ⟨h, hg⟩ := hE2
            · exact a_1 h (Or.inr rfl) s_O_endOrder
            · exact a_8e h (Or.inr rfl) (s_O_growNumberN rfl (by rw [← g]; exact hg)) s_O_endOrder
          obtain ⟨M3, hA, hS3, h73, h83⟩ := hend
          refine go_step hL80 hL ht hS2.1 e g hA (ih (q + 1) (os ++ [o]) M3 e (by omega) (by omega) hS3 h73 h83 ?_ (fun M' hM' => hP M' ?_))
          · rw [hr]
            cases ords (tx t L) L k (q + 1) <;> rfl
          · obtain ⟨a1, a2⟩ := hM'
            refine ⟨a1, fun l hl => ?_⟩
            cases ho : ords (tx t L) L k (q + 1) with
            | inl e => rw [ho] at hl; exact absurd hl (by simp)
            | inr l2 =>
              rw [ho] at hl
              have := a2 l2 ho
              simp at hl
              rw [← hl]
              rw [List.append_assoc] at this
              exact this
        · simp only [if_neg g] at hr hP
          have hA : iacc d (tx t L q) M2 0 M2 := by
            obtain h | ⟨h, hg⟩ := hE2
            · exact a_1 h (Or.inl rfl) (s_O_endOrderN g)
            · exact a_8e h (Or.inl rfl) (s_O_growNumberN rfl hg) (s_O_endOrderN g)
          exact go_fail hL80 hL ht hS2.1 e rfl hA hr (hP M2 ⟨hS2.1, fun l hl => absurd hl (by simp)⟩)
      · simp only [if_neg e] at hr hP
        obtain rfl : q = L := by omega
        refine go_end hL80 hL ht hS2.1 ?_ (hP M2 ⟨hS2.1, fun l hl => ?_⟩)
        · rw [if_pos (by obtain h | ⟨h, -⟩ := hE2; exact Or.inl h; exact Or.inr h)]
          exact hr
        · simp at hl
          rw [← hl]
          exact ⟨hS2, h72⟩
/-- the text of M says -/
def pars (t : Nat → Int32) (L : Nat) : Nat ⊕ List mOrd := ords (tx t L) L 81 0
theorem s_O_firstError {d L : Nat} {M : mM} (hL80 : L ≤ 80) (hL : M (2, 0, 0) 1 = nI L) : ∃ M', CT iO_firstError (d + 4) [vR 2 0 0] M (.inl (some (vI (resF (pars (M (12, 0, 0)) L))))) M' 0 ∧ OFr M M' ∧ ∀ l, pars (M (12, 0, 0)) L = .inr l → St M l M' ∧ M' (2, 0, 0) 7 = nI l.length := by
  have hS : St M [] (mUp (mUp M (2, 0, 0) 8 0) (2, 0, 0) 7 0) := by
    have : St M [] M := ⟨⟨fun _ _ _ => rfl, rfl⟩, fun i o h => absurd h (by simp)⟩
    exact (this.o (by decide)).o (by decide)
  obtain ⟨M', hG, hP⟩ := go_all (d := d) (res := resF (pars (M (12, 0, 0)) L)) (Post := PostF M (pars (M (12, 0, 0)) L) []) hL80 hL rfl 81 0 [] _ (by omega) (by omega) (Nat.le_refl 0) hS (by simp [mUp_at]; rfl) (by simp [mUp_at]) rfl (fun M' h => h)
  refine ⟨M', ct_go hL_O_firstError rfl ?_, hP.1, fun l hl => hP.2 l hl⟩
  refine aw_aload_n k31_0 rfl ?_
  refine aw_iconst (v := 0) k31_1 (by decide) ?_
  refine aw_putI k31_2 hC_O_firstError fs_O_35 (by decide) ⟨rfl, rfl⟩ rfl po_2_8 ?_
  refine aw_aload_n k31_5 rfl ?_
  refine aw_iconst (v := 0) k31_6 (by decide) ?_
  refine aw_putI k31_7 hC_O_firstError fs_O_38 (by decide) ⟨rfl, rfl⟩ rfl po_2_7 ?_
  refine aw_iconst (v := 0) k31_10 (by decide) ?_
  refine aw_istore_n k31_11 (Nat.le_of_ble_eq_true rfl) rfl ?_
  exact hG
/-! an order on a state -/
def doO (f : Nat → Int32) (o : mOrd) : Option (Nat → Int32) :=
  if o.1 = 0 then (if fN f < 12 then some (fAdd f o.2.1 o.2.2.1 o.2.2.2) else none)
  else if o.1 = 1 then (if 0 < fN f then some (fTake f) else none)
  else if o.1 = 2 then (if canKeepF f = true then some (fKeep f) else none)
  else if o.1 = 3 then (if hasF f o.2.1 = true then some (fGive f o.2.1.toNatClampNeg) else none)
  else none
theorem s_O_isCarriedOut {d s k : Nat} {M : mM} {f : Nat → Int32} {o : mOrd} (hk : k < 80) (hR : RelS M s f) (ho : rowO M k o) (hkd : o.1 = 0 ∨ o.1 = 1 ∨ o.1 = 2 ∨ o.1 = 3) : ∃ M', CT iO_isCarriedOut (d + 6) [vR 2 0 0, vI (nI k), vR 3 s 0] M (.inl (some (vI (bI (doO f o).isSome)))) M' 0 ∧ RelS M' s ((doO f o).getD f) ∧ Fr s M M' := by
  obtain ⟨o1, o2, o3⟩ := ho
  have hs := hR.1
  have hcc : (nI k).toNatClampNeg = k := nI_clamp (by omega)
  have hT := hR.n
  have h5 := hT.2.2.1
  obtain hz | hz | hz | hz := hkd
  · rw [hz] at o1
    obtain ⟨p1, p2, p3⟩ := o2 hz
    have hd : doO f o = if fN f < 12 then some (fAdd f o.2.1 o.2.2.1 o.2.2.2) else none := by unfold doO; rw [if_pos hz]
    rw [hd]
    by_cases g : fN f < 12
    · rw [if_pos g]
      have hrel := tApp_rel (e := o.2.1) (o := o.2.2.1) (l := o.2.2.2) hR g
      refine ⟨_, ct_go hL_O_isCarriedOut rfl ?_, hrel⟩
      refine aw_iload_n k44_0 rfl ?_
      refine aw_if_lt 10 k44_1 (by decide) (fun c_1 => ?_) (fun c_1 => ?_)
      · exact absurd c_1 (nI_pos (by omega))
      · refine aw_iload_n k44_4 rfl ?_
        refine aw_bipush (v := 80) k44_5 (by decide) ?_
        refine aw_icmp_lt 12 k44_7 (by decide) (fun c_7 => ?_) (fun c_7 => ?_)
        · refine aw_aload_n k44_12 rfl ?_
          refine aw_getR k44_13 hC_O_isCarriedOut fs_O_15 (by decide) ⟨rfl, rfl⟩ rfl ?_
          try simp only [hcc, o1, p1, p2, p3]
          refine aw_iload_n k44_16 rfl ?_
          refine aw_iaload k44_17 (by first | exact ⟨rfl, rfl⟩ | exact ⟨by assumption, rfl⟩ | exact ⟨by assumption, by assumption⟩ | exact ⟨rfl, by decide⟩ | exact ⟨by assumption, by decide⟩ | exact ⟨by decide, rfl⟩ | exact ⟨by decide, by decide⟩ | exact ⟨by decide, by assumption⟩ | assumption) (by first | rfl | assumption) (by first | rfl | assumption) (vp_in_nI hk (by decide)) ?_
          try simp only [hcc, o1, p1, p2, p3]
          refine aw_tableIn (t := 48) (off := 30) k44_18 (by decide) (by decide) (by decide) (by decide) ?_
          refine aw_aload_n k44_48 rfl ?_
          refine aw_getR k44_49 hC_O_isCarriedOut fs_O_90 (by decide) ⟨(by first | assumption | decide), rfl⟩ rfl ?_
          try simp only [hcc, o1, p1, p2, p3]
          refine aw_aload_n k44_52 rfl ?_
          refine aw_getR k44_53 hC_O_isCarriedOut fs_O_19 (by decide) ⟨rfl, rfl⟩ rfl ?_
          try simp only [hcc, o1, p1, p2, p3]
          refine aw_iload_n k44_56 rfl ?_
          refine aw_iaload k44_57 (by first | exact ⟨rfl, rfl⟩ | exact ⟨by assumption, rfl⟩ | exact ⟨by assumption, by assumption⟩ | exact ⟨rfl, by decide⟩ | exact ⟨by assumption, by decide⟩ | exact ⟨by decide, rfl⟩ | exact ⟨by decide, by decide⟩ | exact ⟨by decide, by assumption⟩ | assumption) (by first | rfl | assumption) (by first | rfl | assumption) (vp_in_nI hk (by decide)) ?_
          try simp only [hcc, o1, p1, p2, p3]
          refine aw_aload_n k44_58 rfl ?_
          refine aw_getR k44_59 hC_O_isCarriedOut fs_O_22 (by decide) ⟨rfl, rfl⟩ rfl ?_
          try simp only [hcc, o1, p1, p2, p3]
          refine aw_iload_n k44_62 rfl ?_
          refine aw_iaload k44_63 (by first | exact ⟨rfl, rfl⟩ | exact ⟨by assumption, rfl⟩ | exact ⟨by assumption, by assumption⟩ | exact ⟨rfl, by decide⟩ | exact ⟨by assumption, by decide⟩ | exact ⟨by decide, rfl⟩ | exact ⟨by decide, by decide⟩ | exact ⟨by decide, by assumption⟩ | assumption) (by first | rfl | assumption) (by first | rfl | assumption) (vp_in_nI hk (by decide)) ?_
          try simp only [hcc, o1, p1, p2, p3]
          refine aw_aload_n k44_64 rfl ?_
          refine aw_getR k44_65 hC_O_isCarriedOut fs_O_25 (by decide) ⟨rfl, rfl⟩ rfl ?_
          try simp only [hcc, o1, p1, p2, p3]
          refine aw_iload_n k44_68 rfl ?_
          refine aw_iaload k44_69 (by first | exact ⟨rfl, rfl⟩ | exact ⟨by assumption, rfl⟩ | exact ⟨by assumption, by assumption⟩ | exact ⟨rfl, by decide⟩ | exact ⟨by assumption, by decide⟩ | exact ⟨by decide, rfl⟩ | exact ⟨by decide, by decide⟩ | exact ⟨by decide, by assumption⟩ | assumption) (by first | rfl | assumption) (by first | rfl | assumption) (vp_in_nI hk (by decide)) ?_
          try simp only [hcc, o1, p1, p2, p3]
          refine aw_callV3 k44_70 hC_O_isCarriedOut ok_T_append sv_O_96 hH_T_append ⟨(by first | assumption | decide), rfl⟩ (by decide) hN_T_append (by rw [hL_T_append]; exact Nat.le_of_ble_eq_true rfl) (Nat.le_of_ble_eq_true rfl) (s_T_append hs g h5) ?_
          refine aw_zreturn k44_73 hR_O_isCarriedOut ?_ ?_ ?_
          all_goals first | rfl | exact Or.inl rfl | exact Or.inr rfl | assumption | (simp_all; done) | ((repeat' split) <;> first | rfl | (simp only [Int32.lt_iff_toInt_lt, Int32.le_iff_toInt_le, Int64.lt_iff_toInt_lt, Int64.le_iff_toInt_le] at *; omega) | (simp_all; done))
        · exact absurd (nI_lt (a := k) (b := 80) hk (by omega)) c_7
    · rw [if_neg g]
      have h12 : fN f = 12 := by have := hT.2.1; omega
      rw [h12] at h5
      refine ⟨M, ct_go hL_O_isCarriedOut rfl ?_, hR, Fr.rf⟩
      refine aw_iload_n k44_0 rfl ?_
      refine aw_if_lt 10 k44_1 (by decide) (fun c_1 => ?_) (fun c_1 => ?_)
      · exact absurd c_1 (nI_pos (by omega))
      · refine aw_iload_n k44_4 rfl ?_
        refine aw_bipush (v := 80) k44_5 (by decide) ?_
        refine aw_icmp_lt 12 k44_7 (by decide) (fun c_7 => ?_) (fun c_7 => ?_)
        · refine aw_aload_n k44_12 rfl ?_
          refine aw_getR k44_13 hC_O_isCarriedOut fs_O_15 (by decide) ⟨rfl, rfl⟩ rfl ?_
          try simp only [hcc, o1, p1, p2, p3]
          refine aw_iload_n k44_16 rfl ?_
          refine aw_iaload k44_17 (by first | exact ⟨rfl, rfl⟩ | exact ⟨by assumption, rfl⟩ | exact ⟨by assumption, by assumption⟩ | exact ⟨rfl, by decide⟩ | exact ⟨by assumption, by decide⟩ | exact ⟨by decide, rfl⟩ | exact ⟨by decide, by decide⟩ | exact ⟨by decide, by assumption⟩ | assumption) (by first | rfl | assumption) (by first | rfl | assumption) (vp_in_nI hk (by decide)) ?_
          try simp only [hcc, o1, p1, p2, p3]
          refine aw_tableIn (t := 48) (off := 30) k44_18 (by decide) (by decide) (by decide) (by decide) ?_
          refine aw_aload_n k44_48 rfl ?_
          refine aw_getR k44_49 hC_O_isCarriedOut fs_O_90 (by decide) ⟨(by first | assumption | decide), rfl⟩ rfl ?_
          try simp only [hcc, o1, p1, p2, p3]
          refine aw_aload_n k44_52 rfl ?_
          refine aw_getR k44_53 hC_O_isCarriedOut fs_O_19 (by decide) ⟨rfl, rfl⟩ rfl ?_
          try simp only [hcc, o1, p1, p2, p3]
          refine aw_iload_n k44_56 rfl ?_
          refine aw_iaload k44_57 (by first | exact ⟨rfl, rfl⟩ | exact ⟨by assumption, rfl⟩ | exact ⟨by assumption, by assumption⟩ | exact ⟨rfl, by decide⟩ | exact ⟨by assumption, by decide⟩ | exact ⟨by decide, rfl⟩ | exact ⟨by decide, by decide⟩ | exact ⟨by decide, by assumption⟩ | assumption) (by first | rfl | assumption) (by first | rfl | assumption) (vp_in_nI hk (by decide)) ?_
          try simp only [hcc, o1, p1, p2, p3]
          refine aw_aload_n k44_58 rfl ?_
          refine aw_getR k44_59 hC_O_isCarriedOut fs_O_22 (by decide) ⟨rfl, rfl⟩ rfl ?_
          try simp only [hcc, o1, p1, p2, p3]
          refine aw_iload_n k44_62 rfl ?_
          refine aw_iaload k44_63 (by first | exact ⟨rfl, rfl⟩ | exact ⟨by assumption, rfl⟩ | exact ⟨by assumption, by assumption⟩ | exact ⟨rfl, by decide⟩ | exact ⟨by assumption, by decide⟩ | exact ⟨by decide, rfl⟩ | exact ⟨by decide, by decide⟩ | exact ⟨by decide, by assumption⟩ | assumption) (by first | rfl | assumption) (by first | rfl | assumption) (vp_in_nI hk (by decide)) ?_
          try simp only [hcc, o1, p1, p2, p3]
          refine aw_aload_n k44_64 rfl ?_
          refine aw_getR k44_65 hC_O_isCarriedOut fs_O_25 (by decide) ⟨rfl, rfl⟩ rfl ?_
          try simp only [hcc, o1, p1, p2, p3]
          refine aw_iload_n k44_68 rfl ?_
          refine aw_iaload k44_69 (by first | exact ⟨rfl, rfl⟩ | exact ⟨by assumption, rfl⟩ | exact ⟨by assumption, by assumption⟩ | exact ⟨rfl, by decide⟩ | exact ⟨by assumption, by decide⟩ | exact ⟨by decide, rfl⟩ | exact ⟨by decide, by decide⟩ | exact ⟨by decide, by assumption⟩ | assumption) (by first | rfl | assumption) (by first | rfl | assumption) (vp_in_nI hk (by decide)) ?_
          try simp only [hcc, o1, p1, p2, p3]
          refine aw_callV3 k44_70 hC_O_isCarriedOut ok_T_append sv_O_96 hH_T_append ⟨(by first | assumption | decide), rfl⟩ (by decide) hN_T_append (by rw [hL_T_append]; exact Nat.le_of_ble_eq_true rfl) (Nat.le_of_ble_eq_true rfl) (s_T_appendFull hs h5) ?_
          refine aw_zreturn k44_73 hR_O_isCarriedOut ?_ ?_ ?_
          all_goals first | rfl | exact Or.inl rfl | exact Or.inr rfl | assumption | (simp_all; done) | ((repeat' split) <;> first | rfl | (simp only [Int32.lt_iff_toInt_lt, Int32.le_iff_toInt_le, Int64.lt_iff_toInt_lt, Int64.le_iff_toInt_le] at *; omega) | (simp_all; done))
        · exact absurd (nI_lt (a := k) (b := 80) hk (by omega)) c_7
  · rw [hz] at o1
    have hd : doO f o = if 0 < fN f then some (fTake f) else none := by unfold doO; rw [hz]; rfl
    rw [hd]
    by_cases g : 0 < fN f
    · rw [if_pos g]
      have hrel := tDrop_rel hR g
      have h5' : M (4, s, 0) 5 = nI (fN f - 1 + 1) := h5.trans (congrArg nI (by omega))
      have g12 : fN f - 1 < 12 := by have := hT.2.1; omega
      refine ⟨_, ct_go hL_O_isCarriedOut rfl ?_, hrel⟩
      refine aw_iload_n k44_0 rfl ?_
      refine aw_if_lt 10 k44_1 (by decide) (fun c_1 => ?_) (fun c_1 => ?_)
      · exact absurd c_1 (nI_pos (by omega))
      · refine aw_iload_n k44_4 rfl ?_
        refine aw_bipush (v := 80) k44_5 (by decide) ?_
        refine aw_icmp_lt 12 k44_7 (by decide) (fun c_7 => ?_) (fun c_7 => ?_)
        · refine aw_aload_n k44_12 rfl ?_
          refine aw_getR k44_13 hC_O_isCarriedOut fs_O_15 (by decide) ⟨rfl, rfl⟩ rfl ?_
          try simp only [hcc, o1]
          refine aw_iload_n k44_16 rfl ?_
          refine aw_iaload k44_17 (by first | exact ⟨rfl, rfl⟩ | exact ⟨by assumption, rfl⟩ | exact ⟨by assumption, by assumption⟩ | exact ⟨rfl, by decide⟩ | exact ⟨by assumption, by decide⟩ | exact ⟨by decide, rfl⟩ | exact ⟨by decide, by decide⟩ | exact ⟨by decide, by assumption⟩ | assumption) (by first | rfl | assumption) (by first | rfl | assumption) (vp_in_nI hk (by decide)) ?_
          try simp only [hcc, o1]
          refine aw_tableIn (t := 74) (off := 56) k44_18 (by decide) (by decide) (by decide) (by decide) ?_
          refine aw_aload_n k44_74 rfl ?_
          refine aw_getR k44_75 hC_O_isCarriedOut fs_O_90 (by decide) ⟨(by first | assumption | decide), rfl⟩ rfl ?_
          try simp only [hcc, o1]
          refine aw_callV0 k44_78 hC_O_isCarriedOut ok_T_dropLast sv_O_102 hH_T_dropLast ⟨(by first | assumption | decide), rfl⟩ (by decide) hN_T_dropLast (by rw [hL_T_dropLast]; exact Nat.le_of_ble_eq_true rfl) (Nat.le_of_ble_eq_true rfl) (s_T_dropLast hs g12 h5') ?_
          refine aw_zreturn k44_81 hR_O_isCarriedOut ?_ ?_ ?_
          all_goals first | rfl | exact Or.inl rfl | exact Or.inr rfl | assumption | (simp_all; done) | ((repeat' split) <;> first | rfl | (simp only [Int32.lt_iff_toInt_lt, Int32.le_iff_toInt_le, Int64.lt_iff_toInt_lt, Int64.le_iff_toInt_le] at *; omega) | (simp_all; done))
        · exact absurd (nI_lt (a := k) (b := 80) hk (by omega)) c_7
    · rw [if_neg g]
      have h0 : fN f = 0 := by omega
      rw [h0] at h5
      refine ⟨M, ct_go hL_O_isCarriedOut rfl ?_, hR, Fr.rf⟩
      refine aw_iload_n k44_0 rfl ?_
      refine aw_if_lt 10 k44_1 (by decide) (fun c_1 => ?_) (fun c_1 => ?_)
      · exact absurd c_1 (nI_pos (by omega))
      · refine aw_iload_n k44_4 rfl ?_
        refine aw_bipush (v := 80) k44_5 (by decide) ?_
        refine aw_icmp_lt 12 k44_7 (by decide) (fun c_7 => ?_) (fun c_7 => ?_)
        · refine aw_aload_n k44_12 rfl ?_
          refine aw_getR k44_13 hC_O_isCarriedOut fs_O_15 (by decide) ⟨rfl, rfl⟩ rfl ?_
          try simp only [hcc, o1]
          refine aw_iload_n k44_16 rfl ?_
          refine aw_iaload k44_17 (by first | exact ⟨rfl, rfl⟩ | exact ⟨by assumption, rfl⟩ | exact ⟨by assumption, by assumption⟩ | exact ⟨rfl, by decide⟩ | exact ⟨by assumption, by decide⟩ | exact ⟨by decide, rfl⟩ | exact ⟨by decide, by decide⟩ | exact ⟨by decide, by assumption⟩ | assumption) (by first | rfl | assumption) (by first | rfl | assumption) (vp_in_nI hk (by decide)) ?_
          try simp only [hcc, o1]
          refine aw_tableIn (t := 74) (off := 56) k44_18 (by decide) (by decide) (by decide) (by decide) ?_
          refine aw_aload_n k44_74 rfl ?_
          refine aw_getR k44_75 hC_O_isCarriedOut fs_O_90 (by decide) ⟨(by first | assumption | decide), rfl⟩ rfl ?_
          try simp only [hcc, o1]
          refine aw_callV0 k44_78 hC_O_isCarriedOut ok_T_dropLast sv_O_102 hH_T_dropLast ⟨(by first | assumption | decide), rfl⟩ (by decide) hN_T_dropLast (by rw [hL_T_dropLast]; exact Nat.le_of_ble_eq_true rfl) (Nat.le_of_ble_eq_true rfl) (s_T_dropLast0 hs h5) ?_
          refine aw_zreturn k44_81 hR_O_isCarriedOut ?_ ?_ ?_
          all_goals first | rfl | exact Or.inl rfl | exact Or.inr rfl | assumption | (simp_all; done) | ((repeat' split) <;> first | rfl | (simp only [Int32.lt_iff_toInt_lt, Int32.le_iff_toInt_le, Int64.lt_iff_toInt_lt, Int64.le_iff_toInt_le] at *; omega) | (simp_all; done))
        · exact absurd (nI_lt (a := k) (b := 80) hk (by omega)) c_7
  · rw [hz] at o1
    have hd : doO f o = if canKeepF f = true then some (fKeep f) else none := by unfold doO; rw [hz]; rfl
    obtain ⟨M', hA, hR2, hF⟩ := s_S_keepTraverse (d := d) hR
    have e1 : (doO f o).isSome = canKeepF f := by rw [hd]; cases canKeepF f <;> rfl
    have e2 : (doO f o).getD f = if canKeepF f = true then fKeep f else f := by rw [hd]; cases canKeepF f <;> rfl
    rw [e1, e2]
    refine ⟨M', ct_go hL_O_isCarriedOut rfl ?_, hR2, hF⟩
    have hzz : bI (canKeepF f) = 0 ∨ bI (canKeepF f) = 1 := by cases canKeepF f; exact Or.inl rfl; exact Or.inr rfl
    refine aw_iload_n k44_0 rfl ?_
    refine aw_if_lt 10 k44_1 (by decide) (fun c_1 => ?_) (fun c_1 => ?_)
    · exact absurd c_1 (nI_pos (by omega))
    · refine aw_iload_n k44_4 rfl ?_
      refine aw_bipush (v := 80) k44_5 (by decide) ?_
      refine aw_icmp_lt 12 k44_7 (by decide) (fun c_7 => ?_) (fun c_7 => ?_)
      · refine aw_aload_n k44_12 rfl ?_
        refine aw_getR k44_13 hC_O_isCarriedOut fs_O_15 (by decide) ⟨rfl, rfl⟩ rfl ?_
        try simp only [hcc, o1]
        refine aw_iload_n k44_16 rfl ?_
        refine aw_iaload k44_17 (by first | exact ⟨rfl, rfl⟩ | exact ⟨by assumption, rfl⟩ | exact ⟨by assumption, by assumption⟩ | exact ⟨rfl, by decide⟩ | exact ⟨by assumption, by decide⟩ | exact ⟨by decide, rfl⟩ | exact ⟨by decide, by decide⟩ | exact ⟨by decide, by assumption⟩ | assumption) (by first | rfl | assumption) (by first | rfl | assumption) (vp_in_nI hk (by decide)) ?_
        try simp only [hcc, o1]
        refine aw_tableIn (t := 82) (off := 64) k44_18 (by decide) (by decide) (by decide) (by decide) ?_
        refine aw_aload_n k44_82 rfl ?_
        refine aw_callV0 k44_83 hC_O_isCarriedOut ok_S_keepTraverse sv_O_105 hH_S_keepTraverse ⟨(by first | assumption | decide), rfl⟩ (by decide) hN_S_keepTraverse (by rw [hL_S_keepTraverse]; exact Nat.le_of_ble_eq_true rfl) (Nat.le_of_ble_eq_true rfl) hA ?_
        refine aw_zreturn k44_86 hR_O_isCarriedOut ?_ ?_ ?_
        all_goals first | rfl | exact Or.inl rfl | exact Or.inr rfl | assumption | (simp_all; done) | ((repeat' split) <;> first | rfl | (simp only [Int32.lt_iff_toInt_lt, Int32.le_iff_toInt_le, Int64.lt_iff_toInt_lt, Int64.le_iff_toInt_le] at *; omega) | (simp_all; done))
      · exact absurd (nI_lt (a := k) (b := 80) hk (by omega)) c_7
  · rw [hz] at o1
    have p5 := o3 hz
    have hd : doO f o = if hasF f o.2.1 = true then some (fGive f o.2.1.toNatClampNeg) else none := by unfold doO; rw [hz]; rfl
    obtain ⟨M', hA, hR2, hF⟩ := s_S_dropField (d := d + 3) (x := o.2.1) hR
    have e1 : (doO f o).isSome = hasF f o.2.1 := by rw [hd]; cases hasF f o.2.1 <;> rfl
    have e2 : (doO f o).getD f = if hasF f o.2.1 = true then fGive f o.2.1.toNatClampNeg else f := by rw [hd]; cases hasF f o.2.1 <;> rfl
    rw [e1, e2]
    refine ⟨M', ct_go hL_O_isCarriedOut rfl ?_, hR2, hF⟩
    have hzz : bI (hasF f o.2.1) = 0 ∨ bI (hasF f o.2.1) = 1 := by cases hasF f o.2.1; exact Or.inl rfl; exact Or.inr rfl
    refine aw_iload_n k44_0 rfl ?_
    refine aw_if_lt 10 k44_1 (by decide) (fun c_1 => ?_) (fun c_1 => ?_)
    · exact absurd c_1 (nI_pos (by omega))
    · refine aw_iload_n k44_4 rfl ?_
      refine aw_bipush (v := 80) k44_5 (by decide) ?_
      refine aw_icmp_lt 12 k44_7 (by decide) (fun c_7 => ?_) (fun c_7 => ?_)
      · refine aw_aload_n k44_12 rfl ?_
        refine aw_getR k44_13 hC_O_isCarriedOut fs_O_15 (by decide) ⟨rfl, rfl⟩ rfl ?_
        try simp only [hcc, o1, p5]
        refine aw_iload_n k44_16 rfl ?_
        refine aw_iaload k44_17 (by first | exact ⟨rfl, rfl⟩ | exact ⟨by assumption, rfl⟩ | exact ⟨by assumption, by assumption⟩ | exact ⟨rfl, by decide⟩ | exact ⟨by assumption, by decide⟩ | exact ⟨by decide, rfl⟩ | exact ⟨by decide, by decide⟩ | exact ⟨by decide, by assumption⟩ | assumption) (by first | rfl | assumption) (by first | rfl | assumption) (vp_in_nI hk (by decide)) ?_
        try simp only [hcc, o1, p5]
        refine aw_tableIn (t := 87) (off := 69) k44_18 (by decide) (by decide) (by decide) (by decide) ?_
        refine aw_aload_n k44_87 rfl ?_
        refine aw_aload_n k44_88 rfl ?_
        refine aw_getR k44_89 hC_O_isCarriedOut fs_O_28 (by decide) ⟨rfl, rfl⟩ rfl ?_
        try simp only [hcc, o1, p5]
        refine aw_iload_n k44_92 rfl ?_
        refine aw_iaload k44_93 (by first | exact ⟨rfl, rfl⟩ | exact ⟨by assumption, rfl⟩ | exact ⟨by assumption, by assumption⟩ | exact ⟨rfl, by decide⟩ | exact ⟨by assumption, by decide⟩ | exact ⟨by decide, rfl⟩ | exact ⟨by decide, by decide⟩ | exact ⟨by decide, by assumption⟩ | assumption) (by first | rfl | assumption) (by first | rfl | assumption) (vp_in_nI hk (by decide)) ?_
        try simp only [hcc, o1, p5]
        refine aw_callV1 k44_94 hC_O_isCarriedOut ok_S_dropField sv_O_108 hH_S_dropField ⟨(by first | assumption | decide), rfl⟩ (by decide) hN_S_dropField (by rw [hL_S_dropField]; exact Nat.le_of_ble_eq_true rfl) (Nat.le_of_ble_eq_true rfl) hA ?_
        refine aw_zreturn k44_97 hR_O_isCarriedOut ?_ ?_ ?_
        all_goals first | rfl | exact Or.inl rfl | exact Or.inr rfl | assumption | (simp_all; done) | ((repeat' split) <;> first | rfl | (simp only [Int32.lt_iff_toInt_lt, Int32.le_iff_toInt_le, Int64.lt_iff_toInt_lt, Int64.le_iff_toInt_le] at *; omega) | (simp_all; done))
      · exact absurd (nI_lt (a := k) (b := 80) hk (by omega)) c_7
