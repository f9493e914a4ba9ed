/-! THE ORDER TEXT: the component's reading, order by order -/
def LI (M0 : mM) (os : List mOrd) (E x v : Int32) (w : Nat) (e n : Int32) (M : mM) : Prop := St M0 os M ∧ M (2, 0, 0) 7 = nI (os.length + 1) ∧ M (2, 0, 0) 8 = E ∧ M (2, 0, 0) 9 = x ∧ M (2, 0, 0) 10 = v ∧ M (12, 0, 1) os.length = 0 ∧ (1 ≤ w → M (12, 0, 2) os.length = e) ∧ (2 ≤ w → M (12, 0, 3) os.length = n) ∧ (3 ≤ w → M (12, 0, 4) os.length = v)
/-- a number begins and grows, before a letter must stand -/
theorem go_part {d L : Nat} {res : Int32} {Post : mM → Prop} {M0 : mM} {t : Nat → Int32} (hL80 : L ≤ 80) (hL : M0 (2, 0, 0) 1 = nI L) (ht : M0 (12, 0, 0) = t) {os : List mOrd} {E E1 x v : Int32} {w : Nat} {e n : Int32} (hE : ¬ (E = 1 ∨ E = 8)) (hw : w < 3)
    (hb : ∀ (M M1 : mM) (c r : Int32), M (2, 0, 0) 8 = E → (r = 0 ∨ r = 1) → CT iO_beginNumber (d + 2) [vR 2 0 0, vI c, vI 48, vI E1] M (.inl (some (vI r))) M1 0 → iacc d c M r M1)
    (hg : ∀ (M M1 : mM) (c : Int32), M (2, 0, 0) 8 = E1 → CT iO_growNumber (d + 2) [vR 2 0 0, vI c, vI 9999] M (.inl (some (vI 1))) M1 0 → iacc d c M 1 M1)
    {M : mM} {i : Nat} (hi : i ≤ L) (hM : LI M0 os E x v w e n M)
    (hbad : (num (tx t L) 9999 48 i).1 = i → res = nI i ∧ ∀ M', OFr M0 M' → Post M')
    (hok : ¬ (num (tx t L) 9999 48 i).1 = i → (num (tx t L) 9999 48 i).1 ≤ L → ¬ grows (tx t L (num (tx t L) 9999 48 i).1) (num (tx t L) 9999 48 i).2 9999 → ∀ M2, LI M0 os E1 x (num (tx t L) 9999 48 i).2 w e n M2 → GO d res Post M2 (num (tx t L) 9999 48 i).1) : GO d res Post M i := by
  obtain ⟨hS, h7, h8, h9, h10, hk, hw1, hw2, hw3⟩ := hM
  unfold num at hbad hok
  by_cases g : 48 ≤ tx t L i ∧ tx t L i ≤ 57
  · rw [if_pos g] at hok
    have hiL : i < L := tx_lt (ge_ne0 g.1)
    have hge : ¬ (numG (tx t L) 9999 80 (i + 1) (tx t L i - 48)).1 = i := fun e => by
      have := numG_ge (T := tx t L) (most := 9999) (k := 80) (a := i + 1) (v := tx t L i - 48)
      omega
    refine go_step hL80 hL ht hS.1 hiL rfl (hb M _ _ 1 h8 (Or.inr rfl) (s_O_beginNumber g)) ?_
    refine go_num hL80 hL ht (most := 9999) (I := fun v M2 => LI M0 os E1 x v w e n M2) ?_ (fun v M2 h => h.1.1) 80 (i + 1) (tx t L i - 48) _ hiL ?_ (hok hge (numG_le hiL) (numG_stop (by omega)))
    · intro v M2 i2 hM2 hi2 g2
      obtain ⟨aS, a7, a8, a9, a10, ak, aw1, aw2, aw3⟩ := hM2
      refine ⟨_, hg M2 _ _ a8 (s_O_growNumber a10 g2), aS.o (by decide), ?_, ?_, ?_, ?_, ?_, fun h => ?_, fun h => ?_, fun h => by omega⟩
      · rw [← a7]; simp [mUp_at]
      · rw [← a8]; simp [mUp_at]
      · rw [← a9]; simp [mUp_at]
      · simp [mUp_at]
      · rw [mUp_ne (by simp)]; exact ak
      · rw [mUp_ne (by simp)]; exact aw1 h
      · rw [mUp_ne (by simp)]; exact aw2 h
    · refine ⟨(hS.o (by decide)).o (by decide), ?_, ?_, ?_, ?_, ?_, fun h => ?_, fun h => ?_, fun h => by omega⟩
      · rw [← h7]; simp [mUp_at]
      · simp [mUp_at]
      · rw [← h9]; simp [mUp_at]
      · simp [mUp_at]
      · rw [mUp_ne (by simp), mUp_ne (by simp)]; exact hk
      · rw [mUp_ne (by simp), mUp_ne (by simp)]; exact hw1 h
      · rw [mUp_ne (by simp), mUp_ne (by simp)]; exact hw2 h
  · rw [if_neg g] at hbad
    have hB := hbad rfl
    exact go_bad hL80 hL ht hS.1 hi (hb M _ _ 0 h8 (Or.inl rfl) (s_O_beginNumberN g)) (by rw [h8]; exact hE) hB.1 (hB.2 M hS.1)
/-- the measured length -/
theorem go_length {d L : Nat} {res : Int32} {Post : mM → Prop} {M0 : mM} {t : Nat → Int32} (hL80 : L ≤ 80) (hL : M0 (2, 0, 0) 1 = nI L) (ht : M0 (12, 0, 0) = t) {os : List mOrd} {x v : Int32} {e n : Int32} (hk80 : os.length < 80)
    {M : mM} {i : Nat} (hi : i ≤ L) (hM : LI M0 os 7 x v 2 e n M)
    (hbad : (num (tx t L) 20000 49 i).1 = i → res = nI i ∧ ∀ M', OFr M0 M' → Post M')
    (hok : ¬ (num (tx t L) 20000 49 i).1 = i → (num (tx t L) 20000 49 i).1 ≤ L → ¬ grows (tx t L (num (tx t L) 20000 49 i).1) (num (tx t L) 20000 49 i).2 20000 → ∀ M2, LI M0 os 8 x (num (tx t L) 20000 49 i).2 3 e n M2 → GO d res Post M2 (num (tx t L) 20000 49 i).1) : GO d res Post M i := by
  obtain ⟨hS, h7, h8, h9, h10, hk, hw1, hw2, hw3⟩ := hM
  unfold num at hbad hok
  by_cases g : 49 ≤ tx t L i ∧ tx t L i ≤ 57
  · rw [if_pos g] at hok
    have hiL : i < L := tx_lt (ge_ne0 g.1)
    have hge : ¬ (numG (tx t L) 20000 80 (i + 1) (tx t L i - 48)).1 = i := fun e => by
      have := numG_ge (T := tx t L) (most := 20000) (k := 80) (a := i + 1) (v := tx t L i - 48)
      omega
    refine go_step hL80 hL ht hS.1 hiL rfl (a_7 h8 (s_O_beginNumber g) (s_O_noteLength (k := os.length) (v := tx t L i - 48) hk80 ?_ ?_)) ?_
    · rw [← h7]; simp [mUp_at]
    · simp [mUp_at]
    refine go_num hL80 hL ht (most := 20000) (I := fun v M2 => LI M0 os 8 x v 3 e n M2) ?_ (fun v M2 h => h.1.1) 80 (i + 1) (tx t L i - 48) _ hiL ?_ (hok hge (numG_le hiL) (numG_stop (by omega)))
    · intro v M2 i2 hM2 hi2 g2
      obtain ⟨aS, a7, a8, a9, a10, ak, aw1, aw2, aw3⟩ := hM2
      refine ⟨_, a_8g a8 (s_O_growNumber a10 g2) (s_O_noteLength (k := os.length) (v := v * 10 + (tx t L i2 - 48)) hk80 ?_ ?_), (aS.o (by decide)).row (by decide) rfl, ?_, ?_, ?_, ?_, ?_, fun h => ?_, fun h => ?_, fun h => ?_⟩
      · rw [← a7]; simp [mUp_at]
      · simp [mUp_at]
      · rw [← a7]; simp [mUp_at]
      · rw [← a8]; simp [mUp_at]
      · rw [← a9]; simp [mUp_at]
      · simp [mUp_at]
      · rw [mUp_ne (by simp), mUp_ne (by simp)]; exact ak
      · rw [mUp_ne (by simp), mUp_ne (by simp)]; exact aw1 (by omega)
      · rw [mUp_ne (by simp), mUp_ne (by simp)]; exact aw2 (by omega)
      · simp [mUp_at]
    · refine ⟨((hS.o (by decide)).o (by decide)).row (by decide) rfl, ?_, ?_, ?_, ?_, ?_, fun h => ?_, fun h => ?_, fun h => ?_⟩
      · rw [← h7]; simp [mUp_at]
      · simp [mUp_at]
      · rw [← h9]; simp [mUp_at]
      · simp [mUp_at]
      · rw [mUp_ne (by simp), mUp_ne (by simp), mUp_ne (by simp)]; exact hk
      · rw [mUp_ne (by simp), mUp_ne (by simp), mUp_ne (by simp)]; exact hw1 (by omega)
      · rw [mUp_ne (by simp), mUp_ne (by simp), mUp_ne (by simp)]; exact hw2 (by omega)
      · simp [mUp_at]
  · rw [if_neg g] at hbad
    have hB := hbad rfl
    exact go_bad hL80 hL ht hS.1 hi (a_7n h8 (s_O_beginNumberN g)) (by rw [h8]; decide) hB.1 (hB.2 M hS.1)
/-- where an order has ended -/
def PE (M0 : mM) (t : Nat → Int32) (L : Nat) (os : List mOrd) (q : Nat) (M : mM) : Prop := St M0 os M ∧ M (2, 0, 0) 7 = nI os.length ∧ (M (2, 0, 0) 8 = 1 ∨ (M (2, 0, 0) 8 = 8 ∧ ¬ grows (tx t L q) (M (2, 0, 0) 10) 20000))
def Bad (res : Int32) (Post : mM → Prop) (M0 : mM) (e : Nat) : Prop := res = nI e ∧ ∀ M', OFr M0 M' → Post M'
def cont (d : Nat) (res : Int32) (Post : mM → Prop) (M0 : mM) (t : Nat → Int32) (L : Nat) (os : List mOrd) (r : Nat ⊕ (Nat × mOrd)) : Prop := match r with
  | .inl e => Bad res Post M0 e
  | .inr (q, o) => q ≤ L → ∀ M2, PE M0 t L (os ++ [o]) q M2 → GO d res Post M2 q
theorem go_leg {d L : Nat} {res : Int32} {Post : mM → Prop} {M0 : mM} {t : Nat → Int32} (hL80 : L ≤ 80) (hL : M0 (2, 0, 0) 1 = nI L) (ht : M0 (12, 0, 0) = t) {os : List mOrd} {p : Nat} (hp : p < L) (hos : os.length ≤ p) {M : mM} (hS : St M0 os M) (h7 : M (2, 0, 0) 7 = nI os.length) (h8 : M (2, 0, 0) 8 = 0) (hc : tx t L p = 101 ∨ tx t L p = 119) (hx : cont d res Post M0 t L os (oneLeg (tx t L) p)) : GO d res Post M p := by
  have hk80 : os.length < 80 := by omega
  refine go_step hL80 hL ht hS.1 hp rfl (a_0 h8 (Or.inr rfl) (s_O_beginLeg hk80 h7 hc)) ?_
  generalize hsg : (if tx t L p = 101 then (1 : Int32) else -1) = sg
  have hM1 : LI M0 os 3 sg (M (2, 0, 0) 10) 0 0 0 (oKd (mUp M (2, 0, 0) 9 sg) os.length 0 3) := by
    unfold oKd
    refine ⟨(((hS.o (by decide)).row (by decide) rfl).o (by decide)).o (by decide), ?_, ?_, ?_, ?_, ?_, fun h => by omega, fun h => by omega, fun h => by omega⟩
    · simp [mUp_at]
    · simp [mUp_at]
    · simp [mUp_at]
    · simp [mUp_at]
    · simp [mUp_at]
  unfold oneLeg at hx
  rw [hsg] at hx
  refine go_part hL80 hL ht (by decide) (by decide) (fun M M1 c r => a_3) (fun M M1 c => a_4g) hp hM1 (fun hb => ?_) (fun hn hqL hng M2 hM2 => ?_)
  · have hb : (legE (tx t L) p).1 = p + 1 := hb
    rw [if_pos (Or.inl hb), hb] at hx
    exact hx
  have hn : ¬ (legE (tx t L) p).1 = p + 1 := hn
  have hqL : (legE (tx t L) p).1 ≤ L := hqL
  have hng : ¬ grows (tx t L (legE (tx t L) p).1) (legE (tx t L) p).2 9999 := hng
  have hM2 : LI M0 os 4 sg (legE (tx t L) p).2 0 0 0 M2 := hM2
  show GO d res Post M2 (legE (tx t L) p).1
  have hS2 := hM2.1
  by_cases g1 : tx t L (legE (tx t L) p).1 = 110 ∨ tx t L (legE (tx t L) p).1 = 115
  · rw [if_neg (fun q => q.elim hn (fun q => q g1))] at hx
    have hqL2 : (legE (tx t L) p).1 < L := tx_lt (fun e => by rw [e] at g1; exact absurd g1 (by decide))
    obtain ⟨-, b7, b8, b9, b10, bk, -, -, -⟩ := id hM2
    refine go_step hL80 hL ht hS2.1 hqL2 rfl (a_4e b8 (Or.inr rfl) (s_O_growNumberN b10 hng) (s_O_endEast hk80 b7 b9 b10 g1)) ?_
    generalize hsg2 : (if tx t L (legE (tx t L) p).1 = 110 then (1 : Int32) else -1) = sg2
    rw [hsg2] at hx
    have hM3 : LI M0 os 5 sg2 (legE (tx t L) p).2 1 (sg * (legE (tx t L) p).2) 0 (oEast M2 os.length (sg * (legE (tx t L) p).2) sg2) := by
      unfold oEast
      refine ⟨((hS2.row (by decide) rfl).o (by decide)).o (by decide), ?_, ?_, ?_, ?_, ?_, fun h => ?_, fun h => by omega, fun h => by omega⟩
      · rw [← b7]; simp [mUp_at]
      · simp [mUp_at]
      · simp [mUp_at]
      · rw [← b10]; simp [mUp_at]
      · rw [← bk]; simp [mUp_at]
      · simp [mUp_at]
    refine go_part hL80 hL ht (by decide) (by decide) (fun M M1 c r => a_5) (fun M M1 c => a_6g) hqL2 hM3 (fun hb => ?_) (fun hn2 hqL3 hng2 M4 hM4 => ?_)
    · have hb : (legN (tx t L) p).1 = (legE (tx t L) p).1 + 1 := hb
      rw [if_pos (Or.inl hb), hb] at hx
      exact hx
    have hn2 : ¬ (legN (tx t L) p).1 = (legE (tx t L) p).1 + 1 := hn2
    have hqL3 : (legN (tx t L) p).1 ≤ L := hqL3
    have hng2 : ¬ grows (tx t L (legN (tx t L) p).1) (legN (tx t L) p).2 9999 := hng2
    have hM4 : LI M0 os 6 sg2 (legN (tx t L) p).2 1 (sg * (legE (tx t L) p).2) 0 M4 := hM4
    show GO d res Post M4 (legN (tx t L) p).1
    have hS4 := hM4.1
    obtain ⟨-, d7, d8, d9, d10, dk, dw1, -, -⟩ := id hM4
    by_cases g2 : tx t L (legN (tx t L) p).1 = 108
    · rw [if_neg (fun q => q.elim hn2 (fun q => q g2))] at hx
      have hqL4 : (legN (tx t L) p).1 < L := tx_lt (fun e => by rw [e] at g2; exact absurd g2 (by decide))
      refine go_step hL80 hL ht hS4.1 hqL4 g2 (a_6e d8 (Or.inr rfl) (s_O_growNumberN d10 (by rw [← g2]; exact hng2)) (s_O_endNorth hk80 d7 d9 d10)) ?_
      have hM5 : LI M0 os 7 sg2 (legN (tx t L) p).2 2 (sg * (legE (tx t L) p).2) (sg2 * (legN (tx t L) p).2) (oNorth M4 os.length (sg2 * (legN (tx t L) p).2)) := by
        unfold oNorth
        refine ⟨(hS4.row (by decide) rfl).o (by decide), ?_, ?_, ?_, ?_, ?_, fun h => ?_, fun h => ?_, fun h => by omega⟩
        · rw [← d7]; simp [mUp_at]
        · simp [mUp_at]
        · rw [← d9]; simp [mUp_at]
        · rw [← d10]; simp [mUp_at]
        · rw [← dk]; simp [mUp_at]
        · rw [← dw1 (by omega)]; simp [mUp_at]
        · simp [mUp_at]
      refine go_length hL80 hL ht hk80 hqL4 hM5 (fun hb => ?_) (fun hn3 hqL5 hng3 M6 hM6 => ?_)
      · have hb : (legL (tx t L) p).1 = (legN (tx t L) p).1 + 1 := hb
        rw [if_pos hb, hb] at hx
        exact hx
      · have hn3 : ¬ (legL (tx t L) p).1 = (legN (tx t L) p).1 + 1 := hn3
        rw [if_neg hn3] at hx
        obtain ⟨fS, f7, f8, f9, f10, fk, fw1, fw2, fw3⟩ := hM6
        refine hx hqL5 M6 ⟨fS.snoc ⟨fk, fun _ => ⟨fw1 (by omega), fw2 (by omega), fw3 (by omega)⟩, fun h => absurd (show (0 : Int32) = 3 from h) (by decide)⟩, ?_, Or.inr ⟨f8, by rw [f10]; exact hng3⟩⟩
        rw [f7]
        simp
    · rw [if_pos (Or.inr g2)] at hx
      exact go_bad hL80 hL ht hS4.1 hqL3 (a_6e d8 (Or.inl rfl) (s_O_growNumberN d10 hng2) (s_O_endNorthN g2)) (by rw [d8]; decide) hx.1 (hx.2 M4 hS4.1)
  · rw [if_pos (Or.inr g1)] at hx
    obtain ⟨-, b7, b8, b9, b10, bk, -, -, -⟩ := id hM2
    exact go_bad hL80 hL ht hS2.1 hqL (a_4e b8 (Or.inl rfl) (s_O_growNumberN b10 hng) (s_O_endEastN g1)) (by rw [b8]; decide) hx.1 (hx.2 M2 hS2.1)
