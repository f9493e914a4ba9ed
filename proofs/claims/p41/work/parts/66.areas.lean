/-! AREAS, THE LARGEST FIELD -/
theorem Gp.tw {f : Nat → Int32} (h : Gp f) {j : Nat} (hj : j < fC f) : 0 < (twF f j).toInt ∧ (twF f j).toInt ≤ 3840000000000 := by
  have hb := (h.1.2.2.2.2 j hj).2.2
  exact ⟨(h.2.2 j hj).1, (tw_rng (b := blk f j) (m := bN f j) (fun k hk => h.2.1.2.2.2.1 j hj k hk) hb).2⟩
theorem Gp.str {f : Nat → Int32} (h : Gp f) {j : Nat} (hj : j < fC f) : strF f j = twF f j := by
  obtain ⟨-, h3, hb⟩ := h.1.2.2.2.2 j hj
  exact st_eq (b := blk f j) (m := bN f j) (fun k hk => h.2.1.2.2.2.1 j hj k hk) hb (by omega)
theorem Gp.half {f : Nat → Int32} (h : Gp f) {j : Nat} (hj : j < fC f) : (twF f j / 2).toInt = (twF f j).toInt / 2 := by
  have h1 := h.tw hj
  have z2 : (2 : Int64).toInt = 2 := rfl
  rw [l_dive (by decide) (by omega), z2]
theorem acres_i {a : Int64} (h : 0 ≤ a.toInt ∧ a.toInt ≤ 1920000000000) : (a / 100000).toInt32.toInt64 = a / 100000 := by
  have z : (100000 : Int64).toInt = 100000 := rfl
  have e : (a / 100000).toInt = a.toInt / 100000 := by rw [l_dive (by decide) h.1, z]
  exact l2i_back (A := 19200000) ⟨by rw [e]; omega, by rw [e]; omega⟩ (by decide)
theorem rem_i {a m d : Int64} {mi di : Int} (hm : m.toInt = mi) (hd : d.toInt = di) (h1 : 0 < mi) (h3 : mi ≤ 1000000) (h2 : 0 < di) (h : 0 ≤ a.toInt) : ((a - a / m * m) / d).toInt32.toInt64 = (a - a / m * m) / d := by
  have e1 := (l_rem (x := a) (y := m) (by omega)).2
  rw [hm, Int.tmod_eq_emod_of_nonneg h] at e1
  have b1 := Int.emod_nonneg a.toInt (b := mi) (by omega)
  have b2 := Int.emod_lt_of_pos a.toInt (b := mi) h1
  have e2 : ((a - a / m * m) / d).toInt = a.toInt % mi / di := by rw [l_dive (by omega) (by omega), e1, hd]
  have c1 : 0 ≤ a.toInt % mi / di := Int.ediv_nonneg b1 (by omega)
  have c2 : a.toInt % mi / di ≤ a.toInt % mi := Int.ediv_le_self _ b1
  exact l2i_back (A := 1000000) ⟨by rw [e2]; omega, by rw [e2]; omega⟩ (by decide)
/-- the largest so far -/
theorem grz_0 {f : Nat → Int32} : grF f 0 = (-1, -1) := rfl
theorem gr_inv {f : Nat → Int32} (h : Gp f) : ∀ n, n < fC f → ∃ j, j ≤ n ∧ grF f (n + 1) = (nI j, twF f j / 2) := by
  intro n
  induction n with
  | zero =>
    intro hn
    refine ⟨0, Nat.le_refl 0, ?_⟩
    refine grF_t ?_
    have e := h.half hn
    have ht := h.tw hn
    have z : (-1 : Int64).toInt = -1 := rfl
    rw [grz_0, Int64.lt_iff_toInt_lt, e, z]
    omega
  | succ n ih =>
    intro hn
    obtain ⟨j, hj, e⟩ := ih (by omega)
    by_cases g : (grF f (n + 1)).2 < twF f (n + 1) / 2
    · exact ⟨n + 1, Nat.le_refl _, grF_t g⟩
    · exact ⟨j, by omega, (grF_f g).trans e⟩
/-- the law's next largest -/
theorem gr_next {f : Nat → Int32} (h : Gp f) {n : Nat} (hn : n < fC f) : ((grF f n).1 = -1 → (grF f (n + 1)).1 = nI n) ∧ (¬ (grF f n).1 = -1 → ∃ j, j < n ∧ (grF f n).1 = nI j ∧ (twF f n / 2 ≤ twF f j / 2 → (grF f (n + 1)).1 = nI j) ∧ (¬ twF f n / 2 ≤ twF f j / 2 → (grF f (n + 1)).1 = nI n)) := by
  cases n with
  | zero =>
    obtain ⟨j, hj, e⟩ := gr_inv h 0 hn
    obtain rfl : j = 0 := by omega
    exact ⟨fun _ => by rw [e], fun q => absurd rfl q⟩
  | succ n =>
    obtain ⟨j, hj, e⟩ := gr_inv h n (by omega)
    have h6 := h.1.2.2.2.1
    refine ⟨fun q => ?_, fun _ => ⟨j, by omega, by rw [e], fun q => ?_, fun q => ?_⟩⟩
    · rw [e] at q
      have q2 : (nI j).toInt = (-1 : Int32).toInt := congrArg Int32.toInt q
      have z : (-1 : Int32).toInt = -1 := rfl
      rw [nI_i (by omega), z] at q2
      omega
    · have : grF f (n + 1 + 1) = grF f (n + 1) := grF_f (by rw [e]; exact Int64.not_lt.mpr q)
      rw [this, e]
    · have : grF f (n + 1 + 1) = (nI (n + 1), twF f (n + 1) / 2) := grF_t (by rw [e]; exact Int64.not_le.mp q)
      rw [this]
