/-! ROWS FOR THE LAW -/
set_option maxHeartbeats 4000000 in
/-- a call that throws, caught by this method's own row x of its table, past the rows ahead of it -/
theorem aw_callVD {mi d pc nx : Nat} {loc loc2 : List (Option mAV)} {stk : List mAV} {M : mM} {own E name : String} {ix mj nA st en hp ct hn2 : Nat} {i : Nat} {as : List mAV} {a b c0 : Nat} {o : mOut} {M1 M2 : mM} {n1 n2 : Nat} {hpre hsuf : List (Nat × Nat × Nat × Nat)} (hd : mD mi pc 3 nx (.invokevirtual ix)) (hC : mC mi = own) (hok : mCodeOk mj nA) (hs9 : mSiteV own ix mj) (hh : mHH mj = []) (ho : mOk (a, b, c0)) (ha : a < 7) (hCn : [RX0, RX1, RX2, RX3, RX4, RX5, RX6].getD a "" = (mY mj).cls) (hn : as.length = nA) (hlen : (mEntL (vR a b c0 :: as)).length ≤ mL mj) (h8 : mW8 stk ≤ 8)
    (hcall : CT mj d (vR a b c0 :: as) M (.inr E) M1 n1) (htb : mHH mi = hpre ++ (st, en, hp, ct) :: hsuf) (hpass : ∀ z ∈ hpre, z.2.2.2 ≠ 0 ∧ ∃ nm, Cond.classLink own z.2.2.2 nm ∈ lw_tbl ∧ (E, nm) ∈ mNcs) (hcov : st ≤ pc ∧ pc < en) (hct : ct ≠ 0) (hlk : Cond.classLink own ct name ∈ lw_tbl) (hcast : Cond.castable E name ∈ lw_tbl)
    (hd2 : mD mi hp 2 hn2 (.astore i)) (hi : i < loc.length) (hq : mStX loc i = loc2) (kk : AW mi (d + 1) hn2 loc2 [] M1 o M2 n2) : AW mi (d + 1) pc loc (as.reverse ++ vR a b c0 :: stk) M o M2 (n1 + n2) := by
  intro D ρ cA bs LS sa xs p l e R s m args below meth c Q cE sE hF hcE hsE hFin H locs ls cells slots hc hs hRep hS hl
  obtain ⟨hdg, rfl⟩ := hd
  obtain ⟨hdg2, rfl⟩ := hd2
  subst hq
  obtain ⟨hx, hb, hml, hown, htab, hlocks, hr, hl0, hfr, hlo, hV, hH, hLS⟩ := id hF
  rw [hC] at hown
  have hM := ct_met (l := l) (D := D) (ρ := ρ) (cA := cA) (bs := bs) (LS := LS) (sa := sa) (xs := xs) hl0 hLS hok hlen hcall
  have hRun : vx_Run p l e R s m args below meth c H locs cells slots n1 (6 * n1) (F0 m pc ls ((as.reverse ++ vR a b c0 :: stk).map (cv ρ))) (stk.map (cv ρ)) (mQc D ρ cA bs LS xs (.inr E) M1 (Value.ref (ρ (a, b, c0)) :: as.map (cv ρ)).toArray) (mXC D ρ cA bs LS xs (.inr E) M1) (mA0 bs) := vx_runV (As := as.map (cv ρ)) (rest := stk.map (cv ρ)) (H := H) (locs := locs) (cells := cells) (slots := slots) (g := F0 m pc ls ((as.reverse ++ vR a b c0 :: stk).map (cv ρ))) (Ts := []) ⟨hx, hb, hml, hown, fun _ h => nomatch h⟩ hM ⟨hok.callB hV hh hs9.1 hfr hlo, hV.w hs9.2.1 rfl, hV.w hs9.2.2 rfl⟩ ⟨mPc_blind, m_recv hV hRep ho ha hCn, mPc_at (as := vR a b c0 :: as) hV hH hS hRep⟩ rfl (by rw [List.length_map]; exact hn) hl.1 (by simp; try rfl) (lv_room (cv_sum8 h8)) hdg ⟨by omega, by omega⟩
  intro T hT X
  rcases hRun T hT X with ⟨v9, st₀, t, T', L, h0, X', hL, e1, e2, ⟨⟨v8, hv8, hv9⟩, hR9, hF9⟩, st9⟩ | ⟨q, st₀, t, T', L, E9, ce, h0, X', hL, e1, e2, ⟨hoE, hR9, hF9⟩, hce, hcv, hcl, st9⟩
  · cases hv8
  · cases hoE
    obtain ⟨k1, k2, k3⟩ := vx_keep h0 e1 hS (fun _ _ h => h) (fun _ h => h) hL hF9
    have hsp : c.exceptionTable.toList = tableOf hpre ++ ⟨st, en, hp, ct⟩ :: tableOf hsuf := by rw [htab, htb]; simp [tableOf]
    have K : vx_W p l e R s m args below meth c T'.heap (locs ++ L) (cells + n1) (slots + 6 * n1) Q (F0 m pc ls (stk.map (cv ρ))) q := by
      refine vx_catch hown (tableOf hpre) ⟨st, en, hp, ct⟩ (tableOf hsuf) hsp ?_ (by simp [covers, hcov]) hct (hV.w hlk rfl) (hV.w hcast rfl) (by rw [e1]; exact hce) hcv hcl ?_
      · intro z hz
        obtain ⟨z9, hz9, rfl⟩ := List.mem_map.mp hz
        obtain ⟨h1, nm, h2, h3⟩ := hpass z9 hz9
        exact Or.inr ⟨h1, nm, hV.w h2 rfl, hV.2.2.2.2 _ h3⟩
      · exact lv_astore hx hb hdg2 hl.has (by rw [← hl.2.2.1]; exact hi) rfl (fun ls9 h9 => kk D ρ cA bs LS sa xs p l e R s m args below meth c Q cE sE hF hcE hsE hFin T'.heap (locs ++ L) ls9 (cells + n1) (slots + 6 * n1) (by omega) (by omega) (by rw [e1]; exact hR9) k3 (hl.stX h9))
    obtain ⟨t2, a1, b1⟩ := K T' rfl X'
    exact ⟨t2, st9.trans a1, b1⟩
theorem mCodeOk.callH {own : String} {ix mj nA d n : Nat} {s : State} {args : Array Value} {R : Room} {D : va_G} {cA : mRef → ClassId} {sa : Nat → Nat} (hok : mCodeOk mj nA) (hV : mVF D cA sa s) (hh : ¬ mHH mj = []) (hl : (Cond.methodLink own ix (mY mj)) ∈ lw_tbl) (hst : Cond.static (mY mj) ∈ lw_tbl) (hfr : d + 1 ≤ R.frames) (hlo : 34 * (d + 1) ≤ R.locals) :
    vx_CSW R s args own ix (mY mj) (mB mj) (mL mj) (mR mj) (mHH mj) [mCodeW mj] { frames := d, cells := n, slots := 6 * n, locals := 34 * d } n (6 * n) nA := by
  obtain ⟨h1, h2, h3, h4, h5, h6⟩ := hok
  have hw : mCodeW mj = Cond.codeWith (mY mj) (mB mj) (mL mj) (mR mj) (mHH mj) := by unfold mCodeW; rw [if_neg hh]
  rw [if_neg hh] at h1
  have hb : (Cond.codeWith (mY mj) (mB mj) (mL mj) (mR mj) (mHH mj)).before args s = true := hV.w h1 rfl
  refine ⟨⟨rfl, rfl, hfr, ?_, ?_, by rw [hw]; exact List.mem_cons_self⟩, hb, hV.w h2 rfl, h4, ?_, hV.w hl rfl, hV.w hst rfl⟩
  · show 8 + (mL mj + 11) + 34 * d ≤ R.locals
    omega
  · intro w hw9 a' U hW
    rw [List.mem_singleton.mp hw9, hw]
    exact word_at hW (Or.inl rfl) hb
  · intro sig hs
    rw [hs] at h5
    exact (Option.some.inj h5).symm
set_option maxHeartbeats 4000000 in
theorem aw_callSH {mi d pc nx : Nat} {loc : List (Option mAV)} {stk : List mAV} {M : mM} {own : String} {ix mj nA : Nat} {as : List mAV} {o : mOut} {v : Option mAV} {M1 M2 : mM} {n1 n2 : Nat} (hd : mD mi pc 3 nx (.invokestatic ix)) (hC : mC mi = own) (hok : mCodeOk mj nA) (hs9 : mSiteS own ix mj) (hh : ¬ mHH mj = []) (hn : as.length = nA) (hlen : (mEntL as).length ≤ mL mj) (h8 : mW8 stk ≤ 8) (hcall : CT mj d as M (.inl v) M1 n1) (kk : AW mi (d + 1) nx loc (v.toList ++ stk) M1 o M2 n2) : AW mi (d + 1) pc loc (as.reverse ++ stk) M o M2 (n1 + n2) := by
  intro D ρ cA bs LS sa xs p l e R s m args below meth c Q cE sE hF hcE hsE hFin H locs ls cells slots hc hs hRep hS hl
  obtain ⟨hdg, rfl⟩ := hd
  obtain ⟨hx, hb, hml, hown, htab, hlocks, hr, hl0, hfr, hlo, hV, hH, hLS⟩ := id hF
  rw [hC] at hown
  have hM := ct_met (l := l) (D := D) (ρ := ρ) (cA := cA) (bs := bs) (LS := LS) (sa := sa) (xs := xs) hl0 hLS hok hlen hcall
  have hRun : vx_Run p l e R s m args below meth c H locs cells slots n1 (6 * n1) (F0 m pc ls ((as.reverse ++ stk).map (cv ρ))) (stk.map (cv ρ)) (mQc D ρ cA bs LS xs (.inl v) M1 (as.map (cv ρ)).toArray) (mXC D ρ cA bs LS xs (.inl v) M1) (mA0 bs) := vx_runSX (As := as.map (cv ρ)) (rest := stk.map (cv ρ)) (H := H) (locs := locs) (cells := cells) (slots := slots) (g := F0 m pc ls ((as.reverse ++ stk).map (cv ρ))) (Ts := []) ⟨hx, hb, hml, hown, fun _ h => nomatch h⟩ hM (hok.callH hV hh hs9.1 hs9.2 hfr hlo) ⟨mPc_blind, mPc_at (as := as) hV hH hS hRep⟩ rfl (by rw [List.length_map]; exact hn) hl.1 (by simp; try rfl) (lv_room (cv_sum8 h8)) hdg ⟨by omega, by omega⟩
  intro T hT X
  rcases hRun T hT X with ⟨v9, st₀, t, T', L, h0, X', hL, e1, e2, ⟨⟨v8, hv8, hv9⟩, hR9, hF9⟩, st⟩ | ⟨q, st₀, t, T', L, E, ce, h0, X', hL, e1, e2, ⟨hoE, -⟩, -⟩
  · cases hv8
    cases hv9
    obtain ⟨k1, k2, k3⟩ := vx_keep h0 e1 hS (fun _ _ h => h) (fun _ h => h) hL hF9
    have K := kk D ρ cA bs LS sa xs p l e R s m args below meth c Q cE sE hF hcE hsE hFin T'.heap (locs ++ L) ls (cells + n1) (slots + 6 * n1) (by omega) (by omega) (by rw [e1]; exact hR9) k3 hl
    rw [List.map_append] at K
    obtain ⟨t2, a1, b1⟩ := K T' rfl X'
    have e5 : (v.map (cv ρ)).toList = v.toList.map (cv ρ) := by cases v <;> rfl
    rw [← e5] at a1
    exact ⟨t2, st t2 a1, b1⟩
  · cases hoE
theorem ne_nil {α : Type} {a : α} {l L : List α} (h : L = a :: l) : ¬ L = [] := by rw [h]; exact List.cons_ne_nil _ _
theorem aw_callSn2 {mi d pc nx : Nat} {loc : List (Option mAV)} {stk : List mAV} {M : mM} {own : String} {ix mj : Nat} {x1 x2 : mAV} {o : mOut} {v : mAV} {M1 M2 : mM} {n1 n2 : Nat} (hd : mD mi pc 3 nx (.invokestatic ix)) (hC : mC mi = own) (hok : mCodeOk mj 2) (hs9 : mSiteS own ix mj) (hh : ¬ mHH mj = []) (hlen : (mEntL [x1, x2]).length ≤ mL mj) (h8 : mW8 stk ≤ 8) (hcall : CT mj d [x1, x2] M (.inl (some v)) M1 n1) (kk : AW mi (d + 1) nx loc (v :: stk) M1 o M2 n2) : AW mi (d + 1) pc loc (x2 :: x1 :: stk) M o M2 (n1 + n2) := aw_callSH (as := [x1, x2]) hd hC hok hs9 hh rfl hlen h8 hcall kk
theorem aw_callSn3 {mi d pc nx : Nat} {loc : List (Option mAV)} {stk : List mAV} {M : mM} {own : String} {ix mj : Nat} {x1 x2 x3 : mAV} {o : mOut} {v : mAV} {M1 M2 : mM} {n1 n2 : Nat} (hd : mD mi pc 3 nx (.invokestatic ix)) (hC : mC mi = own) (hok : mCodeOk mj 3) (hs9 : mSiteS own ix mj) (hh : ¬ mHH mj = []) (hlen : (mEntL [x1, x2, x3]).length ≤ mL mj) (h8 : mW8 stk ≤ 8) (hcall : CT mj d [x1, x2, x3] M (.inl (some v)) M1 n1) (kk : AW mi (d + 1) nx loc (v :: stk) M1 o M2 n2) : AW mi (d + 1) pc loc (x3 :: x2 :: x1 :: stk) M o M2 (n1 + n2) := aw_callSH (as := [x1, x2, x3]) hd hC hok hs9 hh rfl hlen h8 hcall kk
theorem aw_callSn4 {mi d pc nx : Nat} {loc : List (Option mAV)} {stk : List mAV} {M : mM} {own : String} {ix mj : Nat} {x1 x2 x3 x4 : mAV} {o : mOut} {v : mAV} {M1 M2 : mM} {n1 n2 : Nat} (hd : mD mi pc 3 nx (.invokestatic ix)) (hC : mC mi = own) (hok : mCodeOk mj 4) (hs9 : mSiteS own ix mj) (hh : ¬ mHH mj = []) (hlen : (mEntL [x1, x2, x3, x4]).length ≤ mL mj) (h8 : mW8 stk ≤ 8) (hcall : CT mj d [x1, x2, x3, x4] M (.inl (some v)) M1 n1) (kk : AW mi (d + 1) nx loc (v :: stk) M1 o M2 n2) : AW mi (d + 1) pc loc (x4 :: x3 :: x2 :: x1 :: stk) M o M2 (n1 + n2) := aw_callSH (as := [x1, x2, x3, x4]) hd hC hok hs9 hh rfl hlen h8 hcall kk
theorem aw_callSn5 {mi d pc nx : Nat} {loc : List (Option mAV)} {stk : List mAV} {M : mM} {own : String} {ix mj : Nat} {x1 x2 x3 x4 x5 : mAV} {o : mOut} {v : mAV} {M1 M2 : mM} {n1 n2 : Nat} (hd : mD mi pc 3 nx (.invokestatic ix)) (hC : mC mi = own) (hok : mCodeOk mj 5) (hs9 : mSiteS own ix mj) (hh : ¬ mHH mj = []) (hlen : (mEntL [x1, x2, x3, x4, x5]).length ≤ mL mj) (h8 : mW8 stk ≤ 8) (hcall : CT mj d [x1, x2, x3, x4, x5] M (.inl (some v)) M1 n1) (kk : AW mi (d + 1) nx loc (v :: stk) M1 o M2 n2) : AW mi (d + 1) pc loc (x5 :: x4 :: x3 :: x2 :: x1 :: stk) M o M2 (n1 + n2) := aw_callSH (as := [x1, x2, x3, x4, x5]) hd hC hok hs9 hh rfl hlen h8 hcall kk
theorem hR_L_law : mR 226 = some .boolean := by decide +kernel
theorem ck_13 : Cond.classLink "AcreOfficeLaw" 13 tIAE ∈ lw_tbl := by decide +kernel
theorem cs_13 : Cond.castable tIAE tIAE ∈ lw_tbl := by decide +kernel
theorem ck_15 : Cond.classLink "AcreOfficeLaw" 15 tISE ∈ lw_tbl := by decide +kernel
theorem cs_15 : Cond.castable tISE tISE ∈ lw_tbl := by decide +kernel
theorem ck_32 : Cond.classLink "AcreOfficeLaw" 32 tIOB ∈ lw_tbl := by decide +kernel
theorem cs_32 : Cond.castable tIOB tIOB ∈ lw_tbl := by decide +kernel
