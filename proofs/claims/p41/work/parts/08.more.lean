section VXK2b
variable {p : Program} {l : Launch} {e : Env} {R : Room} {s : State} {m : MethodId} {args : Array Value} {below : List Frame} {meth : Method} {c : Code} {H : Heap} {locs : List Loc} {cells slots : Nat} {Q : State → Prop}
variable {ls : Array Slot} {rest : List Value} {D : va_G} {cl : List vw_C} {tys : List (ClassId × FieldType)} {ws : va_W}
/-- the same, the text by a wide index (the proof is that of vx_makeS) -/
theorem vx_makeSW {cc : ByteArray} {pc : Nat} (hexec : p.tables.exec = Jvm.exec) (hb : c.code = cc) (hl : l.stackTraces = false) {own cls text : String} {names : List String} {ik is ic sa ci : Nat} {A : Nat → Prop} {T0 : u_T}
    (hown : s.vm.findClass own = some m.cls) (hcls : Bundle.fit cls = true) (hnames : ∀ n ∈ names, Bundle.fit n = true)
    (hk : (Cond.classLink own ik cls).before args s = true) (hini : (Cond.initialized cls).before args s = true) (hstr : vk_R own is text sa s) (hat : ∀ w ∈ vx_atS own ic cls names, w.before args s = true)
    (hgood : ∀ w ∈ Cond.classLink own ik cls :: Cond.initialized cls :: vx_atS own ic cls names, vx_ot w = true)
    (hU : vx_Zq Bundle.tN "UNASSIGNED_STACK" Bundle.steD A s s.heap) (hN : vx_Zq Bundle.tN "SUPPRESSED_SENTINEL" Bundle.listD A s s.heap) (hS : va_S A s.heap H locs) (hsize : ls.size = c.maxLocals)
    (d0 : decode cc pc = .ok (.new ik, 3)) (d3 : decode cc (pc + 3) = .ok (.dup, 1)) (d4 : decode cc (pc + 4) = .ok (.ldc_w is, 3)) (d7 : decode cc (pc + 7) = .ok (.invokespecial ic, 3))
    (hK : va_K D cl tys s) (hP : va_P D cl ws H) (hD : va_D A ws) (hA : ∀ q, s.heap.size ≤ q → A q) (hc : cl[ci]? = some (cls, T0, 0))
    (hRframes : names.length + 3 < R.frames) (hRlocals : (rest.map fun v => v.category).sum + (13 * (names.length + 1) + 43) ≤ R.locals) (hRcells : cells + 1 ≤ R.cells) (hRslots : slots + 6 ≤ R.slots)
    (kk : ∀ (q : Nat) (H1 : Heap), va_P D cl (ws ++ [(q, .inr (ci, []))]) H1 → va_D A (ws ++ [(q, .inr (ci, []))]) → va_S A s.heap H1 locs → W p l e R s m args below meth c H1 locs (cells + 1) (slots + 6) Q (F0 m (pc + 10) ls (.ref q :: rest))) :
    W p l e R s m args below meth c H locs cells slots Q (F0 m pc ls rest) := by
  intro T hT X
  subst hT
  have htr : e.platform.stackTraces = false := (show e.platform.stackTraces = l.stackTraces by rw [X.admits.platform]).trans hl
  have Y := vx_rebase X (R' := { frames := R.frames, locals := R.locals, cells := 1, slots := 6 }) (Nat.le_refl _) (Nat.le_refl _) hRcells hRslots
  obtain ⟨s', hA'⟩ : ∃ z, z = (T.setVm s.vm).setFrames (.invoking m args :: below) := ⟨_, rfl⟩
  rw [← hA'] at Y
  have hvm : s'.vm = s.vm := by rw [hA']; rfl
  have hhp : s'.heap = T.heap := by rw [hA']; rfl
  have hW0 : s.WarmedH s'.vm := by rw [hvm]; exact State.WarmedH.refl s
  have hat' : ∀ w ∈ vx_atS own ic cls names, w.before args s' = true := fun w hw => vx_ot_at hW0 hvm.symm (hgood w (List.mem_cons_of_mem _ (List.mem_cons_of_mem _ hw))) (hat w hw)
  have hk' : (Cond.classLink own ik cls).before args s' = true := vx_ot_at hW0 hvm.symm (hgood _ List.mem_cons_self) hk
  have hini' : (Cond.initialized cls).before args s' = true := vx_ot_at hW0 hvm.symm (hgood _ (List.mem_cons_of_mem _ List.mem_cons_self)) hini
  have hU' : vx_Zq Bundle.tN "UNASSIGNED_STACK" Bundle.steD A s' s'.heap := by rw [hhp]; exact vx_Zq.moved hW0.alike (hU.kept hS.2.1)
  have hN' : vx_Zq Bundle.tN "SUPPRESSED_SENTINEL" Bundle.listD A s' s'.heap := by rw [hhp]; exact vx_Zq.moved hW0.alike (hN.kept hS.2.1)
  have h : ∀ w ∈ Bundle.ownAtoms own ic cls names, w.before args s' = true := vx_own hat' (vx_isRefq hU'.1) (vx_isRefq hN'.1) hU'.2.word hN'.2.word
  have hown' : s'.vm.findClass own = some m.cls := by rw [hvm]; exact hown
  have hins : (Cond.instantiable cls 6).before args s' = true := h _ (by simp [Bundle.ownAtoms])
  obtain ⟨vm₁, cX, kX, hfX, hkX, -, -, X₁, st1⟩ := Y.newCold hexec (own := own) (C := cls) (index := ik) (n := 6) hown' hk' hins hini'
    (g := F0 m pc ls rest) rfl (by rw [hb]; exact d0) (Nat.le_refl _) (Nat.le_refl _)
  generalize hT1 : (T.setVm vm₁).pushCell { cls := cX, slots := kX.instanceTypes.map defaultValue, vm := .none } = T1 at X₁ st1
  have hcat : (Value.ref T.heap.size).category = 1 := rfl
  have hcellA : T1.heap[T.heap.size]? = some (freshCell cX kX) := by rw [← hT1]; exact State.heap_pushCell_size _ _
  have d3' : decode c.code (pc + 3) = .ok (.dup, 1) := by rw [hb]; exact d3
  have d4' : decode c.code (pc + 4) = .ok (.ldc_w is, 3) := by rw [hb]; exact d4
  have hstr' : vk_R own is text sa s' := vk_R.warm hW0 hstr
  obtain ⟨V, ce, L, Z, hL, hlt, hcl9, hvm9, st⟩ := vx_ctorMadeS X₁ hexec htr (own := own) (cls := cls) (names := names) (ic := ic) hown' hcls hnames h (fun x hx => nomatch hx) hfX hkX hcellA (by rw [hhp]; exact Nat.le_refl _) (msg := .ref sa) rfl
    (g := { method := m, pc := pc + 7, locals := ls, stack := .ref sa :: .ref T.heap.size :: .ref T.heap.size :: rest, locked := none }) rfl hsize (rest := rest) rfl
    (by rw [hb]; exact d7) hRframes (by simp only [List.map_cons, List.sum_cons, hcat]; omega)
  have Z0 := Stand.forget (locs := []) Z (fun y hy => by rw [hL y hy, hhp]; exact Nat.le_refl _)
  obtain ⟨f1, f2⟩ := vx_frame Z0.same
  rw [hhp] at f1 f2
  have hcid : ce.cls = D.1 ci := by
    rw [hcl9]
    have h1 := (hK.1 ci _ hc).2.1
    rw [hvm] at hfX
    exact Option.some.inj (hfX.symm.trans h1)
  have hh : (V.setCell T.heap.size ce).heap[T.heap.size]? = some ce := heapAt_setCell_self (s := V) ce hlt
  subst hA'
  have X5 := vx_back9 X Y Z0
  have X6 : Stand p l e R s m args below meth c (V.setCell T.heap.size ce) locs (cells + 1) (slots + 6) := { X5 with same := X5.same.mono (by omega) (by omega) }
  have hk9 : ∀ (k : Nat) (x : Nat × va_E), ws[k]? = some x → (V.setCell T.heap.size ce).heap[x.1]? = T.heap[x.1]? := fun k x hx => f2 x.1 ((hP k x hx).lt) (fun z hz => nomatch hz)
  obtain ⟨t, a1, b1⟩ := kk T.heap.size (V.setCell T.heap.size ce).heap ((hP.kept hk9).app (fun k x hx => by
      have hz : k < 1 := (List.getElem?_eq_some_iff.mp hx).1
      rw [show k = 0 by omega] at hx
      cases hx
      exact ⟨_, hc, ce, hh, hcid, hvm9, fun k hk => absurd hk (Nat.not_lt_zero k)⟩)) (hD.push hP rfl (hA _ hS.1)) ⟨Nat.le_trans hS.1 f1, fun q h1 h2 => (f2 q (Nat.lt_of_lt_of_le h1 hS.1) (fun z hz => nomatch hz)).trans (hS.2.1 q h1 h2), hS.2.2⟩ _ rfl X6
  refine ⟨t, st1 _ ?_, b1⟩
  show Steps p.tables e below (T1.setTop { method := m, pc := pc + 3, locals := ls, stack := .ref T.heap.size :: rest, locked := none }) _
  jvm_step X₁.here [X₁.here.top, hexec, d3', Value.category]
  exact X₁.ldcStringW hexec (own := own) (text := text) (index := is) (a := sa) hown' hstr'.1 hstr'.2
    (g := { method := m, pc := pc + 4, locals := ls, stack := .ref T.heap.size :: .ref T.heap.size :: rest, locked := none }) rfl d4' _ (st _ a1)
end VXK2b
def mNames : List String := ["java/lang/RuntimeException", "java/lang/Exception"]
def mTh (ik ic ci : Nat) (cls : String) : Prop := mCl[ci]? = some (cls, mTE, 0) ∧ Cond.classLink "AcreOffice" ik cls ∈ lw_tbl ∧ Cond.initialized cls ∈ lw_tbl ∧ (∀ w ∈ vx_atS "AcreOffice" ic cls mNames, w ∈ lw_tbl) ∧ (∀ w ∈ vx_atS "AcreOffice" ic cls mNames, mWarm w = true) ∧ (∀ w ∈ Cond.classLink "AcreOffice" ik cls :: Cond.initialized cls :: vx_atS "AcreOffice" ic cls mNames, vx_ot w = true) ∧ Bundle.fit cls = true ∧ (∀ n ∈ mNames, Bundle.fit n = true)
theorem th_IAE : mTh 44 48 7 tIAE := ⟨rfl, by decide +kernel, by decide +kernel, by decide +kernel, by decide +kernel, by decide +kernel, by decide +kernel, by decide +kernel⟩
theorem th_ISE : mTh 66 70 8 tISE := ⟨rfl, by decide +kernel, by decide +kernel, by decide +kernel, by decide +kernel, by decide +kernel, by decide +kernel, by decide +kernel⟩
theorem th_IOB : mTh 103 107 9 tIOB := ⟨rfl, by decide +kernel, by decide +kernel, by decide +kernel, by decide +kernel, by decide +kernel, by decide +kernel, by decide +kernel⟩
set_option maxHeartbeats 4000000 in
theorem aw_throw {mi d pc p1 p2 p3 p4 p5 ik is ic ci si : Nat} {cls tx : String} {loc : List (Option mAV)} {stk : List mAV} {M : mM} (d0 : mD mi pc 3 p1 (.new ik)) (d1 : mD mi p1 1 p2 .dup) (d2 : mD mi p2 2 p3 (.ldc is)) (d3 : mD mi p3 3 p4 (.invokespecial ic)) (d4 : mD mi p4 1 p5 .athrow) (hC : mC mi = "AcreOffice") (hth : mTh ik ic ci cls) (hst : mStr[si]? = some (is, tx)) (hhi : mHH mi = []) (h8 : mW8 stk ≤ 8) : AW mi (d + 6) pc loc stk M (.inr cls) M 1 := by
  intro D ρ cA bs LS sa xs p l e R s m args below meth c Q cE sE hF hcE hsE hFin H locs ls cells slots hc hs hRep hS hl
  obtain ⟨d0, rfl⟩ := d0
  obtain ⟨d1, rfl⟩ := d1
  obtain ⟨d2, rfl⟩ := d2
  obtain ⟨d3, rfl⟩ := d3
  obtain ⟨d4, rfl⟩ := d4
  obtain ⟨hx, hb, hml, hown, htab, hlocks, hr, hl0, hfr, hlo, hV, hH, hLS⟩ := id hF
  obtain ⟨t1, t2, t3, t4, t5, t6, t7, t8⟩ := hth
  rw [hC] at hown
  have h9 := cv_sum8 (ρ := ρ) h8
  have hA : ∀ q, s.heap.size ≤ q → mA0 bs q := fun q h => Nat.le_trans hH.2.2.1 h
  refine vx_makeS (names := mNames) (ci := ci) hx hb hl0 hown t7 t8 (hV.w t2 rfl) (hV.w t3 rfl) (hV.2.2.2.1 si _ hst) (fun w hw => hV.w (t4 w hw) (t5 w hw)) t6 hH.1 hH.2.1 hS (hl.1.trans hml.symm) d0 d1 d2 d3 hV.K hRep.1.1 hRep.1.2.1 hA t1 (by show 2 + 3 < R.frames; omega) (by show _ + (13 * (2 + 1) + 43) ≤ R.locals; omega) (by omega) (by omega) (fun q H1 hP1 hD1 hS1 => ?_)
  refine vx_athrow hx hb (by first | exact d4 | exact (show decode (mB mi) _ = _ from d4)) ?_
  obtain ⟨r9, e1, cell, q1, q2, q3, -⟩ := hP1 (mWs ρ cA M).length (q, .inr (ci, [])) (by simp)
  have e2 := Option.some.inj (e1.symm.trans t1)
  have hcl : s.vm.findClass cls = some cell.cls := by
    rw [q2]
    exact (hV.2.1 ci _ t1).2.1
  have hR1 : mRp D ρ cA bs LS xs M H1 := ⟨⟨fun k z hz => hP1 k z (by rw [List.getElem?_append_left (List.getElem?_eq_some_iff.mp hz).1]; exact hz), hRep.1.2.1, hRep.1.2.2⟩, hRep.2⟩
  exact vx_widen (by omega) (by omega) (hFin H1 locs ls _ (stk.map (cv ρ)) q cell (by rw [htab, hhi]; intro x hx9; cases hx9) hR1 hS1 q1 q3 hcl)
set_option maxHeartbeats 4000000 in
theorem aw_throwW {mi d pc p1 p2 p3 p4 p5 ik is ic ci si : Nat} {cls tx : String} {loc : List (Option mAV)} {stk : List mAV} {M : mM} (d0 : mD mi pc 3 p1 (.new ik)) (d1 : mD mi p1 1 p2 .dup) (d2 : mD mi p2 3 p3 (.ldc_w is)) (d3 : mD mi p3 3 p4 (.invokespecial ic)) (d4 : mD mi p4 1 p5 .athrow) (hC : mC mi = "AcreOffice") (hth : mTh ik ic ci cls) (hst : mStr[si]? = some (is, tx)) (hhi : mHH mi = []) (h8 : mW8 stk ≤ 8) : AW mi (d + 6) pc loc stk M (.inr cls) M 1 := by
  intro D ρ cA bs LS sa xs p l e R s m args below meth c Q cE sE hF hcE hsE hFin H locs ls cells slots hc hs hRep hS hl
  obtain ⟨d0, rfl⟩ := d0
  obtain ⟨d1, rfl⟩ := d1
  obtain ⟨d2, rfl⟩ := d2
  obtain ⟨d3, rfl⟩ := d3
  obtain ⟨d4, rfl⟩ := d4
  obtain ⟨hx, hb, hml, hown, htab, hlocks, hr, hl0, hfr, hlo, hV, hH, hLS⟩ := id hF
  obtain ⟨t1, t2, t3, t4, t5, t6, t7, t8⟩ := hth
  rw [hC] at hown
  have h9 := cv_sum8 (ρ := ρ) h8
  have hA : ∀ q, s.heap.size ≤ q → mA0 bs q := fun q h => Nat.le_trans hH.2.2.1 h
  refine vx_makeSW (names := mNames) (ci := ci) hx hb hl0 hown t7 t8 (hV.w t2 rfl) (hV.w t3 rfl) (hV.2.2.2.1 si _ hst) (fun w hw => hV.w (t4 w hw) (t5 w hw)) t6 hH.1 hH.2.1 hS (hl.1.trans hml.symm) d0 d1 d2 d3 hV.K hRep.1.1 hRep.1.2.1 hA t1 (by show 2 + 3 < R.frames; omega) (by show _ + (13 * (2 + 1) + 43) ≤ R.locals; omega) (by omega) (by omega) (fun q H1 hP1 hD1 hS1 => ?_)
  refine vx_athrow hx hb (by first | exact d4 | exact (show decode (mB mi) _ = _ from d4)) ?_
  obtain ⟨r9, e1, cell, q1, q2, q3, -⟩ := hP1 (mWs ρ cA M).length (q, .inr (ci, [])) (by simp)
  have e2 := Option.some.inj (e1.symm.trans t1)
  have hcl : s.vm.findClass cls = some cell.cls := by
    rw [q2]
    exact (hV.2.1 ci _ t1).2.1
  have hR1 : mRp D ρ cA bs LS xs M H1 := ⟨⟨fun k z hz => hP1 k z (by rw [List.getElem?_append_left (List.getElem?_eq_some_iff.mp hz).1]; exact hz), hRep.1.2.1, hRep.1.2.2⟩, hRep.2⟩
  exact vx_widen (by omega) (by omega) (hFin H1 locs ls _ (stk.map (cv ρ)) q cell (by rw [htab, hhi]; intro x hx9; cases hx9) hR1 hS1 q1 q3 hcl)
/-- a place that holds nothing that is used -/
def mStX (loc : List (Option mAV)) (i : Nat) : List (Option mAV) := (mKill loc i).set i none
theorem lR.stX {ρ : mRef → Nat} {n i : Nat} {loc : List (Option mAV)} {ls ls' : Array Slot} {v : Value} (h : lR ρ n loc ls) (h' : lv_has ls' n ((i, v) :: (mkL ρ loc).filter (fun q => !(q.1 == i) && !(q.1 + 1 == i && q.2.category == 2)))) : lR ρ n (mStX loc i) ls' := by
  refine ⟨h'.1, h'.2.1, by unfold mStX; rw [List.length_set, mKill_len]; exact h.2.2.1, fun j b hb => ?_⟩
  unfold mStX at hb
  by_cases e : j = i
  · subst e
    rw [List.getElem?_set] at hb
    simp at hb
  · rw [List.getElem?_set_ne (fun q => e q.symm)] at hb
    obtain ⟨h1, h2⟩ := mKill_get hb e
    refine h'.2.2 (j, cv ρ b) (List.mem_cons_of_mem _ (List.mem_filter.mpr ⟨mkL_mem.mpr ⟨b, h1, rfl⟩, ?_⟩))
    by_cases h3 : j + 1 = i
    · have h4 : ¬ (cv ρ b).category = 2 := fun q => h2 ⟨h3, cv_cat2.mp q⟩
      simp [e, h4]
    · simp [e, h3]
set_option maxHeartbeats 4000000 in
/-- a call that throws, caught by this method's own row x of its table, past the rows ahead of it -/
theorem aw_callVC {mi d pc nx : Nat} {loc loc2 : List (Option mAV)} {stk : List mAV} {M : mM} {own E name : String} {ix mj nA st en hp ct hn2 : Nat} {i : Fin 4} {as : List mAV} {a b c0 : Nat} {o : mOut} {M1 M2 : mM} {n1 n2 : Nat} {hpre hsuf : List (Nat × Nat × Nat × Nat)} (hd : mD mi pc 3 nx (.invokevirtual ix)) (hC : mC mi = own) (hok : mCodeOk mj nA) (hs9 : mSiteV own ix mj) (hh : mHH mj = []) (ho : mOk (a, b, c0)) (ha : a < 7) (hCn : [RX0, RX1, RX2, RX3, RX4, RX5, RX6].getD a "" = (mY mj).cls) (hn : as.length = nA) (hlen : (mEntL (vR a b c0 :: as)).length ≤ mL mj) (h8 : mW8 stk ≤ 8)
    (hcall : CT mj d (vR a b c0 :: as) M (.inr E) M1 n1) (htb : mHH mi = hpre ++ (st, en, hp, ct) :: hsuf) (hpass : ∀ z ∈ hpre, z.2.2.2 ≠ 0 ∧ ∃ nm, Cond.classLink own z.2.2.2 nm ∈ lw_tbl ∧ (E, nm) ∈ mNcs) (hcov : st ≤ pc ∧ pc < en) (hct : ct ≠ 0) (hlk : Cond.classLink own ct name ∈ lw_tbl) (hcast : Cond.castable E name ∈ lw_tbl)
    (hd2 : mD mi hp 1 hn2 (.astore_n i)) (hi : (i : Nat) < loc.length) (hq : mStX loc i = loc2) (kk : AW mi (d + 1) hn2 loc2 [] M1 o M2 n2) : AW mi (d + 1) pc loc (as.reverse ++ vR a b c0 :: stk) M o M2 (n1 + n2) := by
  intro D ρ cA bs LS sa xs p l e R s m args below meth c Q cE sE hF hcE hsE hFin H locs ls cells slots hc hs hRep hS hl
  obtain ⟨hdg, rfl⟩ := hd
  obtain ⟨hdg2, rfl⟩ := hd2
  subst hq
  obtain ⟨hx, hb, hml, hown, htab, hlocks, hr, hl0, hfr, hlo, hV, hH, hLS⟩ := id hF
  rw [hC] at hown
  have hM := ct_met (l := l) (D := D) (ρ := ρ) (cA := cA) (bs := bs) (LS := LS) (sa := sa) (xs := xs) hl0 hLS hok hlen hcall
  have hRun : vx_Run p l e R s m args below meth c H locs cells slots n1 (6 * n1) (F0 m pc ls ((as.reverse ++ vR a b c0 :: stk).map (cv ρ))) (stk.map (cv ρ)) (mQc D ρ cA bs LS xs (.inr E) M1 (Value.ref (ρ (a, b, c0)) :: as.map (cv ρ)).toArray) (mXC D ρ cA bs LS xs (.inr E) M1) (mA0 bs) := vx_runV (As := as.map (cv ρ)) (rest := stk.map (cv ρ)) (H := H) (locs := locs) (cells := cells) (slots := slots) (g := F0 m pc ls ((as.reverse ++ vR a b c0 :: stk).map (cv ρ))) (Ts := []) ⟨hx, hb, hml, hown, fun _ h => nomatch h⟩ hM ⟨hok.callB hV hh hs9.1 hfr hlo, hV.w hs9.2.1 rfl, hV.w hs9.2.2 rfl⟩ ⟨mPc_blind, m_recv hV hRep ho ha hCn, mPc_at (as := vR a b c0 :: as) hV hH hS hRep⟩ rfl (by rw [List.length_map]; exact hn) hl.1 (by simp; try rfl) (lv_room (cv_sum8 h8)) hdg ⟨by omega, by omega⟩
  intro T hT X
  rcases hRun T hT X with ⟨v9, st₀, t, T', L, h0, X', hL, e1, e2, ⟨⟨v8, hv8, hv9⟩, hR9, hF9⟩, st9⟩ | ⟨q, st₀, t, T', L, E9, ce, h0, X', hL, e1, e2, ⟨hoE, hR9, hF9⟩, hce, hcv, hcl, st9⟩
  · cases hv8
  · cases hoE
    obtain ⟨k1, k2, k3⟩ := vx_keep h0 e1 hS (fun _ _ h => h) (fun _ h => h) hL hF9
    have hsp : c.exceptionTable.toList = tableOf hpre ++ ⟨st, en, hp, ct⟩ :: tableOf hsuf := by rw [htab, htb]; simp [tableOf]
    have K : vx_W p l e R s m args below meth c T'.heap (locs ++ L) (cells + n1) (slots + 6 * n1) Q (F0 m pc ls (stk.map (cv ρ))) q := by
      refine vx_catch hown (tableOf hpre) ⟨st, en, hp, ct⟩ (tableOf hsuf) hsp ?_ (by simp [covers, hcov]) hct (hV.w hlk rfl) (hV.w hcast rfl) (by rw [e1]; exact hce) hcv hcl ?_
      · intro z hz
        obtain ⟨z9, hz9, rfl⟩ := List.mem_map.mp hz
        obtain ⟨h1, nm, h2, h3⟩ := hpass z9 hz9
        exact Or.inr ⟨h1, nm, hV.w h2 rfl, hV.2.2.2.2 _ h3⟩
      · exact lv_astore_n hx hb hdg2 rfl hl.has (by rw [← hl.2.2.1]; exact hi) rfl (fun ls9 h9 => kk D ρ cA bs LS sa xs p l e R s m args below meth c Q cE sE hF hcE hsE hFin T'.heap (locs ++ L) ls9 (cells + n1) (slots + 6 * n1) (by omega) (by omega) (by rw [e1]; exact hR9) k3 (hl.stX h9))
    obtain ⟨t2, a1, b1⟩ := K T' rfl X'
    exact ⟨t2, st9.trans a1, b1⟩
set_option maxHeartbeats 4000000 in
theorem aw_acopy {mi d pc nx : Nat} {loc : List (Option mAV)} {stk : List mAV} {M : mM} {o : mOut} {M1 : mM} {n : Nat} {own : String} {ix a b c0 a' b' c0' k : Nat} (hd : mD mi pc 3 nx (.invokestatic ix)) (hC : mC mi = own) (hl9 : Cond.methodLink own ix arraycopyName ∈ lw_tbl) (hnt : Cond.native arraycopyName ∈ lw_tbl ∧ Cond.static arraycopyName ∈ lw_tbl ∧ Cond.initialized "java/lang/System" ∈ lw_tbl) (ho : mOk (a, b, c0)) (ho' : mOk (a', b', c0')) (hk : mIsI (a, b, c0) = true) (hk' : mIsI (a', b', c0') = true) (ht : mTy (a, b, c0) = .int) (ht' : mTy (a', b', c0') = .int) (hle : k ≤ mLen (a, b, c0)) (hle' : k ≤ mLen (a', b', c0')) (hk9 : k < 2 ^ 31) (h8 : mW8 stk ≤ 8) (kk : AW mi (d + 1) nx loc stk (mCpy M (a, b, c0) (a', b', c0') k) o M1 n) : AW mi (d + 1) pc loc (vI (nI k) :: vI 0 :: vR a' b' c0' :: vI 0 :: vR a b c0 :: stk) M o M1 n := by
  intro D ρ cA bs LS sa xs p l e R s m args below meth c Q cE sE hF hcE hsE hFin H locs ls cells slots hc hs hRep hS hl
  obtain ⟨hdg, rfl⟩ := hd
  have k9 := fun H9 locs9 hR9 hS9 => kk D ρ cA bs LS sa xs p l e R s m args below meth c Q cE sE hF hcE hsE hFin H9 locs9 ls cells slots hc hs hR9 hS9 hl
  obtain ⟨hx, hb, hml, hown, htab, hlocks, hr, hl0, hfr, hlo, hV, hH, hLS⟩ := id hF
  rw [hC] at hown
  obtain ⟨q0, -, hw⟩ := mWs_at (ρ := ρ) (cA := cA) M (mOk_mem ho)
  obtain ⟨q1, hq1, hw1⟩ := mWs_at (ρ := ρ) (cA := cA) M (mOk_mem ho')
  obtain ⟨e1, e2⟩ := mCell_arr (ρ := ρ) (cA := cA) (M := M) hk
  obtain ⟨e1', e2'⟩ := mCell_arr (ρ := ρ) (cA := cA) (M := M) hk'
  rw [e1] at hw
  rw [e1'] at hw1
  have hK := hV.KA2 (mOk_mem ho) e2 (mOk_mem ho') e2'
  have h9 := cv_sum8 (ρ := ρ) h8
  have hz : ((0 : Int32)).toNatClampNeg = 0 := rfl
  refine va_copyi hx hb (hml.trans hl.1.symm) hown (hV.w hl9 rfl) (hV.w hnt.1 rfl) (hV.w hnt.2.1 rfl) (hV.w hnt.2.2 rfl) hK hRep.1.1 hRep.1.2.1 hS q0 q1 0 1 hw hw1 (ty := .int) (by rw [ht]; rfl) (by rw [ht']; rfl) rfl (sp := 0) (dp := 0) (n := nI k) (by decide) (by decide) (nI_pos hk9) (by rw [nI_clamp hk9, hz]; omega) (by rw [nI_clamp hk9, hz]; omega) (fun i _ => rfl) (by omega) (by show _ + (7 + 11) ≤ R.locals; omega) hdg (fun H1 locs1 a1 a2 a3 => ?_)
  have e9 : mCell ρ cA (mCpy M (a, b, c0) (a', b', c0') k) (a', b', c0') = .inl (cA (a', b', c0'), mLen (a', b', c0'), .inl (va_cpy (M (a, b, c0)) (M (a', b', c0')) ((0 : Int32)).toNatClampNeg ((0 : Int32)).toNatClampNeg (nI k).toNatClampNeg)) := by
    rw [(mCell_arr (ρ := ρ) (cA := cA) (M := mCpy M (a, b, c0) (a', b', c0') k) hk').1]
    congr 4
    funext q
    unfold mCpy va_cpy
    rw [nI_clamp hk9, hz]
    simp
  rw [← e9] at a1 a2
  exact k9 H1 locs1 (hRep.set (mOk_mem ho') hq1 (fun r' h => mCpy_ne h) a1 a2) a3
/-- the script -/
theorem aw_sload {mi d pc nx : Nat} {loc : List (Option mAV)} {stk : List mAV} {M : mM} {o : mOut} {M1 : mM} {n : Nat} {i : Int32} (hd : mD mi pc 1 nx .iaload) (h0 : 0 ≤ i) (h1 : i < M (16, 0, 0) 0) (kk : AW mi d nx loc (vI (M (15, 0, 0) i.toNatClampNeg) :: stk) M o M1 n) : AW mi d pc loc (vI i :: vR 15 0 0 :: stk) M o M1 n := by
  intro D ρ cA bs LS sa xs p l e R s m args below meth c Q cE sE hF hcE hsE hFin H locs ls cells slots hc hs hRep hS hl
  obtain ⟨hdg, rfl⟩ := hd
  have k9 := kk D ρ cA bs LS sa xs p l e R s m args below meth c Q cE sE hF hcE hsE hFin H locs ls cells slots hc hs hRep hS hl
  obtain ⟨hx, hb, hml, hown, htab, hlocks, hr, hl0, hfr, hlo, hV, hH, hLS⟩ := hF
  have e1 := hRep.2
  have e2 := hRep.1.2.2
  rw [e1] at h1
  have hin : vp_in i LS := by
    rw [vp_in_iff]
    refine ⟨Int32.le_iff_toInt_le.mp h0, ?_⟩
    have h3 := Int32.lt_iff_toInt_lt.mp h1
    have h4 : (Int32.ofNat LS).toInt = (LS : Int) := nI_toInt hLS
    omega
  rw [e2] at k9
  exact va_sld hx hb hH.2.2.2.1 (Nat.lt_of_lt_of_le hH.2.2.2.2 hH.2.2.1) (Nat.not_le.mpr hH.2.2.2.2) hS hin hdg k9
theorem aw_slen {mi d pc nx : Nat} {loc : List (Option mAV)} {stk : List mAV} {M : mM} {o : mOut} {M1 : mM} {n : Nat} (hd : mD mi pc 1 nx .arraylength) (kk : AW mi d nx loc (vI (M (16, 0, 0) 0) :: stk) M o M1 n) : AW mi d pc loc (vR 15 0 0 :: stk) M o M1 n := by
  intro D ρ cA bs LS sa xs p l e R s m args below meth c Q cE sE hF hcE hsE hFin H locs ls cells slots hc hs hRep hS hl
  obtain ⟨hdg, rfl⟩ := hd
  have k9 := kk D ρ cA bs LS sa xs p l e R s m args below meth c Q cE sE hF hcE hsE hFin H locs ls cells slots hc hs hRep hS hl
  obtain ⟨hx, hb, hml, hown, htab, hlocks, hr, hl0, hfr, hlo, hV, hH, hLS⟩ := hF
  rw [hRep.2] at k9
  exact va_slen hx hb hH.2.2.2.1 (Nat.lt_of_lt_of_le hH.2.2.2.2 hH.2.2.1) (Nat.not_le.mpr hH.2.2.2.2) hS hdg k9
theorem aw_tableIn {mi d pc nx : Nat} {loc : List (Option mAV)} {stk : List mAV} {M : mM} {o : mOut} {M1 : mM} {n : Nat} {dflt lo hi : Int} {offs : Array Int} {len : Nat} {x : Int32} {off : Int} {t : Nat} (hd : mD mi pc len nx (.tableswitch dflt lo hi offs)) (h1 : ¬ x.toInt < lo) (h2 : ¬ hi < x.toInt) (ho : offs[(x.toInt - lo).toNat]? = some off) (ht : (pc : Int) + off = (t : Int)) (kk : AW mi d t loc stk M o M1 n) : AW mi d pc loc (vI x :: stk) M o M1 n := by
  intro D ρ cA bs LS sa xs p l e R s m args below meth c Q cE sE hF hcE hsE hFin H locs ls cells slots hc hs hRep hS hl
  obtain ⟨hdg, rfl⟩ := hd
  have k9 := kk D ρ cA bs LS sa xs p l e R s m args below meth c Q cE sE hF hcE hsE hFin H locs ls cells slots hc hs hRep hS hl
  obtain ⟨hx, hb, -⟩ := hF
  exact lv_tableIn hx hb hdg h1 h2 ho ht k9
theorem aw_tableOut {mi d pc nx : Nat} {loc : List (Option mAV)} {stk : List mAV} {M : mM} {o : mOut} {M1 : mM} {n : Nat} {dflt lo hi : Int} {offs : Array Int} {len : Nat} {x : Int32} {t : Nat} (hd : mD mi pc len nx (.tableswitch dflt lo hi offs)) (h : x.toInt < lo ∨ hi < x.toInt) (ht : (pc : Int) + dflt = (t : Int)) (kk : AW mi d t loc stk M o M1 n) : AW mi d pc loc (vI x :: stk) M o M1 n := by
  intro D ρ cA bs LS sa xs p l e R s m args below meth c Q cE sE hF hcE hsE hFin H locs ls cells slots hc hs hRep hS hl
  obtain ⟨hdg, rfl⟩ := hd
  have k9 := kk D ρ cA bs LS sa xs p l e R s m args below meth c Q cE sE hF hcE hsE hFin H locs ls cells slots hc hs hRep hS hl
  obtain ⟨hx, hb, -⟩ := hF
  exact lv_tableOut hx hb hdg h ht k9
