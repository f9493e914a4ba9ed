/-! THE FIRST STATE -/
def z0 : Nat → Int32 := fun _ => 0
def M0 (xs : Nat → Int32) (LS : Nat) : mM := fun r k => if r = (15, 0, 0) then xs k else if r = (16, 0, 0) then Int32.ofNat LS else 0
theorem M0_z {xs : Nat → Int32} {LS : Nat} {r : mRef} (h : r ≠ (15, 0, 0)) (h2 : r ≠ (16, 0, 0)) : M0 xs LS r = mZ r := by
  funext k
  unfold M0
  rw [if_neg h, if_neg h2]
  rfl
theorem M0_n {xs : Nat → Int32} {LS a b c k : Nat} (h : a < 15) : M0 xs LS (a, b, c) k = 0 := by
  rw [M0_z (fun e => by cases e; omega) (fun e => by cases e; omega)]
  rfl
theorem z0_N : fN z0 = 0 := rfl
theorem z0_C : fC z0 = 0 := rfl
theorem z0_gp : Gp z0 := by
  refine ⟨⟨by rw [z0_N]; rfl, by rw [z0_N]; decide, by rw [z0_C]; rfl, by rw [z0_C]; decide, fun i hi => by rw [z0_C] at hi; omega⟩, ⟨fun i hi => by rw [z0_N] at hi; omega, ⟨by decide, by decide⟩, ⟨by decide, by decide⟩, fun i hi => by rw [z0_C] at hi; omega, fun i h1 h2 k hk => rfl⟩, fun i hi => by rw [z0_C] at hi; omega⟩
theorem z0_ip : Ip z0 [] none := ⟨z0_gp, fun g hg => absurd hg (by simp), fun g hg => absurd hg (by simp)⟩
theorem cr0 {xs : Nat → Int32} {LS : Nat} : CR (M0 xs LS) z0 [] none z0 0 := by
  refine ⟨⟨by decide, ⟨0, rfl, by decide, M0_n (by decide), M0_n (by decide), M0_n (by decide), fun w hw j hj => ?_⟩, 0, rfl, by decide, M0_n (by decide), fun i hi => absurd hi (by omega)⟩, ⟨0, by decide, M0_n (by decide), M0_n (by decide), by decide, fun i g hg => absurd hg (by simp)⟩, ⟨M0_n (by decide), fun g hg => absurd hg (by simp)⟩, by decide, M0_n (by decide), fun j hj => absurd hj (by omega)⟩
  obtain rfl : j = 0 := by omega
  exact M0_n (by decide)
/-! all cells, by the order of their making -/
theorem aLs_perm : aLs.Perm mAll := List.isPerm_iff.mp (by decide +kernel)
def dA : mRef → Bool := fun r => decide (r.1 < 13) && !(r.1 == 6)
theorem aLs_in : ∀ r ∈ aLs, dA r = true := by decide +kernel
theorem dA_iff {r : mRef} : dA r = true ↔ r.1 < 13 ∧ r.1 ≠ 6 := by unfold dA; simp
theorem dA_cl : dCl dA := by
  refine ⟨fun r h k r' hk => ?_, fun r h h10 a => rfl, fun r h h11 a => rfl⟩
  have h6 := (dA_iff.mp h).2
  unfold mRf at hk
  split at hk <;> first
    | (exact absurd rfl h6)
    | (split at hk <;> first | (cases hk; done) | (cases hk; rfl))
    | (cases hk; done)
