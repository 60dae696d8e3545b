/-! SETS OF BITS -/
def BR (x : Int64) (A : Nat → Bool) : Prop := ∀ k, x.toBitVec.getLsbD k = (decide (k < 54) && A k)
theorem BR.or {x y : Int64} {A B : Nat → Bool} (h : BR x A) (h2 : BR y B) : BR (x ||| y) (fun k => A k || B k) := fun k => by
  rw [Int64.toBitVec_or, BitVec.getLsbD_or, h k, h2 k]
  show _ = (decide (k < 54) && (A k || B k))
  cases decide (k < 54) <;> cases A k <;> cases B k <;> rfl
theorem BR.and {x y : Int64} {A B : Nat → Bool} (h : BR x A) (h2 : BR y B) : BR (x &&& y) (fun k => A k && B k) := fun k => by
  rw [Int64.toBitVec_and, BitVec.getLsbD_and, h k, h2 k]
  show _ = (decide (k < 54) && (A k && B k))
  cases decide (k < 54) <;> cases A k <;> cases B k <;> rfl
theorem BR.cg {x : Int64} {A B : Nat → Bool} (h : BR x A) (e : ∀ k, k < 54 → B k = A k) : BR x B := fun k => by
  rw [h k]
  by_cases hk : k < 54
  · rw [e k hk]
  · rw [decide_eq_false hk]; rfl
theorem BR.eq {x y : Int64} {A : Nat → Bool} (h : BR x A) (h2 : BR y A) : x = y := by
  apply Int64.toBitVec_inj.mp
  apply BitVec.eq_of_getLsbD_eq
  intro k _
  rw [h k, h2 k]
theorem BR.zero : BR (lN 0) (fun _ => false) := fun k => by
  show (BitVec.ofNat 64 0).getLsbD k = _
  simp
theorem BR.ne0 {x : Int64} {A : Nat → Bool} (h : BR x A) : x ≠ lN 0 ↔ ∃ k, k < 54 ∧ A k = true := by
  constructor
  · intro hx
    refine Classical.byContradiction fun hn => hx (BR.eq (h.cg (B := fun _ => false) (fun k hk => ?_)) BR.zero)
    cases hA : A k with
    | false => rfl
    | true => exact absurd ⟨k, hk, hA⟩ hn
  · rintro ⟨k, hk, hA⟩ rfl
    have h1 := h k
    have h2 := BR.zero k
    rw [h2, hA, decide_eq_true hk] at h1
    cases h1
theorem BR.one {j : Nat} (hj : j < 54) : BR (lN (2 ^ j)) (fun k => decide (k = j)) := fun k => by
  show (BitVec.ofNat 64 (2 ^ j)).getLsbD k = _
  rw [BitVec.getLsbD_ofNat, Nat.testBit_two_pow]
  by_cases hk : k = j
  · subst hk
    simp
    omega
  · simp [hk]
    intro _ z
    exact absurd z.symm hk
theorem l_one {j : Nat} (hj : j < 54) : lN 1 <<< ((nI j).toInt64 &&& 63) = lN (2 ^ j) := by
  have key : ∀ j : Fin 54, lN 1 <<< ((nI j.val).toInt64 &&& 63) = lN (2 ^ j.val) := by decide +kernel
  exact key ⟨j, hj⟩
