/-! WHERE ONE CAN BE -/
/-- stands on floor f on some day -/
def stF (A : Nat → Bool) (f : Nat) : Bool := A (f * 7) || A (f * 7 + 1) || A (f * 7 + 2) || A (f * 7 + 3) || A (f * 7 + 4) || A (f * 7 + 5) || A (f * 7 + 6)
theorem l_week {f : Nat} (hf : f < 6) : (127 : Int64) <<< ((nI (f * 7)).toInt64 &&& 63) = lN (127 * 2 ^ (f * 7)) := by
  have key : ∀ f : Fin 6, (127 : Int64) <<< ((nI (f.val * 7)).toInt64 &&& 63) = lN (127 * 2 ^ (f.val * 7)) := by decide +kernel
  exact key ⟨f, hf⟩
theorem BR.week {f : Nat} (hf : f < 6) : BR (lN (127 * 2 ^ (f * 7))) (fun k => decide (f * 7 ≤ k ∧ k < f * 7 + 7)) := fun k => by
  by_cases hk : k < 64
  · have key : ∀ f : Fin 6, ∀ k : Fin 64, (lN (127 * 2 ^ (f.val * 7))).toBitVec.getLsbD k.val = (decide (k.val < 54) && decide (f.val * 7 ≤ k.val ∧ k.val < f.val * 7 + 7)) := by decide +kernel
    exact key ⟨f, hf⟩ ⟨k, hk⟩
  · rw [BitVec.getLsbD_of_ge _ _ (by omega), decide_eq_false (show ¬ k < 54 by omega)]; rfl
theorem BR.stands {x : Int64} {A : Nat → Bool} {f : Nat} (h : BR x A) (hf : f < 6) : lg_cmp (x &&& lN (127 * 2 ^ (f * 7))) (lN 0) = 0 ↔ stF A f = false := by
  have h1 := (h.and (BR.week hf)).ne0
  rw [lg_cmp_eq0]
  constructor
  · intro hx
    have hn : ¬ ∃ k, k < 54 ∧ (A k && decide (f * 7 ≤ k ∧ k < f * 7 + 7)) = true := fun z => h1.mpr z hx
    have ha : ∀ d, d < 7 → A (f * 7 + d) = false := fun d hd => by
      cases hA : A (f * 7 + d) with
      | false => rfl
      | true => exact absurd ⟨f * 7 + d, by omega, by rw [hA, decide_eq_true (by omega)]; rfl⟩ hn
    unfold stF
    rw [show A (f * 7) = false from ha 0 (by omega), ha 1 (by omega), ha 2 (by omega), ha 3 (by omega), ha 4 (by omega), ha 5 (by omega), ha 6 (by omega)]
    rfl
  · intro hs
    refine Classical.byContradiction fun hx => ?_
    obtain ⟨k, hk, hA⟩ := h1.mp hx
    rw [Bool.and_eq_true, decide_eq_true_iff] at hA
    obtain ⟨hA, h7⟩ := hA
    unfold stF at hs
    simp only [Bool.or_eq_false_iff] at hs
    obtain ⟨⟨⟨⟨⟨⟨s0, s1⟩, s2⟩, s3⟩, s4⟩, s5⟩, s6⟩ := hs
    rcases (show k = f * 7 ∨ k = f * 7 + 1 ∨ k = f * 7 + 2 ∨ k = f * 7 + 3 ∨ k = f * 7 + 4 ∨ k = f * 7 + 5 ∨ k = f * 7 + 6 by omega) with rfl | rfl | rfl | rfl | rfl | rfl | rfl
    · rw [s0] at hA; cases hA
    · rw [s1] at hA; cases hA
    · rw [s2] at hA; cases hA
    · rw [s3] at hA; cases hA
    · rw [s4] at hA; cases hA
    · rw [s5] at hA; cases hA
    · rw [s6] at hA; cases hA
theorem BR.sits {x : Int64} {A : Nat → Bool} {j : Nat} (h : BR x A) (hj : j < 54) : lg_cmp (x &&& lN (2 ^ j)) (lN 0) = 0 ↔ A j = false := by
  have h1 := (h.and (BR.one hj)).ne0
  rw [lg_cmp_eq0]
  constructor
  · intro hx
    cases hA : A j with
    | false => rfl
    | true => exact absurd hx (h1.mpr ⟨j, hj, by rw [hA, decide_eq_true rfl]; rfl⟩)
  · intro hs
    refine Classical.byContradiction fun hx => ?_
    obtain ⟨k, hk, hA⟩ := h1.mp hx
    rw [Bool.and_eq_true, decide_eq_true_iff] at hA
    rw [hA.2, hs] at hA
    cases hA.1
