/-! THE REFERENCE'S STEP: first all are turned out, then all have lunch -/
theorem NowR.set {Mi : MI} {a j w : Nat} {v : Int32} {S : Nat → Nat} (h : NowR Mi a S) (hv : v = eN j w) : NowR (upd2 Mi a j v) a (setS S j w) := by
  intro k hk
  by_cases hkj : k = j
  · subst hkj; rw [upd2_same, setS_s, hv]
  · rw [upd2_ne _ _ (by omega), setS_o hkj]; exact h k hk
theorem NowR.fr {Mi Mi' : MI} {a : Nat} {S : Nat → Nat} (h : NowR Mi a S) (e : Mi' a = Mi a) : NowR Mi' a S := fun k hk => by rw [e]; exact h k hk
theorem NowR.cg {Mi : MI} {a : Nat} {S S' : Nat → Nat} (h : NowR Mi a S) (e : ∀ k, k < 54 → S' k = S k) : NowR Mi a S' := fun k hk => by rw [e k hk]; exact h k hk
def tuS (S : Nat → Nat) (i : Nat) : Nat → Nat := fun j => if j = 1 then S 1 + 1 else if j < 18 ∨ i ≤ (j - 18) / 6 then S j else if (j - 18) % 6 = 2 then goF S ((j - 18) / 6) else if (j - 18) % 6 = 3 then goC S ((j - 18) / 6) else if (j - 18) % 6 = 4 then goD S ((j - 18) / 6) else S j
section TuS
variable {S : Nat → Nat} {i p j : Nat}
theorem tuS_1 : tuS S i 1 = S 1 + 1 := rfl
theorem tuS_lo (h : j < 18) (h1 : j ≠ 1) : tuS S i j = S j := by unfold tuS; rw [if_neg h1, if_pos (Or.inl h)]
theorem tuS_hi (h : 18 + 6 * i ≤ j) : tuS S i j = S j := by unfold tuS; rw [if_neg (by omega), if_pos (Or.inr (by omega))]
theorem tuS_k (t : Nat) (ht : t = 0 ∨ t = 1 ∨ t = 5) : tuS S i (18 + 6 * p + t) = S (18 + 6 * p + t) := by
  unfold tuS
  rw [if_neg (by omega)]
  split
  · rfl
  · rw [if_neg (by omega), if_neg (by omega), if_neg (by omega)]
theorem tuS_f (h : p < i) : tuS S i (20 + 6 * p) = goF S p := by unfold tuS; rw [if_neg (by omega), if_neg (by omega), if_pos (by omega), show (20 + 6 * p - 18) / 6 = p by omega]
theorem tuS_c (h : p < i) : tuS S i (21 + 6 * p) = goC S p := by unfold tuS; rw [if_neg (by omega), if_neg (by omega), if_neg (by omega), if_pos (by omega), show (21 + 6 * p - 18) / 6 = p by omega]
theorem tuS_d (h : p < i) : tuS S i (22 + 6 * p) = goD S p := by unfold tuS; rw [if_neg (by omega), if_neg (by omega), if_neg (by omega), if_neg (by omega), if_pos (by omega), show (22 + 6 * p - 18) / 6 = p by omega]
end TuS
theorem go_bounds {S : Nat → Nat} (hW : WF S) {p : Nat} (hp : p < S 0) : goF S p < S 2 ∧ goC S p ≤ 2 * S 2 ∧ goD S p < 7 := by
  obtain ⟨w0, w1, w2, w3, w4, w5, w6, w7⟩ := hW
  obtain ⟨q0, q1, q2, q3, q4, q5⟩ := w7 p hp
  refine ⟨?_, ?_, ?_⟩
  · unfold goF; split
    · exact flN_lt (plN_lt (by omega))
    · exact q2
  · unfold goC; split <;> omega
  · unfold goD; split
    · rename_i h
      simp [tnB] at h
      exact w6 _ (by omega)
    · exact q4
theorem tuS_WF {S : Nat → Nat} (hW : WF S) (h1 : S 1 < 10100) (i : Nat) (hi : i ≤ S 0) : WF (tuS S i) := by
  have hb := fun p hp => go_bounds hW (p := p) hp
  obtain ⟨w0, w1, w2, w3, w4, w5, w6, w7⟩ := hW
  unfold WF
  rw [tuS_1, tuS_lo (show 0 < 18 by decide) (by decide), tuS_lo (show 2 < 18 by decide) (by decide), tuS_lo (show 3 < 18 by decide) (by decide), tuS_lo (show 4 < 18 by decide) (by decide), tuS_lo (show 5 < 18 by decide) (by decide)]
  refine ⟨w0, by omega, w2, w3, w4, w5, fun k hk => by rw [tuS_lo (by omega) (by omega)]; exact w6 k hk, fun p hp => ?_⟩
  obtain ⟨q0, q1, q2, q3, q4, q5⟩ := w7 p hp
  have e0 := tuS_k (S := S) (i := i) (p := p) 0 (by omega)
  have e1 := tuS_k (S := S) (i := i) (p := p) 1 (by omega)
  have e5 := tuS_k (S := S) (i := i) (p := p) 5 (by omega)
  rw [show 18 + 6 * p + 0 = 18 + 6 * p by omega] at e0
  rw [show 18 + 6 * p + 1 = 19 + 6 * p by omega] at e1
  rw [show 18 + 6 * p + 5 = 23 + 6 * p by omega] at e5
  rw [e0, e1, e5]
  by_cases hpi : p < i
  · rw [tuS_f hpi, tuS_c hpi, tuS_d hpi]
    obtain ⟨b1, b2, b3⟩ := hb p hp
    exact ⟨q0, q1, b1, b2, b3, by omega⟩
  · rw [tuS_hi (by omega), tuS_hi (by omega), tuS_hi (by omega)]
    exact ⟨q0, q1, q2, q3, q4, by omega⟩
theorem tuS_ge {S : Nat → Nat} {i j : Nat} (h : 18 ≤ j) : tuS S i j = if i ≤ (j - 18) / 6 then S j else if (j - 18) % 6 = 2 then goF S ((j - 18) / 6) else if (j - 18) % 6 = 3 then goC S ((j - 18) / 6) else if (j - 18) % 6 = 4 then goD S ((j - 18) / 6) else S j := by
  unfold tuS
  rw [if_neg (by omega)]
  by_cases hi : i ≤ (j - 18) / 6
  · rw [if_pos (Or.inr hi), if_pos hi]
  · rw [if_neg (show ¬ (j < 18 ∨ i ≤ (j - 18) / 6) by omega), if_neg hi]
theorem tuS_same {S : Nat → Nat} {i j : Nat} (h : j < 18 ∨ (j - 18) / 6 ≠ i) : tuS S (i + 1) j = tuS S i j := by
  by_cases hj : j < 18
  · by_cases h1 : j = 1
    · subst h1; rfl
    · rw [tuS_lo hj h1, tuS_lo hj h1]
  · rw [tuS_ge (by omega), tuS_ge (by omega)]
    by_cases hlt : (j - 18) / 6 < i
    · rw [if_neg (show ¬ i + 1 ≤ (j - 18) / 6 by omega), if_neg (show ¬ i ≤ (j - 18) / 6 by omega)]
    · rw [if_pos (show i + 1 ≤ (j - 18) / 6 by omega), if_pos (show i ≤ (j - 18) / 6 by omega)]
theorem tuS_st {S : Nat → Nat} {i : Nat} (ht : tnB S i = false) (j : Nat) : tuS S (i + 1) j = tuS S i j := by
  by_cases h : j < 18 ∨ (j - 18) / 6 ≠ i
  · exact tuS_same h
  · have hp : (j - 18) / 6 = i := by omega
    rw [tuS_ge (by omega), tuS_hi (show 18 + 6 * i ≤ j by omega), if_neg (show ¬ i + 1 ≤ (j - 18) / 6 by omega), hp]
    have hF : goF S i = S (20 + 6 * i) := by unfold goF; simp [ht]
    have hC : goC S i = S (21 + 6 * i) := by unfold goC; simp [ht]
    have hD : goD S i = S (22 + 6 * i) := by unfold goD; simp [ht]
    split
    · rw [hF]; congr 1; omega
    · split
      · rw [hC]; congr 1; omega
      · split
        · rw [hD]; congr 1; omega
        · rfl
theorem tuS_ou {S : Nat → Nat} {i : Nat} (ht : tnB S i = true) (h12 : S (21 + 6 * i) ≤ 12) (j : Nat) : tuS S (i + 1) j = ouS (tuS S i) i j := by
  have hF : goF S i = flN (S 2) (plN (S 2) (S (21 + 6 * i) - 1) (S 1 + 1)) := by unfold goF; simp [ht]
  have hC : goC S i = 0 := by unfold goC; simp [ht]
  have hD : goD S i = S (6 + (S (21 + 6 * i) - 1)) := by unfold goD; simp [ht]
  obtain ⟨e1, e2, e3⟩ := ouS_f (S := tuS S i) (i := i)
  by_cases hf : j = 20 + 6 * i
  · subst hf
    rw [e1, tuS_f (by omega), hF, tuS_lo (show 2 < 18 by decide) (by decide), tuS_hi (show 18 + 6 * i ≤ 21 + 6 * i by omega), tuS_1]
  · by_cases hc : j = 21 + 6 * i
    · subst hc; rw [e2, tuS_c (by omega), hC]
    · by_cases hd : j = 22 + 6 * i
      · subst hd
        rw [e3, tuS_d (by omega), hD, tuS_hi (show 18 + 6 * i ≤ 21 + 6 * i by omega), tuS_lo (by omega) (by omega)]
      · rw [ouS_o hf hc hd]
        by_cases h : j < 18 ∨ (j - 18) / 6 ≠ i
        · exact tuS_same h
        · have hp : (j - 18) / 6 = i := by omega
          rw [tuS_ge (by omega), tuS_hi (show 18 + 6 * i ≤ j by omega), if_neg (show ¬ i + 1 ≤ (j - 18) / 6 by omega), if_neg (by omega), if_neg (by omega), if_neg (by omega)]
/-- lunch, for the first i -/
def lcS (S : Nat → Nat) (i : Nat) : Nat → Nat := fun j => if 18 ≤ j ∧ (j - 18) % 6 = 5 ∧ (j - 18) / 6 < i then goL S ((j - 18) / 6) else tuS S (S 0) j
theorem lcS_l {S : Nat → Nat} {i p : Nat} (h : p < i) : lcS S i (23 + 6 * p) = goL S p := by unfold lcS; rw [if_pos (by omega), show (23 + 6 * p - 18) / 6 = p by omega]
theorem lcS_o {S : Nat → Nat} {i j : Nat} (h : ¬ (18 ≤ j ∧ (j - 18) % 6 = 5 ∧ (j - 18) / 6 < i)) : lcS S i j = tuS S (S 0) j := by unfold lcS; rw [if_neg h]
theorem lcS_end {S : Nat → Nat} (j : Nat) : lcS S (S 0) j = goS S j := by
  unfold lcS goS
  by_cases h1 : j = 1
  · subst h1; rfl
  · rw [if_neg h1]
    by_cases hlo : j < 18 ∨ S 0 ≤ (j - 18) / 6
    · rw [if_pos hlo, if_neg (by omega)]
      unfold tuS
      rw [if_neg h1, if_pos hlo]
    · rw [if_neg hlo]
      by_cases h5 : (j - 18) % 6 = 5
      · rw [if_pos (by omega), if_neg (by omega), if_neg (by omega), if_neg (by omega), if_pos h5]
      · rw [if_neg (by omega), if_neg h5]
        unfold tuS
        rw [if_neg h1, if_neg hlo]
theorem lcS_st {S : Nat → Nat} {i : Nat} (j : Nat) : lcS S (i + 1) j = setS (lcS S i) (23 + 6 * i) (goL S i) j := by
  by_cases hj : j = 23 + 6 * i
  · subst hj; rw [setS_s, lcS_l (by omega)]
  · rw [setS_o hj]
    unfold lcS
    by_cases h : 18 ≤ j ∧ (j - 18) % 6 = 5 ∧ (j - 18) / 6 < i
    · rw [if_pos h, if_pos (by omega)]
    · rw [if_neg h, if_neg (by omega)]
theorem lcS_WF {S : Nat → Nat} (hW : WF S) (h1 : S 1 < 10100) (i : Nat) (hi : i ≤ S 0) : WF (lcS S i) := by
  have ht := tuS_WF hW h1 (S 0) (Nat.le_refl _)
  have w0 := hW.1
  have w7 := hW.2.2.2.2.2.2.2
  have w2 := hW.2.2.1
  obtain ⟨t0, t1, t2, t3, t4, t5, t6, t7⟩ := ht
  have e0 : tuS S (S 0) 0 = S 0 := tuS_lo (by decide) (by decide)
  have e2 : tuS S (S 0) 2 = S 2 := tuS_lo (by decide) (by decide)
  unfold WF
  rw [lcS_o (by omega), lcS_o (by omega), lcS_o (by omega), lcS_o (by omega), lcS_o (by omega), lcS_o (by omega)]
  refine ⟨t0, t1, t2, t3, t4, t5, fun k hk => by rw [lcS_o (by omega)]; exact t6 k hk, fun p hp => ?_⟩
  rw [lcS_o (by omega), lcS_o (by omega), lcS_o (by omega), lcS_o (by omega), lcS_o (by omega)]
  obtain ⟨q0, q1, q2, q3, q4, q5⟩ := t7 p hp
  refine ⟨q0, q1, q2, q3, q4, ?_⟩
  by_cases hpi : p < i
  · rw [lcS_l hpi, tuS_1]
    have := (w7 p (by omega)).2.2.2.2.2
    unfold goL
    split <;> omega
  · rw [lcS_o (by omega)]
    exact q5
theorem jv_forget3 {x : CX} {cs sl : Nat} {T : TT} {Mi : MI} {Ml : ML} {pc : Nat} {a b c : Option Value} {st : List Value} (k : V x cs sl T Mi Ml pc [a, b, none] st) : V x cs sl T Mi Ml pc [a, b, c] st :=
  jv_forget (fun i v h => by
    match i, h with
    | 0, h => exact h
    | 1, h => exact h
    | 2, h => cases h
    | i + 3, h => exact h) k
