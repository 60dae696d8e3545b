/-! THE NEW STATE BEHIND A BLOCK -/
def rbS (S : Nat → Nat) (hh : Nat) (D Q : Nat → Nat) : Nat → Nat := fun j => if j = 0 then Q 0 else if j = 1 then 0 else if j = 2 then hh else if j < 6 then S j else if j < 18 then (if j < 6 + 2 * hh then D (j - 6) else S j) else if j < 18 + 6 * Q 0 then Q j else S j
theorem rbS_p {S D Q : Nat → Nat} {hh j : Nat} (h : 18 ≤ j) (h2 : j < 18 + 6 * Q 0) : rbS S hh D Q j = Q j := by
  unfold rbS
  rw [if_neg (by omega), if_neg (by omega), if_neg (by omega), if_neg (by omega), if_neg (by omega), if_pos h2]
theorem rbS_d {S D Q : Nat → Nat} {hh k : Nat} (h6 : hh ≤ 6) (h : k < 2 * hh) : rbS S hh D Q (6 + k) = D k := by
  unfold rbS
  rw [if_neg (by omega), if_neg (by omega), if_neg (by omega), if_neg (by omega), if_pos (by omega), if_pos (by omega), show 6 + k - 6 = k by omega]
theorem rbS_m {S D Q : Nat → Nat} {hh j : Nat} (h : 3 ≤ j) (h2 : j < 6) : rbS S hh D Q j = S j := by
  unfold rbS
  rw [if_neg (by omega), if_neg (by omega), if_neg (by omega), if_pos h2]
/-- who has been read so far -/
def PQ (hh : Nat) (Q : Nat → Nat) : Prop := Q 0 ≤ 6 ∧ ∀ p, p < Q 0 → Q (18 + 6 * p) < 5 ∧ (1 ≤ Q (19 + 6 * p) ∧ Q (19 + 6 * p) ≤ 9) ∧ Q (20 + 6 * p) < hh ∧ Q (21 + 6 * p) = 0 ∧ Q (22 + 6 * p) < 7 ∧ Q (23 + 6 * p) = 0
theorem peP_t {t : Nat → Nat} {ln hh p : Nat} (h : (peP t ln hh p).1 = true) : (peP t ln hh p).2.2.1 < 5 ∧ (1 ≤ (peP t ln hh p).2.2.2.1 ∧ (peP t ln hh p).2.2.2.1 ≤ 9) ∧ (peP t ln hh p).2.2.2.2.1 < hh ∧ (peP t ln hh p).2.2.2.2.2 < 7 := by
  unfold peP at h ⊢
  by_cases h1 : kiB t ln p = true
  · rw [if_pos h1] at h ⊢
    by_cases h2 : dgB t ln 1 10 (sk t ln p + 1) = true
    · rw [if_pos h2] at h ⊢
      by_cases h3 : dgB t ln 0 hh (sk t ln (sk t ln p + 1) + 1) = true
      · rw [if_pos h3] at h ⊢
        by_cases h4 : dgB t ln 0 7 (sk t ln (sk t ln (sk t ln p + 1) + 1) + 1) = true
        · rw [if_pos h4]
          have k1 := (of_decide_eq_true h1).2
          have k2 := dg_t h2
          have k3 := dg_t h3
          have k4 := dg_t h4
          exact ⟨k1, ⟨k2.2.1, Nat.le_of_lt_succ k2.2.2.1⟩, k3.2.2.1, k4.2.2.1⟩
        · rw [if_neg h4] at h; cases h
      · rw [if_neg h3] at h; cases h
    · rw [if_neg h2] at h; cases h
  · rw [if_neg h1] at h; cases h
theorem PQ.add {hh : Nat} {Q : Nat → Nat} {v : Nat × Nat × Nat × Nat} (h : PQ hh Q) (h6 : Q 0 < 6) (hv : v.1 < 5 ∧ (1 ≤ v.2.1 ∧ v.2.1 ≤ 9) ∧ v.2.2.1 < hh ∧ v.2.2.2 < 7) : PQ hh (adP Q v) := by
  have e0 : adP Q v 0 = Q 0 + 1 := rfl
  refine ⟨by omega, fun p hp => ?_⟩
  rw [e0] at hp
  by_cases hpq : p = Q 0
  · subst hpq
    have a0 : adP Q v (18 + 6 * Q 0) = v.1 := by unfold adP addS; rw [if_neg (by omega), if_pos rfl]
    have a1 : adP Q v (19 + 6 * Q 0) = v.2.1 := by unfold adP addS; rw [if_neg (by omega), if_neg (by omega), if_pos rfl]
    have a2 : adP Q v (20 + 6 * Q 0) = v.2.2.1 := by unfold adP addS; rw [if_neg (by omega), if_neg (by omega), if_neg (by omega), if_pos rfl]
    have a3 : adP Q v (21 + 6 * Q 0) = 0 := by unfold adP addS; rw [if_neg (by omega), if_neg (by omega), if_neg (by omega), if_neg (by omega), if_pos rfl]
    have a4 : adP Q v (22 + 6 * Q 0) = v.2.2.2 := by unfold adP addS; rw [if_neg (by omega), if_neg (by omega), if_neg (by omega), if_neg (by omega), if_neg (by omega), if_pos rfl]
    have a5 : adP Q v (23 + 6 * Q 0) = 0 := by unfold adP addS; rw [if_neg (by omega), if_neg (by omega), if_neg (by omega), if_neg (by omega), if_neg (by omega), if_neg (by omega), if_pos rfl]
    rw [a0, a1, a2, a3, a4, a5]
    exact ⟨hv.1, hv.2.1, hv.2.2.1, rfl, hv.2.2.2, rfl⟩
  · have ho : ∀ i, i < 6 → adP Q v (18 + i + 6 * p) = Q (18 + i + 6 * p) := fun i hi => addS_o (by omega) (by omega)
    have a0 := ho 0 (by omega)
    have a1 := ho 1 (by omega)
    have a2 := ho 2 (by omega)
    have a3 := ho 3 (by omega)
    have a4 := ho 4 (by omega)
    have a5 := ho 5 (by omega)
    rw [a0, a1, a2, a3, a4, a5]
    exact h.2 p (by omega)
theorem ppP_Q {t : Nat → Nat} {ln hh : Nat} : ∀ {f p : Nat} {Q : Nat → Nat}, Q 0 + f ≤ 6 → PQ hh Q → PQ hh (ppP t ln hh f Q p).2.2 ∧ (ppP t ln hh f Q p).2.2 1 = Q 1 ∧ (ppP t ln hh f Q p).2.2 5 = Q 5
  | 0, p, Q, _, h => ⟨h, rfl, rfl⟩
  | f + 1, p, Q, hf, h => by
    rw [ppP_s]
    by_cases h1 : (peP t ln hh p).1 = true
    · rw [if_pos h1]
      have hq := h.add (by omega) (peP_t h1)
      have e0 : adP Q (peP t ln hh p).2.2 0 = Q 0 + 1 := rfl
      have e1 : adP Q (peP t ln hh p).2.2 1 = Q 1 := addS_o (by decide) (by omega)
      have e5 : adP Q (peP t ln hh p).2.2 5 = Q 5 := addS_o (by decide) (by omega)
      by_cases h2 : f ≠ 0 ∧ tkB t ln 44 (peP t ln hh p).2.1 = true
      · rw [if_pos h2, ← e1, ← e5]
        exact ppP_Q (by omega) hq
      · rw [if_neg h2]
        exact ⟨hq, e1, e5⟩
    · rw [if_neg h1]
      exact ⟨h, rfl, rfl⟩
theorem dyP_D {t : Nat → Nat} {ln : Nat} : ∀ {r i p : Nat} {D : Nat → Nat}, (∀ k, k < i → D k < 7) → (dyP t ln r i p D).1 = true → ∀ k, k < i + r → (dyP t ln r i p D).2.2 k < 7
  | 0, i, p, D, h, _ => fun k hk => h k hk
  | r + 1, i, p, D, h, ht => by
    cases hb : dgB t ln 0 7 p with
    | false => rw [dyP_f hb] at ht; cases ht
    | true =>
      rw [dyP_t hb] at ht ⊢
      intro k hk
      exact dyP_D (fun k hk => by
        by_cases hki : k = i
        · rw [hki, setS_s]; exact (dg_t hb).2.2.1
        · rw [setS_o hki]; exact h k (by omega)) ht k (by omega)
def D0 : Nat → Nat := fun _ => 0
def Q0 : Nat → Nat := fun j => if j = 5 then 1 else 0
theorem blP_t {t : Nat → Nat} {ln : Nat} (h : (blP t ln D0 Q0).1 = true) : (2 ≤ (blP t ln D0 Q0).2.2.1 ∧ (blP t ln D0 Q0).2.2.1 ≤ 6) ∧ (∀ k, k < 2 * (blP t ln D0 Q0).2.2.1 → (blP t ln D0 Q0).2.2.2.1 k < 7) ∧ PQ (blP t ln D0 Q0).2.2.1 (blP t ln D0 Q0).2.2.2.2 ∧ (blP t ln D0 Q0).2.2.2.2 1 = 0 ∧ (blP t ln D0 Q0).2.2.2.2 5 = 1 := by
  unfold blP at h ⊢
  by_cases h1 : dgB t ln 2 7 0 = true
  · rw [if_pos h1] at h ⊢
    by_cases h2 : tkB t ln 59 (sk t ln 0 + 1) = true
    · rw [if_pos h2] at h ⊢
      by_cases h3 : (dyP t ln (2 * dgV t ln 0) 0 (sk t ln (sk t ln 0 + 1) + 1) D0).1 = true
      · rw [if_pos h3] at h ⊢
        by_cases h4 : tkB t ln 59 (dyP t ln (2 * dgV t ln 0) 0 (sk t ln (sk t ln 0 + 1) + 1) D0).2.1 = true
        · rw [if_pos h4]
          have k1 := dg_t h1
          obtain ⟨q1, q2, q3⟩ := ppP_Q (t := t) (ln := ln) (hh := dgV t ln 0) (f := 6) (p := sk t ln (dyP t ln (2 * dgV t ln 0) 0 (sk t ln (sk t ln 0 + 1) + 1) D0).2.1 + 1) (Q := Q0) (by decide) ⟨by decide, fun p hp => absurd hp (by show ¬ p < 0; omega)⟩
          exact ⟨⟨k1.2.1, by have := k1.2.2.1; show dgV t ln 0 ≤ 6; omega⟩, fun k hk => dyP_D (fun k hk => absurd hk (by omega)) h3 k (by show k < 0 + 2 * dgV t ln 0; have hk' : k < 2 * dgV t ln 0 := hk; omega), q1, q2, q3⟩
        · rw [if_neg h4] at h; cases h
      · rw [if_neg h3] at h; cases h
    · rw [if_neg h2] at h; cases h
  · rw [if_neg h1] at h; cases h
theorem rbS_WF {S D Q : Nat → Nat} {hh : Nat} (hW : WF S) (h6 : 2 ≤ hh ∧ hh ≤ 6) (hD : ∀ k, k < 2 * hh → D k < 7) (hQ : PQ hh Q) : WF (rbS S hh D Q) := by
  obtain ⟨w0, w1, w2, w3, w4, w5, w6, w7⟩ := hW
  have e2 : rbS S hh D Q 2 = hh := rfl
  have e0 : rbS S hh D Q 0 = Q 0 := rfl
  have e1 : rbS S hh D Q 1 = 0 := rfl
  have e3 : rbS S hh D Q 3 = S 3 := rbS_m (by omega) (by omega)
  have e4 : rbS S hh D Q 4 = S 4 := rbS_m (by omega) (by omega)
  have e5 : rbS S hh D Q 5 = S 5 := rbS_m (by omega) (by omega)
  unfold WF
  rw [e0, e1, e2, e3, e4, e5]
  refine ⟨hQ.1, by omega, h6, w3, w4, w5, fun k hk => by rw [rbS_d h6.2 hk]; exact hD k hk, fun p hp => ?_⟩
  rw [rbS_p (by omega) (by omega), rbS_p (by omega) (by omega), rbS_p (by omega) (by omega), rbS_p (by omega) (by omega), rbS_p (by omega) (by omega), rbS_p (by omega) (by omega)]
  obtain ⟨p1, p2, p3, p4, p5, p6⟩ := hQ.2 p hp
  exact ⟨p1, p2, p3, by omega, p5, by omega⟩
def sp_block (t : Nat → Nat) (ln : Nat) (S : Nat → Nat) : Int32 × Option (Nat → Nat) := if (blP t ln D0 Q0).1 = true then (nI ((blP t ln D0 Q0).2.2.2.2 0), some (rbS S (blP t ln D0 Q0).2.2.1 (blP t ln D0 Q0).2.2.2.1 (blP t ln D0 Q0).2.2.2.2)) else (-20 - nI (blP t ln D0 Q0).2.1, none)
def sp_type (t : Nat → Nat) (ln : Nat) (v : Int32) : Int32 × (Nat → Nat) × Nat := if isB v 32 127 = true then (if ln < 60 then (nI (ln + 1), (fun k => if k = ln then pn v else t k), ln + 1) else (-3, t, ln)) else (-1, t, ln)
theorem PerR.cg {Mi : MI} {a p : Nat} {S S' : Nat → Nat} (h : PerR Mi a S p) (e : ∀ i, i < 6 → S' (18 + i + 6 * p) = S (18 + i + 6 * p)) : PerR Mi a S' p := by
  obtain ⟨h0, h1, h2, h3, h4, h5⟩ := h
  have a0 := e 0 (by omega)
  have a1 := e 1 (by omega)
  have a2 := e 2 (by omega)
  have a3 := e 3 (by omega)
  have a4 := e 4 (by omega)
  have a5 := e 5 (by omega)
  refine ⟨?_, ?_, ?_, ?_, ?_, ?_⟩
  · rw [a0]; exact h0
  · rw [a1]; exact h1
  · rw [a2]; exact h2
  · rw [a4]; exact h3
  · rw [a3]; exact h4
  · rw [a5]; exact h5
