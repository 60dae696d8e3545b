abbrev dyX (t : Nat → Nat) (ln : Nat) : Bool × Nat × (Nat → Nat) := dyP t ln (2 * dgV t ln 0) 0 (sk t ln (sk t ln 0 + 1) + 1) D0
abbrev ppX (t : Nat → Nat) (ln : Nat) : Bool × Nat × (Nat → Nat) := ppP t ln (dgV t ln 0) 6 Q0 (sk t ln (dyX t ln).2.1 + 1)
theorem bl_1 {t : Nat → Nat} {ln : Nat} (h : dgB t ln 2 7 0 = false) : (blP t ln D0 Q0).1 = false ∧ (blP t ln D0 Q0).2.1 = sk t ln 0 := by
  unfold blP; rw [if_neg (by rw [h]; decide)]; exact ⟨rfl, rfl⟩
theorem bl_2 {t : Nat → Nat} {ln : Nat} (h : dgB t ln 2 7 0 = true) (h2 : tkB t ln 59 (sk t ln 0 + 1) = false) : (blP t ln D0 Q0).1 = false ∧ (blP t ln D0 Q0).2.1 = sk t ln (sk t ln 0 + 1) := by
  unfold blP; rw [if_pos h, if_neg (by rw [h2]; decide)]; exact ⟨rfl, rfl⟩
theorem bl_3 {t : Nat → Nat} {ln : Nat} (h : dgB t ln 2 7 0 = true) (h2 : tkB t ln 59 (sk t ln 0 + 1) = true) (h3 : (dyX t ln).1 = false) : (blP t ln D0 Q0).1 = false ∧ (blP t ln D0 Q0).2.1 = (dyX t ln).2.1 := by
  unfold blP; rw [if_pos h, if_pos h2, if_neg (by show ¬ (dyX t ln).1 = true; rw [h3]; decide)]; exact ⟨rfl, rfl⟩
theorem bl_4 {t : Nat → Nat} {ln : Nat} (h : dgB t ln 2 7 0 = true) (h2 : tkB t ln 59 (sk t ln 0 + 1) = true) (h3 : (dyX t ln).1 = true) (h4 : tkB t ln 59 (dyX t ln).2.1 = false) : (blP t ln D0 Q0).1 = false ∧ (blP t ln D0 Q0).2.1 = sk t ln (dyX t ln).2.1 := by
  unfold blP; rw [if_pos h, if_pos h2, if_pos h3, if_neg (by show ¬ tkB t ln 59 (dyX t ln).2.1 = true; rw [h4]; decide)]; exact ⟨rfl, rfl⟩
theorem bl_5 {t : Nat → Nat} {ln : Nat} (h : dgB t ln 2 7 0 = true) (h2 : tkB t ln 59 (sk t ln 0 + 1) = true) (h3 : (dyX t ln).1 = true) (h4 : tkB t ln 59 (dyX t ln).2.1 = true) : blP t ln D0 Q0 = ((ppX t ln).1, (ppX t ln).2.1, dgV t ln 0, (dyX t ln).2.2, (ppX t ln).2.2) := by
  unfold blP; rw [if_pos h, if_pos h2, if_pos h3, if_pos h4]
def stP (t : Nat → Nat) (ln hh f : Nat) (Q : Nat → Nat) (p : Nat) : Bool × Nat × (Nat → Nat) := if f ≠ 0 ∧ tkB t ln 44 p = true then ppP t ln hh f Q (sk t ln p + 1) else (decide (ln ≤ sk t ln p), sk t ln p, Q)
theorem pp_t {t : Nat → Nat} {ln hh f p : Nat} {Q : Nat → Nat} (h : (peP t ln hh p).1 = true) : ppP t ln hh (f + 1) Q p = stP t ln hh f (adP Q (peP t ln hh p).2.2) (peP t ln hh p).2.1 := by rw [ppP_s, if_pos h]; rfl
theorem pp_f {t : Nat → Nat} {ln hh f p : Nat} {Q : Nat → Nat} (h : (peP t ln hh p).1 = false) : ppP t ln hh (f + 1) Q p = (false, (peP t ln hh p).2.1, Q) := by rw [ppP_s, if_neg (by rw [h]; decide)]
theorem pe_sk {t : Nat → Nat} {ln hh p : Nat} (hp : p ≤ ln) (h : (peP t ln hh p).1 = false) : sk t ln (peP t ln hh p).2.1 = (peP t ln hh p).2.1 := by
  unfold peP at h ⊢
  by_cases h1 : kiB t ln p = true
  · have q1 : sk t ln p + 1 ≤ ln := (of_decide_eq_true h1).1
    rw [if_pos h1] at h ⊢
    by_cases h2 : dgB t ln 1 10 (sk t ln p + 1) = true
    · have q2 : sk t ln (sk t ln p + 1) + 1 ≤ ln := (dg_t h2).1
      rw [if_pos h2] at h ⊢
      by_cases h3 : dgB t ln 0 hh (sk t ln (sk t ln p + 1) + 1) = true
      · have q3 : sk t ln (sk t ln (sk t ln p + 1) + 1) + 1 ≤ ln := (dg_t h3).1
        rw [if_pos h3] at h ⊢
        by_cases h4 : dgB t ln 0 7 (sk t ln (sk t ln (sk t ln p + 1) + 1) + 1) = true
        · rw [if_pos h4] at h; cases h
        · rw [if_neg h4]; exact sk_i q3
      · rw [if_neg h3]; exact sk_i q2
    · rw [if_neg h2]; exact sk_i q1
  · rw [if_neg h1]; exact sk_i hp
theorem pe_le {t : Nat → Nat} {ln hh p : Nat} (hp : p ≤ ln) : (peP t ln hh p).2.1 ≤ ln := by
  unfold peP
  by_cases h1 : kiB t ln p = true
  · have q1 : sk t ln p + 1 ≤ ln := (of_decide_eq_true h1).1
    rw [if_pos h1]
    by_cases h2 : dgB t ln 1 10 (sk t ln p + 1) = true
    · have q2 : sk t ln (sk t ln p + 1) + 1 ≤ ln := (dg_t h2).1
      rw [if_pos h2]
      by_cases h3 : dgB t ln 0 hh (sk t ln (sk t ln p + 1) + 1) = true
      · have q3 : sk t ln (sk t ln (sk t ln p + 1) + 1) + 1 ≤ ln := (dg_t h3).1
        rw [if_pos h3]
        by_cases h4 : dgB t ln 0 7 (sk t ln (sk t ln (sk t ln p + 1) + 1) + 1) = true
        · rw [if_pos h4]; exact (dg_t h4).1
        · rw [if_neg h4]; exact (sk_c q3).2.1
      · rw [if_neg h3]; exact (sk_c q2).2.1
    · rw [if_neg h2]; exact (sk_c q1).2.1
  · rw [if_neg h1]; exact (sk_c hp).2.1
def FLT (t : Nat → Nat) (ln p : Nat) : Prop := (blP t ln D0 Q0).1 = false ∧ (blP t ln D0 Q0).2.1 = p ∧ sk t ln p = p
theorem RdP.add {Mi Mi' : MI} {Y c : Nat} {Q : Nat → Nat} {v : Nat × Nat × Nat × Nat} (h : RdP Mi Y Q) (hc : Q 0 = c) (hf : ∀ k, (k < 4 * c ∨ 4 * c + 4 ≤ k) → Mi' (Y + 4) k = Mi (Y + 4) k) (hv : Mi' (Y + 4) (4 * c) = nI v.1 ∧ Mi' (Y + 4) (4 * c + 1) = nI v.2.1 ∧ Mi' (Y + 4) (4 * c + 2) = nI v.2.2.1 ∧ Mi' (Y + 4) (4 * c + 3) = nI v.2.2.2) : RdP Mi' Y (adP Q v) := by
  subst hc
  intro i hi
  have e0 : adP Q v 0 = Q 0 + 1 := rfl
  rw [e0] at hi
  by_cases hic : i = Q 0
  · subst hic
    have a0 : adP Q v (18 + 6 * Q 0) = v.1 := by unfold adP addS; rw [if_neg (by omega), if_pos rfl]
    have a1 : adP Q v (19 + 6 * Q 0) = v.2.1 := by unfold adP addS; rw [if_neg (by omega), if_neg (by omega), if_pos rfl]
    have a2 : adP Q v (20 + 6 * Q 0) = v.2.2.1 := by unfold adP addS; rw [if_neg (by omega), if_neg (by omega), if_neg (by omega), if_pos rfl]
    have a4 : adP Q v (22 + 6 * Q 0) = v.2.2.2 := by unfold adP addS; rw [if_neg (by omega), if_neg (by omega), if_neg (by omega), if_neg (by omega), if_neg (by omega), if_pos rfl]
    rw [a0, a1, a2, a4]
    exact hv
  · obtain ⟨h0, h1, h2, h3⟩ := h i (by omega)
    have ho : ∀ j, 18 ≤ j → j < 18 + 6 * Q 0 → adP Q v j = Q j := fun j h1 h2 => addS_o (by omega) (by omega)
    rw [ho _ (by omega) (by omega), ho _ (by omega) (by omega), ho _ (by omega) (by omega), ho _ (by omega) (by omega), hf _ (by omega), hf _ (by omega), hf _ (by omega), hf _ (by omega)]
    exact ⟨h0, h1, h2, h3⟩
theorem RdP.fr {Mi Mi' : MI} {Y : Nat} {Q : Nat → Nat} (h : RdP Mi Y Q) (e : Mi' (Y + 4) = Mi (Y + 4)) : RdP Mi' Y Q := fun i hi => by rw [e]; exact h i hi

