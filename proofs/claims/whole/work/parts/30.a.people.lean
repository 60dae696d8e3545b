/-! READING PEOPLE, AND ALL -/
def adP (Q : Nat → Nat) (v : Nat × Nat × Nat × Nat) : Nat → Nat := addS Q v.1 v.2.1 v.2.2.1 v.2.2.2
def ppP (t : Nat → Nat) (ln hh : Nat) : Nat → (Nat → Nat) → Nat → Bool × Nat × (Nat → Nat)
  | 0, Q, p => (decide (ln ≤ sk t ln p), sk t ln p, Q)
  | f + 1, Q, p => if (peP t ln hh p).1 = true then (if f ≠ 0 ∧ tkB t ln 44 (peP t ln hh p).2.1 = true then ppP t ln hh f (adP Q (peP t ln hh p).2.2) (sk t ln (peP t ln hh p).2.1 + 1) else (decide (ln ≤ sk t ln (peP t ln hh p).2.1), sk t ln (peP t ln hh p).2.1, adP Q (peP t ln hh p).2.2)) else (false, (peP t ln hh p).2.1, Q)
theorem ppP_s {t : Nat → Nat} {ln hh f p : Nat} {Q : Nat → Nat} : ppP t ln hh (f + 1) Q p = if (peP t ln hh p).1 = true then (if f ≠ 0 ∧ tkB t ln 44 (peP t ln hh p).2.1 = true then ppP t ln hh f (adP Q (peP t ln hh p).2.2) (sk t ln (peP t ln hh p).2.1 + 1) else (decide (ln ≤ sk t ln (peP t ln hh p).2.1), sk t ln (peP t ln hh p).2.1, adP Q (peP t ln hh p).2.2)) else (false, (peP t ln hh p).2.1, Q) := rfl
theorem tk_t {t : Nat → Nat} {ln c p : Nat} (h : tkB t ln c p = true) : sk t ln p < ln := by unfold tkB at h; exact (of_decide_eq_true h).1
def blP (t : Nat → Nat) (ln : Nat) (D Q : Nat → Nat) : Bool × Nat × Nat × (Nat → Nat) × (Nat → Nat) :=
  if dgB t ln 2 7 0 = true then
    if tkB t ln 59 (sk t ln 0 + 1) = true then
      if (dyP t ln (2 * dgV t ln 0) 0 (sk t ln (sk t ln 0 + 1) + 1) D).1 = true then
        if tkB t ln 59 (dyP t ln (2 * dgV t ln 0) 0 (sk t ln (sk t ln 0 + 1) + 1) D).2.1 = true then
          ((ppP t ln (dgV t ln 0) 6 Q (sk t ln (dyP t ln (2 * dgV t ln 0) 0 (sk t ln (sk t ln 0 + 1) + 1) D).2.1 + 1)).1, (ppP t ln (dgV t ln 0) 6 Q (sk t ln (dyP t ln (2 * dgV t ln 0) 0 (sk t ln (sk t ln 0 + 1) + 1) D).2.1 + 1)).2.1, dgV t ln 0, (dyP t ln (2 * dgV t ln 0) 0 (sk t ln (sk t ln 0 + 1) + 1) D).2.2, (ppP t ln (dgV t ln 0) 6 Q (sk t ln (dyP t ln (2 * dgV t ln 0) 0 (sk t ln (sk t ln 0 + 1) + 1) D).2.1 + 1)).2.2)
        else (false, sk t ln (dyP t ln (2 * dgV t ln 0) 0 (sk t ln (sk t ln 0 + 1) + 1) D).2.1, 0, D, Q)
      else (false, (dyP t ln (2 * dgV t ln 0) 0 (sk t ln (sk t ln 0 + 1) + 1) D).2.1, 0, D, Q)
    else (false, sk t ln (sk t ln 0 + 1), 0, D, Q)
  else (false, sk t ln 0, 0, D, Q)
