/-! READING A BLOCK -/
def dyP (t : Nat → Nat) (ln : Nat) : Nat → Nat → Nat → (Nat → Nat) → Bool × Nat × (Nat → Nat)
  | 0, _, p, D => (true, p, D)
  | r + 1, i, p, D => if dgB t ln 0 7 p = true then dyP t ln r (i + 1) (sk t ln p + 1) (setS D i (dgV t ln p)) else (false, sk t ln p, D)
theorem dyP_t {t : Nat → Nat} {ln r i p : Nat} {D : Nat → Nat} (h : dgB t ln 0 7 p = true) : dyP t ln (r + 1) i p D = dyP t ln r (i + 1) (sk t ln p + 1) (setS D i (dgV t ln p)) := by
  show (if dgB t ln 0 7 p = true then _ else _) = _
  rw [if_pos h]
theorem dyP_f {t : Nat → Nat} {ln r i p : Nat} {D : Nat → Nat} (h : dgB t ln 0 7 p = false) : dyP t ln (r + 1) i p D = (false, sk t ln p, D) := by
  show (if dgB t ln 0 7 p = true then _ else _) = _
  rw [if_neg (by rw [h]; decide)]
theorem dg_t {t : Nat → Nat} {ln lo hi p : Nat} (h : dgB t ln lo hi p = true) : sk t ln p < ln ∧ lo ≤ dgV t ln p ∧ dgV t ln p < hi ∧ 48 ≤ t (sk t ln p) := by
  unfold dgB at h
  have h1 := of_decide_eq_true h
  unfold dgV
  omega
theorem dg_p {t : Nat → Nat} {ln p : Nat} {b : Bool} (h : b = true) : poB t ln p b = sk t ln p + 1 := by unfold poB; rw [if_pos h]
theorem dg_q {t : Nat → Nat} {ln p : Nat} {b : Bool} (h : b = false) : poB t ln p b = sk t ln p := by unfold poB; rw [if_neg (by rw [h]; decide)]
theorem dg_ne {b : Bool} {v : Nat} (h : ¬ (if b = true then nI v else -4) = -4) : b = true := by
  cases b with
  | true => rfl
  | false => exact absurd rfl h
theorem dg_eq {b : Bool} {v : Nat} (hv : v < 2 ^ 31) (h : (if b = true then nI v else -4) = -4) : b = false := by
  cases b with
  | false => rfl
  | true =>
    rw [if_pos rfl] at h
    have := nI_toInt hv
    rw [h, show (-4 : Int32).toInt = -4 from by decide] at this
    omega
theorem dgV_lt {t : Nat → Nat} {ln p : Nat} (hA : TA t ln) (hp : p ≤ ln) : sk t ln p < ln → dgV t ln p < 100 := fun h => by
  have := (hA.2 _ h).2
  unfold dgV
  omega
/-- who stands there: kind, weight, floor, day -/
def peP (t : Nat → Nat) (ln h p : Nat) : Bool × Nat × Nat × Nat × Nat × Nat :=
  if kiB t ln p = true then
    if dgB t ln 1 10 (sk t ln p + 1) = true then
      if dgB t ln 0 h (sk t ln (sk t ln p + 1) + 1) = true then
        if dgB t ln 0 7 (sk t ln (sk t ln (sk t ln p + 1) + 1) + 1) = true then
          (true, sk t ln (sk t ln (sk t ln (sk t ln p + 1) + 1) + 1) + 1, kiN (t (sk t ln p)), dgV t ln (sk t ln p + 1), dgV t ln (sk t ln (sk t ln p + 1) + 1), dgV t ln (sk t ln (sk t ln (sk t ln p + 1) + 1) + 1))
        else (false, sk t ln (sk t ln (sk t ln (sk t ln p + 1) + 1) + 1), 0, 0, 0, 0)
      else (false, sk t ln (sk t ln (sk t ln p + 1) + 1), 0, 0, 0, 0)
    else (false, sk t ln (sk t ln p + 1), 0, 0, 0, 0)
  else (false, sk t ln p, 0, 0, 0, 0)
def RdS (g : GT) (T : TT) (R : Nat) : Prop := KD g T R 2 ∧ T.2.2 R 0 = some (R + 1) ∧ T.2.2 R 1 = some (R + 3) ∧ BlkS g T (R + 1) ∧ ScnS g T (R + 3)
theorem DayS.rd {g : GT} {T : TT} {X : Nat} (h : DayS g T X) : T.2.2 X 4 = some (X + 157) ∧ RdS g T (X + 157) := by
  obtain ⟨x0, ⟨x1, x2⟩, ⟨x3, x4⟩, ⟨x5, x6, x7, x8⟩, ⟨x9, x10, x11, x12, x13, x14⟩, -⟩ := h
  exact ⟨x9, x10, x11, x12, x13, x14⟩
