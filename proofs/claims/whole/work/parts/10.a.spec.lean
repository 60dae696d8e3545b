/-! WHAT THE CALLS ANSWER, for class and reference -/
abbrev pn (v : Int32) : Nat := v.toNatClampNeg
theorem pn_nI {n : Nat} (h : n < 2 ^ 31) : pn (nI n) = n := nI_clamp h
/-- which of n (n: none) -/
def wi (w : Int32) (n : Nat) : Nat := if isB w 0 n = true then pn w else n
theorem wi_nI {j n : Nat} (h : j < n) (hn : n < 2 ^ 31) : wi (nI j) n = j := by
  unfold wi
  rw [isB_nI (by omega), if_pos (by simp; omega), pn_nI (by omega)]
theorem wi_out {w : Int32} {n : Nat} (h : isB w 0 n = false) : wi w n = n := by unfold wi; rw [h]; simp
theorem isB_out {w : Int32} {n : Nat} (h : w.toInt < 0 ∨ ((n : Int) - 1) < w.toInt) : isB w 0 n = false := by
  unfold isB
  rw [decide_eq_false_iff_not]
  omega
theorem sw_cases (w : Int32) {n : Nat} (hn : n < 2 ^ 31) : (w.toInt < 0 ∨ ((n : Int) - 1) < w.toInt) ∨ ∃ j, j < n ∧ w = nI j := by
  by_cases h : isB w 0 n = true
  · obtain ⟨j, h1, h2, h3⟩ := isB_t h
    exact Or.inr ⟨j, h3, h1⟩
  · left
    have := isB_f (Bool.eq_false_iff.mpr h)
    omega
theorem sw_0_5 (w : Int32) : (w.toInt < 0 ∨ 5 < w.toInt) ∨ (w = nI 0 ∨ w = nI 1 ∨ w = nI 2 ∨ w = nI 3 ∨ w = nI 4 ∨ w = nI 5) := by
  rcases sw_cases w (n := 6) (by decide) with h | ⟨j, h, rfl⟩
  · exact Or.inl h
  · right; rcases (show j = 0 ∨ j = 1 ∨ j = 2 ∨ j = 3 ∨ j = 4 ∨ j = 5 by omega) with rfl | rfl | rfl | rfl | rfl | rfl <;> simp
theorem sw_0_8 (w : Int32) : (w.toInt < 0 ∨ 8 < w.toInt) ∨ (w = nI 0 ∨ w = nI 1 ∨ w = nI 2 ∨ w = nI 3 ∨ w = nI 4 ∨ w = nI 5 ∨ w = nI 6 ∨ w = nI 7 ∨ w = nI 8) := by
  rcases sw_cases w (n := 9) (by decide) with h | ⟨j, h, rfl⟩
  · exact Or.inl h
  · right; rcases (show j = 0 ∨ j = 1 ∨ j = 2 ∨ j = 3 ∨ j = 4 ∨ j = 5 ∨ j = 6 ∨ j = 7 ∨ j = 8 by omega) with rfl | rfl | rfl | rfl | rfl | rfl | rfl | rfl | rfl <;> simp
def ofN (S : Nat → Nat) (i : Nat) : Nat → Int32
  | 0 => nI (S (18 + 6 * i))
  | 1 => nI (wgN S i)
  | 2 => nI (if S (21 + 6 * i) ≠ 0 then flN (S 2) (plN (S 2) (S (21 + 6 * i) - 1) (S 1)) else S (20 + 6 * i))
  | 3 => if S (21 + 6 * i) ≠ 0 then nI (S (21 + 6 * i) - 1) else -4
  | 4 => nI (if S (21 + 6 * i) ≠ 0 then S (6 + (S (21 + 6 * i) - 1)) else S (22 + 6 * i))
  | 5 => nI (S (23 + 6 * i))
  | _ => -1
def sp_of (S : Nat → Nat) (p w : Int32) : Int32 := if isB p 0 (S 0) = true then ofN S (pn p) (wi w 6) else -1
def caN (S : Nat → Nat) (k : Nat) : Nat → Int32
  | 0 => nI (S (6 + k))
  | 1 => nI (plN (S 2) k (S 1))
  | 2 => nI (flN (S 2) (plN (S 2) k (S 1)))
  | 3 => nI (sdN (S 2) (plN (S 2) k (S 1)))
  | 4 => nI (ldN S k (S 0))
  | 5 => nI (stN (fun p => decide (S (21 + 6 * p) = k + 1)) (S 0))
  | _ => -1
def sp_car (S : Nat → Nat) (c w : Int32) : Int32 := if isB c 0 (2 * S 2) = true then caN S (pn c) (wi w 6) else -1
def coN (S : Nat → Nat) (u : Nat) : Nat → Int32
  | 0 => nI (S 0)
  | 1 => nI (S 1)
  | 2 => nI (S 2)
  | 3 => nI (S 3)
  | 4 => nI (S 4)
  | 5 => nI u
  | 6 => nI (rdN S)
  | 7 => nI (luN S (S 0))
  | 8 => if S 0 = 0 then -4 else nI (lmN S (S 0))
  | _ => -1
def sp_count (S : Nat → Nat) (u : Nat) (w : Int32) : Int32 := coN S u (wi w 9)
def sp_at (S : Nat → Nat) (f s n : Int32) : Int32 := if isB f 0 (S 2) = true ∧ isB s 0 2 = true ∧ isB n 0 1000 = true then nI (ciN (S 2) (pbN (S 2) (pn f) (pn s)) (S 1 + pn n)) else -1
def sp_place (S : Nat → Nat) (c n : Int32) : Int32 := if isB c 0 (2 * S 2) = true ∧ isB n 0 1000 = true then nI (plN (S 2) (pn c) (S 1 + pn n)) else -1
/-- the first of the n-th, (n+1)-th .. of m -/
def fsN (f : Nat → Bool) (n : Nat) : Nat → Int32
  | 0 => -4
  | m + 1 => if f n = true then nI n else fsN f (n + 1) m
def sp_comes (S : Nat → Nat) (dy f s : Int32) : Int32 := if isB dy 0 7 = true ∧ isB f 0 (S 2) = true ∧ isB s 0 2 = true then fsN (fun n => decide (S (6 + ciN (S 2) (pbN (S 2) (pn f) (pn s)) (S 1 + n)) = pn dy)) 0 12 else -1
/-- the heaviest of the first n cars -/
def hvN (S : Nat → Nat) : Nat → Nat
  | 0 => 0
  | k + 1 => if ldN S (hvN S k) (S 0) < ldN S k (S 0) then k else hvN S k
def sp_heaviest (S : Nat → Nat) (w : Int32) : Int32 := if isB w 0 2 = true then (if w = 0 then nI (hvN S (2 * S 2)) else nI (ldN S (hvN S (2 * S 2)) (S 0))) else -1
def gsN (s : Nat) : Nat → Nat
  | 0 => 1000000
  | k + 1 => gsN s k * (100 - s) / 100
def sp_goes (n s : Int32) : Int32 := if isB n 0 31 = true ∧ isB s 0 101 = true then nI (gsN (pn s) (pn n)) else -1
theorem gsN_le (s : Nat) : ∀ k, gsN s k ≤ 1000000
  | 0 => Nat.le_refl _
  | k + 1 => by
    have h := gsN_le s k
    unfold gsN
    have h1 : gsN s k * (100 - s) ≤ 1000000 * 100 := Nat.mul_le_mul h (by omega)
    omega
theorem hvN_lt (S : Nat → Nat) : ∀ k, 0 < k → hvN S k < k
  | 0, h => by omega
  | 1, _ => by unfold hvN hvN; split <;> omega
  | k + 2, _ => by
    have := hvN_lt S (k + 1) (by omega)
    unfold hvN
    split <;> omega
