/-! WHAT THE WALKERS' CALLS ANSWER -/
def stA (S : Nat → Nat) (i : Nat) : Nat → Bool := fun k => decide (k = sjN S i)
/-- where person i can be behind the n-th move -/
def whB (S : Nat → Nat) (i j n : Nat) : Bool := wmB S (stA S i) (S (18 + 6 * i)) (S 1) j n
def snI (S : Nat → Nat) (i j : Nat) : Int32 := fsN (whB S i j) 0 61
def fmI (S : Nat → Nat) (i j n : Nat) : Int32 := fsN (fun q => raA S (stA S i) (S (18 + 6 * i)) (S 1) (2 ^ q) n j) 0 4
def soI (S : Nat → Nat) (i j w : Nat) : Int32 := if snI S i j = -4 ∨ w = 0 then snI S i j else fmI S i j (pn (snI S i j))
def sp_soonest (S : Nat → Nat) (p f d w : Int32) : Int32 := if isB p 0 (S 0) = true ∧ isB f 0 (S 2) = true ∧ isB d 0 7 = true ∧ isB w 0 2 = true then soI S (pn p) (pn f * 7 + pn d) (pn w) else -1
def neN (S : Nat → Nat) (i d : Nat) : Nat := stN (fun f => !whB S i (f * 7 + d) 60) (S 2)
def sp_never (S : Nat → Nat) (p d : Int32) : Int32 := if isB p 0 (S 0) = true ∧ isB d 0 7 = true then nI (neN S (pn p) (pn d)) else -1
def meF (S : Nat → Nat) (i1 i2 n : Nat) : Int32 := fsN (fun k => whB S i1 k n && whB S i2 k n) 0 42
def meA (w n : Nat) (k : Int32) : Int32 := if w = 0 then nI n else if w = 1 then nI (pn k / 7) else nI (pn k % 7)
def meR (S : Nat → Nat) (i1 i2 w : Nat) (n : Nat) : Nat → Int32
  | 0 => -4
  | m + 1 => if meF S i1 i2 n = -4 then meR S i1 i2 w (n + 1) m else meA w n (meF S i1 i2 n)
theorem meR_s {S : Nat → Nat} {i1 i2 w n m : Nat} : meR S i1 i2 w n (m + 1) = if meF S i1 i2 n = -4 then meR S i1 i2 w (n + 1) m else meA w n (meF S i1 i2 n) := rfl
def sp_meet (S : Nat → Nat) (p q w : Int32) : Int32 := if isB p 0 (S 0) = true ∧ isB q 0 (S 0) = true ∧ p ≠ q ∧ isB w 0 3 = true then meR S (pn p) (pn q) (pn w) 0 61 else -1
theorem BR.st {S : Nat → Nat} {i : Nat} (hW : WF S) (hi : i < S 0) : BR (lN (2 ^ sjN S i)) (stA S i) := BR.one (sj_lt hW hi)
theorem fs_ex {f : Nat → Bool} {e : Nat} (h : fsN f 0 e ≠ -4) : ∃ k, k < e ∧ fsN f 0 e = nI k := by
  rcases fsN_spec f e 0 with ⟨i, h1, h2, h3, h4, h5⟩ | ⟨h1, h2⟩
  · exact ⟨i, by omega, h5⟩
  · exact absurd h2 h
def FrW (Mi : MI) (Ml : ML) (Mi' : MI) (Ml' : ML) (X : Nat) : Prop := (∀ a, (a < X + 176 ∨ X + 182 ≤ a) → Mi' a = Mi a) ∧ ∀ a, (a < X + 176 ∨ X + 182 ≤ a) → Ml' a = Ml a
theorem FrW.rf (Mi : MI) (Ml : ML) (X : Nat) : FrW Mi Ml Mi Ml X := ⟨fun _ _ => rfl, fun _ _ => rfl⟩
