/-! WHAT MAY BE UNDONE: a ring of eight scenes -/
def rgN (u nx j : Nat) : Nat := (nx + (8 - u) + j) % 8
def HisR (Mi : MI) (H : Nat) (R : Nat → Nat → Nat) (u nx : Nat) : Prop := Mi H 1 = nI nx ∧ Mi H 2 = nI u ∧ u ≤ 8 ∧ nx < 8 ∧ (∀ k, k < 8 → ScnR Mi (H + 2 + 8 * k) (R k)) ∧ ∀ k, k < 8 → WF (R k)
theorem HisR.fr {Mi Mi' : MI} {H u nx : Nat} {R : Nat → Nat → Nat} (h : HisR Mi H R u nx) (e : ∀ a, H ≤ a → a < H + 66 → Mi' a = Mi a) : HisR Mi' H R u nx := by
  obtain ⟨h1, h2, h3, h4, h5, h6⟩ := h
  refine ⟨by rw [e H (by omega) (by omega)]; exact h1, by rw [e H (by omega) (by omega)]; exact h2, h3, h4, fun k hk => (h5 k hk).fr (h6 k hk).1 (fun a h7 h8 => e a (by omega) (by omega)), h6⟩
def updR (R : Nat → Nat → Nat) (k : Nat) (S : Nat → Nat) : Nat → Nat → Nat := fun j => if j = k then S else R j
/-- what is behind a push -/
def puU (U : Nat → Nat → Nat) (u : Nat) (S : Nat → Nat) : Nat → Nat → Nat := fun j => if u = 8 then (if j < 7 then U (j + 1) else S) else (if j < u then U j else S)
theorem rg_push {u nx j : Nat} (hu : u ≤ 8) (hn : nx < 8) (hj : j < min (u + 1) 8) : (if u = 8 then (if j < 7 then rgN u nx (j + 1) ≠ nx ∧ rgN (min (u + 1) 8) ((nx + 1) % 8) j = rgN u nx (j + 1) else rgN (min (u + 1) 8) ((nx + 1) % 8) j = nx) else (if j < u then rgN u nx j ≠ nx ∧ rgN (min (u + 1) 8) ((nx + 1) % 8) j = rgN u nx j else rgN (min (u + 1) 8) ((nx + 1) % 8) j = nx)) := by
  unfold rgN
  split <;> split <;> omega
def UR (R U : Nat → Nat → Nat) (u nx : Nat) : Prop := ∀ j, j < u → ∀ k, k < 54 → U j k = R (rgN u nx j) k
theorem UR.push {R U : Nat → Nat → Nat} {u nx : Nat} {S : Nat → Nat} (h : UR R U u nx) (hu : u ≤ 8) (hn : nx < 8) : UR (updR R nx S) (puU U u S) (min (u + 1) 8) ((nx + 1) % 8) := by
  intro j hj k hk
  have key := rg_push hu hn hj
  unfold puU updR
  split at key
  · rename_i h8
    rw [if_pos h8]
    split at key
    · rename_i h7
      rw [if_pos h7, key.2, if_neg key.1]
      exact h (j + 1) (by omega) k hk
    · rename_i h7
      rw [if_neg h7, key, if_pos rfl]
  · rename_i h8
    rw [if_neg h8]
    split at key
    · rename_i h7
      rw [if_pos h7, key.2, if_neg key.1]
      exact h j h7 k hk
    · rename_i h7
      rw [if_neg h7, key, if_pos rfl]
theorem rg_pop {u nx j : Nat} (hu : u ≤ 8) (hn : nx < 8) (h0 : 0 < u) (hj : j < u) : rgN (u - 1) ((nx + 7) % 8) j = rgN u nx j ∧ rgN u nx (u - 1) = (nx + 7) % 8 := by
  unfold rgN
  omega
theorem UR.pop {R U : Nat → Nat → Nat} {u nx : Nat} (h : UR R U u nx) (hu : u ≤ 8) (hn : nx < 8) (h0 : 0 < u) : UR R U (u - 1) ((nx + 7) % 8) := by
  intro j hj k hk
  rw [(rg_pop hu hn h0 (show j < u by omega)).1]
  exact h j (by omega) k hk
