/-! A STEP, of the state -/
def Fr (Mi Mi' : MI) (lo hi : Nat) : Prop := ∀ a, (a < lo ∨ hi ≤ a) → Mi' a = Mi a
theorem Fr.rf (Mi : MI) (lo hi : Nat) : Fr Mi Mi lo hi := fun _ _ => rfl
theorem Fr.tr {Mi Mi' Mi'' : MI} {lo hi lo' hi' l h : Nat} (h1 : Fr Mi Mi' lo hi) (h2 : Fr Mi' Mi'' lo' hi') (e : l ≤ lo ∧ hi ≤ h ∧ l ≤ lo' ∧ hi' ≤ h) : Fr Mi Mi'' l h := fun a ha => (h2 a (by omega)).trans (h1 a (by omega))
theorem Fr.wd {Mi Mi' : MI} {lo hi l h : Nat} (h1 : Fr Mi Mi' lo hi) (e : l ≤ lo ∧ hi ≤ h) : Fr Mi Mi' l h := fun a ha => h1 a (by omega)
theorem Fr.up {Mi : MI} {a k : Nat} {v : Int32} {lo hi : Nat} (h : lo ≤ a ∧ a < hi) : Fr Mi (upd2 Mi a k v) lo hi := fun b hb => upd2_row Mi v (by omega)
theorem PerR.fr {Mi Mi' : MI} {a p : Nat} {S : Nat → Nat} (h : PerR Mi a S p) (e : Mi' a = Mi a) : PerR Mi' a S p := by unfold PerR; rw [e]; exact h
theorem ScnR.fr {Mi Mi' : MI} {A : Nat} {S : Nat → Nat} (h : ScnR Mi A S) (h6 : S 0 ≤ 6) (e : ∀ a, A ≤ a → a < A + 8 → Mi' a = Mi a) : ScnR Mi' A S := by
  obtain ⟨h1, h2, h3, h4⟩ := h
  refine ⟨by rw [e A (by omega) (by omega)]; exact h1, by rw [e A (by omega) (by omega)]; exact h2, by rw [e A (by omega) (by omega)]; exact h3, fun p hp => (h4 p hp).fr (e _ (by omega) (by omega))⟩
theorem BlkR.fr {Mi Mi' : MI} {B : Nat} {S : Nat → Nat} (h : BlkR Mi B S) (e : Mi' B = Mi B) (e1 : Mi' (B + 1) = Mi (B + 1)) : BlkR Mi' B S := by
  unfold BlkR; rw [e, e1]; exact h
def trN (h k pl : Nat) : Bool := decide ((pl = 0 ∧ (k = 1 ∨ k = 4)) ∨ (pl = h ∧ k = 1))
def tnB (S : Nat → Nat) (p : Nat) : Bool := decide (S (21 + 6 * p) ≠ 0) && trN (S 2) (S (18 + 6 * p)) (plN (S 2) (S (21 + 6 * p) - 1) (S 1 + 1))
def goF (S : Nat → Nat) (p : Nat) : Nat := if tnB S p = true then flN (S 2) (plN (S 2) (S (21 + 6 * p) - 1) (S 1 + 1)) else S (20 + 6 * p)
def goC (S : Nat → Nat) (p : Nat) : Nat := if tnB S p = true then 0 else S (21 + 6 * p)
def goD (S : Nat → Nat) (p : Nat) : Nat := if tnB S p = true then S (6 + (S (21 + 6 * p) - 1)) else S (22 + 6 * p)
def goL (S : Nat → Nat) (p : Nat) : Nat := S (23 + 6 * p) + (if (S 1 + 1) % S 4 = 0 ∧ goC S p = 0 ∧ goF S p = 0 then 1 else 0)
def goS (S : Nat → Nat) : Nat → Nat := fun j => if j = 1 then S 1 + 1 else if j < 18 ∨ S 0 ≤ (j - 18) / 6 then S j else if (j - 18) % 6 = 2 then goF S ((j - 18) / 6) else if (j - 18) % 6 = 3 then goC S ((j - 18) / 6) else if (j - 18) % 6 = 4 then goD S ((j - 18) / 6) else if (j - 18) % 6 = 5 then goL S ((j - 18) / 6) else S j
section GoS
variable {S : Nat → Nat} {p j : Nat}
theorem goS_1 : goS S 1 = S 1 + 1 := rfl
theorem goS_lo (h : j < 18) (h1 : j ≠ 1) : goS S j = S j := by unfold goS; rw [if_neg h1, if_pos (Or.inl h)]
theorem goS_hi (h : 18 + 6 * S 0 ≤ j) : goS S j = S j := by unfold goS; rw [if_neg (by omega), if_pos (Or.inr (by omega))]
theorem goS_0 : goS S 0 = S 0 := goS_lo (by decide) (by decide)
theorem goS_k (h : p < S 0) : goS S (18 + 6 * p) = S (18 + 6 * p) := by unfold goS; rw [if_neg (by omega), if_neg (by omega), if_neg (by omega), if_neg (by omega), if_neg (by omega), if_neg (by omega)]
theorem goS_w (h : p < S 0) : goS S (19 + 6 * p) = S (19 + 6 * p) := by unfold goS; rw [if_neg (by omega), if_neg (by omega), if_neg (by omega), if_neg (by omega), if_neg (by omega), if_neg (by omega)]
theorem goS_f (h : p < S 0) : goS S (20 + 6 * p) = goF S p := by unfold goS; rw [if_neg (by omega), if_neg (by omega), if_pos (by omega), show (20 + 6 * p - 18) / 6 = p by omega]
theorem goS_c (h : p < S 0) : goS S (21 + 6 * p) = goC S p := by unfold goS; rw [if_neg (by omega), if_neg (by omega), if_neg (by omega), if_pos (by omega), show (21 + 6 * p - 18) / 6 = p by omega]
theorem goS_d (h : p < S 0) : goS S (22 + 6 * p) = goD S p := by unfold goS; rw [if_neg (by omega), if_neg (by omega), if_neg (by omega), if_neg (by omega), if_pos (by omega), show (22 + 6 * p - 18) / 6 = p by omega]
theorem goS_l (h : p < S 0) : goS S (23 + 6 * p) = goL S p := by unfold goS; rw [if_neg (by omega), if_neg (by omega), if_neg (by omega), if_neg (by omega), if_neg (by omega), if_pos (by omega), show (23 + 6 * p - 18) / 6 = p by omega]
end GoS
theorem flN_lt {h p : Nat} (hp : p < 2 * h) : flN h p < h := by unfold flN; split <;> omega
theorem plN_lt {h c s : Nat} (hh : 0 < h) : plN h c s < 2 * h := Nat.mod_lt _ (by omega)
theorem ciN_lt {h c s : Nat} (hh : 0 < h) : ciN h c s < 2 * h := Nat.mod_lt _ (by omega)
theorem pbN_lt {h f s : Nat} (hf : f < h) : pbN h f s < 2 * h := by unfold pbN; split <;> omega
theorem goS_WF {S : Nat → Nat} (hW : WF S) (h1 : S 1 < 10100) : WF (goS S) := by
  obtain ⟨w0, w1, w2, w3, w4, w5, w6, w7⟩ := hW
  unfold WF
  rw [goS_0, goS_1, goS_lo (show 2 < 18 by decide) (by decide), goS_lo (show 3 < 18 by decide) (by decide), goS_lo (show 4 < 18 by decide) (by decide), goS_lo (show 5 < 18 by decide) (by decide)]
  refine ⟨w0, by omega, w2, w3, w4, w5, fun k hk => by rw [goS_lo (by omega) (by omega)]; exact w6 k hk, fun p hp => ?_⟩
  obtain ⟨q0, q1, q2, q3, q4, q5⟩ := w7 p hp
  rw [goS_k hp, goS_w hp, goS_f hp, goS_c hp, goS_d hp, goS_l hp]
  refine ⟨q0, q1, ?_, ?_, ?_, ?_⟩
  · unfold goF; split
    · exact flN_lt (plN_lt (by omega))
    · exact q2
  · unfold goC; split <;> omega
  · unfold goD; split
    · rename_i h
      simp [tnB] at h
      exact w6 _ (by omega)
    · exact q4
  · unfold goL; split <;> omega
/-- one more person -/
def addS (S : Nat → Nat) (k w f d : Nat) : Nat → Nat := fun j => if j = 0 then S 0 + 1 else if j = 18 + 6 * S 0 then k else if j = 19 + 6 * S 0 then w else if j = 20 + 6 * S 0 then f else if j = 21 + 6 * S 0 then 0 else if j = 22 + 6 * S 0 then d else if j = 23 + 6 * S 0 then 0 else S j
theorem addS_o {S : Nat → Nat} {k w f d j : Nat} (h : j ≠ 0) (h2 : j < 18 + 6 * S 0 ∨ 24 + 6 * S 0 ≤ j) : addS S k w f d j = S j := by
  unfold addS
  rw [if_neg h, if_neg (by omega), if_neg (by omega), if_neg (by omega), if_neg (by omega), if_neg (by omega), if_neg (by omega)]
theorem addS_p {S : Nat → Nat} {k w f d : Nat} : addS S k w f d 0 = S 0 + 1 ∧ addS S k w f d (18 + 6 * S 0) = k ∧ addS S k w f d (19 + 6 * S 0) = w ∧ addS S k w f d (20 + 6 * S 0) = f ∧ addS S k w f d (21 + 6 * S 0) = 0 ∧ addS S k w f d (22 + 6 * S 0) = d ∧ addS S k w f d (23 + 6 * S 0) = 0 := by
  unfold addS
  refine ⟨rfl, ?_, ?_, ?_, ?_, ?_, ?_⟩
  · rw [if_neg (by omega), if_pos rfl]
  · rw [if_neg (by omega), if_neg (by omega), if_pos rfl]
  · rw [if_neg (by omega), if_neg (by omega), if_neg (by omega), if_pos rfl]
  · rw [if_neg (by omega), if_neg (by omega), if_neg (by omega), if_neg (by omega), if_pos rfl]
  · rw [if_neg (by omega), if_neg (by omega), if_neg (by omega), if_neg (by omega), if_neg (by omega), if_pos rfl]
  · rw [if_neg (by omega), if_neg (by omega), if_neg (by omega), if_neg (by omega), if_neg (by omega), if_neg (by omega), if_pos rfl]
theorem addS_WF {S : Nat → Nat} {k w f d : Nat} (hW : WF S) (h0 : S 0 < 6) (hk : k < 5) (hw : 1 ≤ w ∧ w ≤ 9) (hf : f < S 2) (hd : d < 7) : WF (addS S k w f d) := by
  obtain ⟨w0, w1, w2, w3, w4, w5, w6, w7⟩ := hW
  obtain ⟨e0, e1, e2, e3, e4, e5, e6⟩ := addS_p (S := S) (k := k) (w := w) (f := f) (d := d)
  unfold WF
  rw [e0, addS_o (show 1 ≠ 0 by decide) (by omega), addS_o (show 2 ≠ 0 by decide) (by omega), addS_o (show 3 ≠ 0 by decide) (by omega), addS_o (show 4 ≠ 0 by decide) (by omega), addS_o (show 5 ≠ 0 by decide) (by omega)]
  refine ⟨by omega, w1, w2, w3, w4, w5, fun j hj => by rw [addS_o (by omega) (by omega)]; exact w6 j hj, fun p hp => ?_⟩
  by_cases hpe : p = S 0
  · subst hpe
    rw [e1, e2, e3, e4, e5, e6]
    exact ⟨hk, hw, hf, by omega, hd, by omega⟩
  · rw [addS_o (by omega) (by omega), addS_o (by omega) (by omega), addS_o (by omega) (by omega), addS_o (by omega) (by omega), addS_o (by omega) (by omega), addS_o (by omega) (by omega)]
    exact w7 p (by omega)
/-- a local that is no longer asked for -/
theorem jv_forget {x : CX} {cs sl : Nat} {T : TT} {Mi : MI} {Ml : ML} {pc : Nat} {lv lv' : List (Option Value)} {st : List Value} (hl : ∀ i v, lget lv' i = some v → lget lv i = some v) (k : V x cs sl T Mi Ml pc lv' st) : V x cs sl T Mi Ml pc lv st := by
  obtain ⟨g, p, l, e, R, s, m, args, below, meth, c, nL, Q⟩ := x
  intro H locs ls hR hS h
  exact k H locs ls hR hS ⟨h.1, h.2.1, fun i v hv => h.2.2 i v (hl i v hv)⟩
theorem jv_forget5 {x : CX} {cs sl : Nat} {T : TT} {Mi : MI} {Ml : ML} {pc : Nat} {a b c d e : Option Value} {st : List Value} (k : V x cs sl T Mi Ml pc [a, b, c, d, none] st) : V x cs sl T Mi Ml pc [a, b, c, d, e] st :=
  jv_forget (fun i v h => by
    match i, h with
    | 0, h => exact h
    | 1, h => exact h
    | 2, h => exact h
    | 3, h => exact h
    | 4, h => cases h
    | i + 5, h => exact h) k
