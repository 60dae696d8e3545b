/-! WHAT IS DONE -/
def NowC (Mi : MI) (X : Nat) (S : Nat → Nat) (U : Nat → Nat → Nat) (u : Nat) : Prop := ∃ (R : Nat → Nat → Nat) (nx : Nat), BltR Mi (X + 1) S R u nx ∧ UR R U u nx
theorem NowC.fr {Mi Mi' : MI} {X u : Nat} {S : Nat → Nat} {U : Nat → Nat → Nat} (h : NowC Mi X S U u) (h6 : S 0 ≤ 6) (e : ∀ a, X + 1 ≤ a → a < X + 78 → Mi' a = Mi a) : NowC Mi' X S U u := by
  obtain ⟨R, nx, h1, h2⟩ := h
  exact ⟨R, nx, h1.fr h6 (fun a q1 q2 => e a (by omega) (by omega)), h2⟩
def setS (S : Nat → Nat) (j v : Nat) : Nat → Nat := fun k => if k = j then v else S k
theorem setS_o {S : Nat → Nat} {j v k : Nat} (h : k ≠ j) : setS S j v k = S k := by unfold setS; rw [if_neg h]
theorem setS_s {S : Nat → Nat} {j v : Nat} : setS S j v j = v := by unfold setS; rw [if_pos rfl]
/-- state, what may be undone, how much of it -/
abbrev SU : Type := (Nat → Nat) × (Nat → Nat → Nat) × Nat
def puT (z : SU) (S' : Nat → Nat) : SU := (S', puU z.2.1 z.2.2 z.1, min (z.2.2 + 1) 8)
def sp_day (S : Nat → Nat) (c v : Int32) : Int32 × (Nat → Nat) := if isB c 0 (2 * S 2) = true ∧ isB v 0 7 = true then (nI (S (6 + pn c)), setS S (6 + pn c) (pn v)) else (-1, S)
def sp_rule (S : Nat → Nat) (w v : Int32) : Int32 × (Nat → Nat) := if w = 0 ∧ isB v 1 61 = true then (nI (S 3), setS S 3 (pn v)) else if w = nI 1 ∧ isB v 2 25 = true then (nI (S 4), setS S 4 (pn v)) else (-1, S)
def sp_seed (S : Nat → Nat) (v : Int32) : Int32 × (Nat → Nat) := if v < 0 then (-1, S) else (nI (S 5), setS S 5 (pn v))
def sp_in (S : Nat → Nat) (p s : Int32) : Int32 × Option (Nat → Nat) := if isB p 0 (S 0) = true ∧ isB s 0 2 = true then (if S (21 + 6 * pn p) ≠ 0 then (-2, none) else if S (18 + 6 * pn p) ≠ 3 ∧ S 3 < ldN S (ciN (S 2) (pbN (S 2) (S (20 + 6 * pn p)) (pn s)) (S 1)) (S 0) + wgN S (pn p) then (-3, none) else (nI (ciN (S 2) (pbN (S 2) (S (20 + 6 * pn p)) (pn s)) (S 1)), some (setS S (21 + 6 * pn p) (ciN (S 2) (pbN (S 2) (S (20 + 6 * pn p)) (pn s)) (S 1) + 1)))) else (-1, none)
def ouS (S : Nat → Nat) (i : Nat) : Nat → Nat := setS (setS (setS S (20 + 6 * i) (flN (S 2) (plN (S 2) (S (21 + 6 * i) - 1) (S 1)))) (21 + 6 * i) 0) (22 + 6 * i) (S (6 + (S (21 + 6 * i) - 1)))
def sp_out (S : Nat → Nat) (p : Int32) : Int32 × Option (Nat → Nat) := if isB p 0 (S 0) = true then (if S (21 + 6 * pn p) = 0 then (-2, none) else (nI (flN (S 2) (plN (S 2) (S (21 + 6 * pn p) - 1) (S 1))), some (ouS S (pn p)))) else (-1, none)
/-- n steps, n steps of a drift: how often it stood still -/
def stT (z : SU) : Nat → SU
  | 0 => z
  | k + 1 => puT (stT z k) (goS (stT z k).1)
def drT (z : SU) : Nat → SU
  | 0 => z
  | k + 1 => puT (drT z k) (dS (drT z k).1)
def drC (z : SU) : Nat → Nat
  | 0 => 0
  | k + 1 => drC z k + (if stB (drT z k).1 = true then 1 else 0)
def sp_steps (z : SU) (n : Int32) : Int32 × SU := if isB n 1 61 = true then (if 9999 < z.1 1 + pn n then (-3, z) else (nI (rdN (stT z (pn n)).1), stT z (pn n))) else (-1, z)
def sp_drift (z : SU) (n : Int32) : Int32 × SU := if isB n 1 61 = true then (if 9999 < z.1 1 + pn n then (-3, z) else (nI (drC z (pn n)), drT z (pn n))) else (-1, z)
def unS (S V : Nat → Nat) : Nat → Nat := fun j => if j = 1 ∨ j = 5 ∨ 18 ≤ j then V j else S j
def sp_undo (z : SU) : Int32 × SU := if z.2.2 = 0 then (-4, z) else (nI (z.2.2 - 1), (unS z.1 (z.2.1 (z.2.2 - 1)), z.2.1, z.2.2 - 1))
def sp_person (S : Nat → Nat) (k w f d : Int32) : Int32 × Option (Nat → Nat) := if isB k 0 5 = true ∧ isB w 1 10 = true ∧ isB f 0 (S 2) = true ∧ isB d 0 7 = true then (if S 0 = 6 then (-3, none) else (nI (S 0), some (addS S (pn k) (pn w) (pn f) (pn d)))) else (-1, none)
/-- what holds of a state and of what may be undone -/
def WFU (z : SU) : Prop := WF z.1 ∧ z.2.2 ≤ 8 ∧ ∀ j, j < z.2.2 → WF (z.2.1 j) ∧ z.2.1 j 0 = z.1 0 ∧ z.2.1 j 2 = z.1 2
theorem WFU.put {z : SU} {S' : Nat → Nat} (h : WFU z) (h1 : WF S') (h0 : S' 0 = z.1 0) (h2 : S' 2 = z.1 2) : WFU (puT z S') := by
  obtain ⟨w, hu, hj⟩ := h
  refine ⟨h1, by show min (z.2.2 + 1) 8 ≤ 8; omega, fun j hjl => ?_⟩
  have hjl : j < min (z.2.2 + 1) 8 := hjl
  show WF (puU z.2.1 z.2.2 z.1 j) ∧ puU z.2.1 z.2.2 z.1 j 0 = S' 0 ∧ puU z.2.1 z.2.2 z.1 j 2 = S' 2
  rw [h0, h2]
  unfold puU
  split
  · split
    · exact hj _ (by omega)
    · exact ⟨w, rfl, rfl⟩
  · split
    · exact hj _ (by omega)
    · exact ⟨w, rfl, rfl⟩
theorem goS_2 {S : Nat → Nat} : goS S 2 = S 2 := goS_lo (by decide) (by decide)
theorem stT_WF {z : SU} (h : WFU z) : ∀ n, z.1 1 + n ≤ 10000 → WFU (stT z n) ∧ (stT z n).1 1 = z.1 1 + n
  | 0, _ => ⟨h, rfl⟩
  | n + 1, hn => by
    obtain ⟨h1, h2⟩ := stT_WF h n (by omega)
    refine ⟨h1.put (goS_WF h1.1 (by omega)) goS_0 goS_2, ?_⟩
    show goS (stT z n).1 1 = _
    rw [goS_1, h2]
    omega
theorem dS_0 {S : Nat → Nat} : dS S 0 = S 0 := by
  unfold dS
  split
  · rw [dwS_o (by decide)]
  · rw [goS_0, dwS_o (by decide)]
theorem dS_2 {S : Nat → Nat} : dS S 2 = S 2 := by
  unfold dS
  split
  · rw [dwS_o (by decide)]
  · rw [goS_2, dwS_o (by decide)]
theorem dS_1 {S : Nat → Nat} : dS S 1 ≤ S 1 + 1 := by
  unfold dS
  split
  · rw [dwS_o (by decide)]; omega
  · rw [goS_1, dwS_o (by decide)]; omega
theorem dS_WF {S : Nat → Nat} (h : WF S) (h1 : S 1 < 10100) : WF (dS S) := by
  unfold dS; split
  · exact dwS_WF h
  · exact goS_WF (dwS_WF h) (by rw [dwS_o (by decide)]; exact h1)
theorem drT_WF {z : SU} (h : WFU z) : ∀ n, z.1 1 + n ≤ 10000 → WFU (drT z n) ∧ (drT z n).1 1 ≤ z.1 1 + n
  | 0, _ => ⟨h, Nat.le_refl _⟩
  | n + 1, hn => by
    obtain ⟨h1, h2⟩ := drT_WF h n (by omega)
    refine ⟨h1.put (dS_WF h1.1 (by omega)) dS_0 dS_2, ?_⟩
    show dS (drT z n).1 1 ≤ _
    have := dS_1 (S := (drT z n).1)
    omega
theorem drC_le (z : SU) : ∀ n, drC z n ≤ n
  | 0 => Nat.le_refl _
  | n + 1 => by have := drC_le z n; unfold drC; split <;> omega
theorem NowC.put {Mi : MI} {X : Nat} {z : SU} {S' : Nat → Nat} {R : Nat → Nat → Nat} {nx : Nat} (h : BltR Mi (X + 1) S' (updR R nx z.1) (min (z.2.2 + 1) 8) ((nx + 1) % 8)) (hU : UR R z.2.1 z.2.2 nx) (hu : z.2.2 ≤ 8) (hn : nx < 8) : NowC Mi X (puT z S').1 (puT z S').2.1 (puT z S').2.2 := ⟨_, _, h, hU.push hu hn⟩
theorem rd_dw {S : Nat → Nat} : stN (fun p => decide (dwS S (21 + 6 * p) ≠ 0)) (dwS S 0) = rdN S := by
  unfold rdN
  rw [dwS_o (by decide)]
  congr 1
  funext p
  rw [dwS_o (by omega)]
theorem nI_dr (a : Nat) : nI (a * 1103515245 + 12345) &&& (2147483647 : Int32) = nI (drN a) := by rw [nI_mask]; unfold drN; rfl
theorem jv_forget6 {x : CX} {cs sl : Nat} {T : TT} {Mi : MI} {Ml : ML} {pc : Nat} {a b c d e f : Option Value} {st : List Value} (k : V x cs sl T Mi Ml pc [a, b, c, d, e, none] st) : V x cs sl T Mi Ml pc [a, b, c, d, e, f] st :=
  jv_forget (fun i v h => by
    match i, h with
    | 0, h => exact h
    | 1, h => exact h
    | 2, h => exact h
    | 3, h => exact h
    | 4, h => exact h
    | 5, h => cases h
    | i + 6, h => exact h) k
