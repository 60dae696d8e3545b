/-! SHEETS: lane + 1 (0: nothing), size, items -/
abbrev SH : Type := (Nat → Nat) × (Nat → Nat) × (Nat → Nat → Int64)
def ShtS (g : GT) (T : TT) (H : Nat) : Prop := KD g T H 6 ∧ T.2.2 H 0 = some (H + 1) ∧ AR g T (H + 1) 13 24
def ShtR (Mi : MI) (Ml : ML) (H ln sz : Nat) (it : Nat → Int64) : Prop := Mi H 1 = carI ln ∧ ln ≤ 4 ∧ (ln ≠ 0 → Mi H 2 = nI sz ∧ sz ≤ 24 ∧ ∀ k, k < 24 → Ml (H + 1) k = it k)
def ShC (Mi : MI) (Ml : ML) (X : Nat) (h : SH) : Prop := ∀ s, s < 4 → ShtR Mi Ml (X + 186 + 2 * s) (h.1 s) (h.2.1 s) (h.2.2 s)
def ShM (Mi : MI) (Ml : ML) (Y : Nat) (h : SH) : Prop := ∀ s, s < 4 → Mi (Y + 7) s = carI (h.1 s) ∧ h.1 s ≤ 4 ∧ (h.1 s ≠ 0 → Mi (Y + 8) s = nI (h.2.1 s) ∧ h.2.1 s ≤ 24 ∧ ∀ k, k < 24 → Ml (Y + 9) (24 * s + k) = h.2.2 s k)
theorem DayS.sht {g : GT} {T : TT} {X s : Nat} (h : DayS g T X) (hs : s < 4) : ShtS g T (X + 186 + 2 * s) := by
  obtain ⟨x0, ⟨x1, x2⟩, ⟨x3, x4⟩, ⟨x5, x6, x7, x8⟩, ⟨x9, x10, x11, x12, x13, x14⟩, ⟨x15, x16⟩, ⟨x17, x18, x19, x20⟩, ⟨x21, x22, x23, x24⟩, ⟨x25, x26, x27, x28, x29, x30⟩, x31, x32, x33, x34, x35, x36⟩ := h
  have e : X + 187 + 2 * s = X + 186 + 2 * s + 1 := by omega
  exact ⟨x34 s hs, by rw [← e]; exact x35 s hs, by rw [← e]; exact x36 s hs⟩
def hoB (i n : Int32) (sz : Nat) : Bool := decide (0 ≤ i.toInt ∧ 0 ≤ n.toInt ∧ i.toInt + n.toInt ≤ (sz : Int))
theorem hoB_t {i n : Int32} {sz : Nat} (h : hoB i n sz = true) : ∃ a b : Nat, NF i a ∧ NF n b ∧ a + b ≤ sz := by
  unfold hoB at h
  rw [decide_eq_true_iff] at h
  exact ⟨i.toInt.toNat, n.toInt.toNat, toInt_nI (by omega), toInt_nI (by omega), by omega⟩
def rfN (ln l : Nat) (i n : Int32) (sz : Nat) : Int32 := if ln = 0 then -11 else if l + 1 ≠ ln then -12 else if hoB i n sz = true then 0 else -13
def cvL (l : Nat) (v : Int64) : Int64 := if l = 0 then v.toInt32.toInt8.toInt32.toInt64 else if l = 1 then v.toInt32.toInt16.toInt32.toInt64 else if l = 2 then v.toInt32.toInt64 else v
def shSet (h : SH) (s ln sz : Nat) (it : Nat → Int64) : SH := (fun k => if k = s then ln else h.1 k, fun k => if k = s then sz else h.2.1 k, fun k => if k = s then it else h.2.2 k)
def itSet (it : Nat → Int64) (j : Nat) (v : Int64) : Nat → Int64 := fun k => if k = j then v else it k
def sp_sheet (h : SH) (s l n : Int32) : Int32 × SH := if isB s 0 4 = true ∧ isB l 0 4 = true ∧ n.toInt ≤ 24 then (if n < 0 then (-14, h) else (n, shSet h (pn s) (pn l + 1) (pn n) (fun _ => 0))) else (-1, h)
def sp_drop (h : SH) (s : Int32) : Int32 × SH := if isB s 0 4 = true then (if h.1 (pn s) = 0 then (-11, h) else (nI (h.2.1 (pn s)), shSet h (pn s) 0 (h.2.1 (pn s)) (h.2.2 (pn s)))) else (-1, h)
def sp_item (h : SH) (s l i : Int32) (v : Int64) : Int32 × SH := if isB s 0 4 = true ∧ isB l 0 4 = true then (if rfN (h.1 (pn s)) (pn l) i (nI 1) (h.2.1 (pn s)) = 0 then (nI 1, shSet h (pn s) (h.1 (pn s)) (h.2.1 (pn s)) (itSet (h.2.2 (pn s)) (pn i) (cvL (pn l) v))) else (rfN (h.1 (pn s)) (pn l) i (nI 1) (h.2.1 (pn s)), h)) else (-1, h)
def cpI (f t : Nat → Int64) (i j n : Nat) : Nat → Int64 := fun k => if j ≤ k ∧ k < j + n then f (i + (k - j)) else t k
def sp_copy (h : SH) (f i t j n : Int32) : Int32 × SH := if isB f 0 4 = true ∧ isB t 0 4 = true then (if h.1 (pn f) = 0 ∨ h.1 (pn t) = 0 then (-11, h) else if h.1 (pn f) ≠ h.1 (pn t) then (-12, h) else if hoB i n (h.2.1 (pn f)) = true ∧ hoB j n (h.2.1 (pn t)) = true then (n, shSet h (pn t) (h.1 (pn t)) (h.2.1 (pn t)) (cpI (h.2.2 (pn f)) (h.2.2 (pn t)) (pn i) (pn j) (pn n))) else (-13, h)) else (-1, h)
theorem ShC.fr {Mi Mi' : MI} {Ml Ml' : ML} {X : Nat} {h : SH} (hc : ShC Mi Ml X h) (e : ∀ a, X + 186 ≤ a → a < X + 194 → Mi' a = Mi a) (e' : ∀ a, X + 186 ≤ a → a < X + 194 → Ml' a = Ml a) : ShC Mi' Ml' X h := by
  intro s hs
  obtain ⟨h1, h2, h3⟩ := hc s hs
  refine ⟨by rw [e _ (by omega) (by omega)]; exact h1, h2, fun q => ?_⟩
  obtain ⟨k1, k2, k3⟩ := h3 q
  exact ⟨by rw [e _ (by omega) (by omega)]; exact k1, k2, fun k hk => by rw [e' _ (by omega) (by omega)]; exact k3 k hk⟩
theorem ShC.upd {Mi Mi' : MI} {Ml Ml' : ML} {X : Nat} {h : SH} {s ln sz : Nat} {it : Nat → Int64} (hc : ShC Mi Ml X h) (hs : s < 4) (e : ∀ a, a ≠ X + 186 + 2 * s → Mi' a = Mi a) (e' : ∀ a, a ≠ X + 186 + 2 * s + 1 → Ml' a = Ml a) (hn : ShtR Mi' Ml' (X + 186 + 2 * s) ln sz it) : ShC Mi' Ml' X (shSet h s ln sz it) := by
  intro k hk
  unfold shSet
  dsimp only
  by_cases hks : k = s
  · subst hks
    rw [if_pos rfl, if_pos rfl, if_pos rfl]
    exact hn
  · rw [if_neg hks, if_neg hks, if_neg hks]
    obtain ⟨h1, h2, h3⟩ := hc k hk
    refine ⟨by rw [e _ (by omega)]; exact h1, h2, fun q => ?_⟩
    obtain ⟨k1, k2, k3⟩ := h3 q
    exact ⟨by rw [e _ (by omega)]; exact k1, k2, fun j hj => by rw [e' _ (by omega)]; exact k3 j hj⟩
theorem ho_raw {i n : Int32} {sz : Nat} (hs : sz ≤ 24) (h1 : ¬ i < 0) (h2 : ¬ n < 0) : (nI sz - n < i) ↔ ¬ hoB i n sz = true := by
  unfold hoB
  rw [decide_eq_true_iff]
  rw [Int32.lt_iff_toInt_lt] at h1 h2 ⊢
  have e0 : (0 : Int32).toInt = 0 := by decide
  rw [e0] at h1 h2
  have hn := Int32.toInt_lt n
  rw [Int32.toInt_sub, nI_toInt (by omega), bm32 (by omega) (by omega)]
  omega
theorem ho_neg {i n : Int32} {sz : Nat} (h : i < 0 ∨ n < 0) : hoB i n sz = false := by
  unfold hoB
  rw [decide_eq_false_iff_not]
  rw [Int32.lt_iff_toInt_lt, Int32.lt_iff_toInt_lt] at h
  have e0 : (0 : Int32).toInt = 0 := by decide
  rw [e0] at h
  omega
