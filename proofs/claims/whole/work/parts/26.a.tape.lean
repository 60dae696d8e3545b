/-! THE TAPE -/
def skN (t : Nat → Nat) : Nat → Nat → Nat
  | p, 0 => p
  | p, m + 1 => if t p = 32 then skN t (p + 1) m else p
def sk (t : Nat → Nat) (ln p : Nat) : Nat := skN t p (ln - p)
theorem sk_b {t : Nat → Nat} {ln p : Nat} (hp : p < ln) (h : t p = 32) : sk t ln p = sk t ln (p + 1) := by
  unfold sk
  rw [show ln - p = (ln - (p + 1)) + 1 by omega]
  show (if t p = 32 then _ else _) = _
  rw [if_pos h]
theorem sk_n {t : Nat → Nat} {ln p : Nat} (hp : p < ln) (h : t p ≠ 32) : sk t ln p = p := by
  unfold sk
  rw [show ln - p = (ln - (p + 1)) + 1 by omega]
  show (if t p = 32 then _ else _) = _
  rw [if_neg h]
theorem sk_e {t : Nat → Nat} {ln p : Nat} (hp : ln ≤ p) : sk t ln p = p := by
  unfold sk
  rw [show ln - p = 0 by omega]
  rfl
theorem skN_c {t : Nat → Nat} : ∀ {m p : Nat}, p ≤ skN t p m ∧ skN t p m ≤ p + m ∧ (skN t p m < p + m → t (skN t p m) ≠ 32)
  | 0, p => ⟨Nat.le_refl _, Nat.le_refl _, fun h => absurd h (by show ¬ p < p + 0; omega)⟩
  | m + 1, p => by
    show p ≤ (if t p = 32 then skN t (p + 1) m else p) ∧ (if t p = 32 then skN t (p + 1) m else p) ≤ p + (m + 1) ∧ ((if t p = 32 then skN t (p + 1) m else p) < p + (m + 1) → t (if t p = 32 then skN t (p + 1) m else p) ≠ 32)
    by_cases h : t p = 32
    · rw [if_pos h]
      obtain ⟨h1, h2, h3⟩ := skN_c (t := t) (m := m) (p := p + 1)
      exact ⟨by omega, by omega, fun q => h3 (by omega)⟩
    · rw [if_neg h]
      exact ⟨Nat.le_refl _, by omega, fun _ => h⟩
theorem sk_c {t : Nat → Nat} {ln p : Nat} (hp : p ≤ ln) : p ≤ sk t ln p ∧ sk t ln p ≤ ln ∧ (sk t ln p < ln → t (sk t ln p) ≠ 32) := by
  obtain ⟨h1, h2, h3⟩ := skN_c (t := t) (m := ln - p) (p := p)
  unfold sk
  exact ⟨h1, by omega, fun q => h3 (by omega)⟩
theorem sk_i {t : Nat → Nat} {ln p : Nat} (hp : p ≤ ln) : sk t ln (sk t ln p) = sk t ln p := by
  obtain ⟨h1, h2, h3⟩ := sk_c (t := t) hp
  by_cases h : sk t ln p < ln
  · exact sk_n h (h3 h)
  · exact sk_e (by omega)
def TA (t : Nat → Nat) (ln : Nat) : Prop := ln ≤ 60 ∧ ∀ k, k < ln → 32 ≤ t k ∧ t k ≤ 126
def TapS (g : GT) (T : TT) (Z : Nat) : Prop := KD g T Z 7 ∧ T.2.2 Z 0 = some (Z + 1) ∧ AR g T (Z + 1) 12 60
def TapR (Mi : MI) (Z : Nat) (t : Nat → Nat) (ln p : Nat) : Prop := Mi Z 1 = nI ln ∧ Mi Z 2 = nI p ∧ ∀ k, k < ln → Mi (Z + 1) k = nI (t k)
def TapF (Mi Mi' : MI) (Z : Nat) : Prop := (∀ a, a ≠ Z → Mi' a = Mi a) ∧ ∀ q, q ≠ 2 → Mi' Z q = Mi Z q
theorem TapF.rf (Mi : MI) (Z : Nat) : TapF Mi Mi Z := ⟨fun _ _ => rfl, fun _ _ => rfl⟩
theorem TapF.tr {Mi Mi' Mi'' : MI} {Z : Nat} (h : TapF Mi Mi' Z) (h2 : TapF Mi' Mi'' Z) : TapF Mi Mi'' Z := ⟨fun a ha => (h2.1 a ha).trans (h.1 a ha), fun q hq => (h2.2 q hq).trans (h.2 q hq)⟩
theorem TapF.put {Mi Mi' : MI} {Z : Nat} {v : Int32} (h : TapF Mi Mi' Z) : TapF Mi (upd2 Mi' Z 2 v) Z := ⟨fun a ha => (upd2_row _ _ ha).trans (h.1 a ha), fun q hq => (upd2_ne _ _ (by omega)).trans (h.2 q hq)⟩
theorem TapR.fr {Mi Mi' : MI} {Z ln p p' : Nat} {t : Nat → Nat} (h : TapR Mi Z t ln p) (hf : TapF Mi Mi' Z) (h2 : Mi' Z 2 = nI p') : TapR Mi' Z t ln p' := ⟨by rw [hf.2 1 (by decide)]; exact h.1, h2, fun k hk => by rw [hf.1 _ (by omega)]; exact h.2.2 k hk⟩
theorem DayS.tap {g : GT} {T : TT} {X : Nat} (h : DayS g T X) : T.2.2 X 3 = some (X + 155) ∧ TapS g T (X + 155) := by
  obtain ⟨x0, ⟨x1, x2⟩, ⟨x3, x4⟩, ⟨x5, x6, x7, x8⟩, -⟩ := h
  exact ⟨x5, x6, x7, x8⟩
/-- takes a letter, a digit: whether, and where it stands then -/
def tkB (t : Nat → Nat) (ln c p : Nat) : Bool := decide (sk t ln p < ln ∧ t (sk t ln p) = c)
def dgB (t : Nat → Nat) (ln lo hi p : Nat) : Bool := decide (sk t ln p < ln ∧ lo + 48 ≤ t (sk t ln p) ∧ t (sk t ln p) < hi + 48)
def poB (t : Nat → Nat) (ln p : Nat) (b : Bool) : Nat := if b = true then sk t ln p + 1 else sk t ln p
def dgV (t : Nat → Nat) (ln p : Nat) : Nat := t (sk t ln p) - 48
theorem poB_le {t : Nat → Nat} {ln p : Nat} {b : Bool} (hp : p ≤ ln) (hb : b = true → sk t ln p < ln) : poB t ln p b ≤ ln := by
  unfold poB
  obtain ⟨h1, h2, h3⟩ := sk_c (t := t) hp
  cases b with
  | true => rw [if_pos rfl]; have := hb rfl; omega
  | false => rw [if_neg (by decide)]; exact h2
theorem tk_le {t : Nat → Nat} {ln p c : Nat} (hp : p ≤ ln) : poB t ln p (tkB t ln c p) ≤ ln := poB_le hp (fun h => by unfold tkB at h; exact (of_decide_eq_true h).1)
theorem dg_le {t : Nat → Nat} {ln p lo hi : Nat} (hp : p ≤ ln) : poB t ln p (dgB t ln lo hi p) ≤ ln := poB_le hp (fun h => by unfold dgB at h; exact (of_decide_eq_true h).1)
theorem isB_sub {x lo hi : Nat} (hx : x < 1000) : isB (nI x - nI 48) lo hi = decide (lo + 48 ≤ x ∧ x < hi + 48) := by
  unfold isB
  rw [pk_sub_toInt (by omega) (by decide)]
  apply decide_eq_decide.mpr
  omega
