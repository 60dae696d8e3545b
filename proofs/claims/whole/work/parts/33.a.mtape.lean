/-! THE REFERENCE'S TAPE -/
def MTR (Mi : MI) (Y : Nat) (t : Nat → Nat) (ln : Nat) : Prop := Mi Y 2 = nI ln ∧ ∀ k, k < ln → Mi (Y + 2) k = nI (t k)
def MCu (Mi : MI) (Y p : Nat) (b : Bool) : Prop := Mi Y 3 = nI p ∧ Mi Y 4 = bI b
def FrC (Mi Mi' : MI) (Y : Nat) : Prop := (∀ a, a ≠ Y → Mi' a = Mi a) ∧ ∀ q, q ≠ 3 → q ≠ 4 → Mi' Y q = Mi Y q
theorem FrC.rf (Mi : MI) (Y : Nat) : FrC Mi Mi Y := ⟨fun _ _ => rfl, fun _ _ _ => rfl⟩
theorem FrC.tr {Mi Mi' Mi'' : MI} {Y : Nat} (h : FrC Mi Mi' Y) (h2 : FrC Mi' Mi'' Y) : FrC Mi Mi'' Y := ⟨fun a ha => (h2.1 a ha).trans (h.1 a ha), fun q h3 h4 => (h2.2 q h3 h4).trans (h.2 q h3 h4)⟩
theorem FrC.p3 {Mi Mi' : MI} {Y : Nat} {v : Int32} (h : FrC Mi Mi' Y) : FrC Mi (upd2 Mi' Y 3 v) Y := ⟨fun a ha => (upd2_row _ _ ha).trans (h.1 a ha), fun q h3 h4 => (upd2_ne _ _ (by omega)).trans (h.2 q h3 h4)⟩
theorem FrC.p4 {Mi Mi' : MI} {Y : Nat} {v : Int32} (h : FrC Mi Mi' Y) : FrC Mi (upd2 Mi' Y 4 v) Y := ⟨fun a ha => (upd2_row _ _ ha).trans (h.1 a ha), fun q h3 h4 => (upd2_ne _ _ (by omega)).trans (h.2 q h3 h4)⟩
theorem MTR.fr {Mi Mi' : MI} {Y ln : Nat} {t : Nat → Nat} (h : MTR Mi Y t ln) (hf : FrC Mi Mi' Y) : MTR Mi' Y t ln := ⟨by rw [hf.2 2 (by decide) (by decide)]; exact h.1, fun k hk => by rw [hf.1 _ (by omega)]; exact h.2 k hk⟩
def heN (t : Nat → Nat) (ln p : Nat) : Nat := if sk t ln p < ln then t (sk t ln p) else 0
theorem he_lt {t : Nat → Nat} {ln p : Nat} (hA : TA t ln) : heN t ln p < 127 := by
  unfold heN
  split
  · rename_i h; have := (hA.2 _ h).2; omega
  · omega
theorem he_tk {t : Nat → Nat} {ln p c : Nat} (hc : c ≠ 0) : tkB t ln c p = decide (heN t ln p = c) := by
  unfold tkB heN
  apply decide_eq_decide.mpr
  by_cases h : sk t ln p < ln
  · rw [if_pos h]; exact ⟨fun z => z.2, fun z => ⟨h, z⟩⟩
  · rw [if_neg h]; exact ⟨fun z => absurd z.1 h, fun z => absurd z.symm hc⟩
theorem he_dg {t : Nat → Nat} {ln p lo hi : Nat} (hA : TA t ln) : isB (nI (heN t ln p) - nI 48) lo hi = dgB t ln lo hi p := by
  rw [isB_sub (by have := he_lt (p := p) hA; omega)]
  unfold dgB heN
  apply decide_eq_decide.mpr
  by_cases h : sk t ln p < ln
  · rw [if_pos h]; exact ⟨fun z => ⟨h, z⟩, fun z => z.2⟩
  · rw [if_neg h]; exact ⟨fun z => absurd z.1 (by omega), fun z => absurd z.1 h⟩
theorem isB_m1 {lo hi : Nat} : isB (-1) lo hi = false := by
  unfold isB
  rw [decide_eq_false_iff_not, show (-1 : Int32).toInt = -1 from by decide]
  omega
theorem bI_t1 : nI 1 = bI true := rfl
theorem bI_f0 : nI 0 = bI false := rfl
