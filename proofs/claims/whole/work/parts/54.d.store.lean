theorem KD.pt {g : GT} {T : TT} {a ci : Nat} {R : Nat → Nat → Option Nat} (h : KD g T a ci) : KD g (T.1, T.2.1, R) a ci := h
theorem AR.pt {g : GT} {T : TT} {a kd n : Nat} {R : Nat → Nat → Option Nat} (h : AR g T a kd n) : AR g (T.1, T.2.1, R) a kd n := h
theorem Ob.mi {g : GT} {T T9 : TT} {Mi M9 M8 : MI} {Ml L9 : ML} {a ci n : Nat} (h : Ob g T Mi Ml T9 M9 L9 a ci n) (e : ∀ b, b < a → M8 b = M9 b) : Ob g T Mi Ml T9 M8 L9 a ci n := ⟨h.1, fun b hb => ⟨(h.2.1 b hb).1, (h.2.1 b hb).2.1, (e b hb).trans (h.2.1 b hb).2.2.1, (h.2.1 b hb).2.2.2⟩, h.2.2⟩
theorem Ob.st {g : GT} {T T9 T8 : TT} {Mi M9 M8 : MI} {Ml L9 L8 : ML} {a ci n n' c : Nat} (h : Ob g T Mi Ml T9 M9 L9 a ci n) (hc : a < c ∧ c < a + n) (hl : Lo T9 M9 L9 T8 M8 L8 n') (j v : Nat) :
    Ob g T Mi Ml (T8.1, T8.2.1, upd2 T8.2.2 c j (some v)) M8 L8 a ci (n + n') ∧ Ex2 T9 (T8.1, T8.2.1, upd2 T8.2.2 c j (some v)) a c ∧ Ex2 T9 (T8.1, T8.2.1, upd2 T8.2.2 c j (some v)) (c + 1) (a + n) ∧ Ex2 T8 (T8.1, T8.2.1, upd2 T8.2.2 c j (some v)) (a + n) (a + n + n') ∧ (∀ b, b < a + n → M8 b = M9 b ∧ L8 b = L9 b) ∧ T8.2.1 c = T9.2.1 c ∧ upd2 T8.2.2 c j (some v) c j = some v ∧ ∀ k', k' ≠ j → upd2 T8.2.2 c j (some v) c k' = T9.2.2 c k' := by
  obtain ⟨h1, h2, h3⟩ := h
  obtain ⟨l1, l2⟩ := hl
  refine ⟨⟨by show T8.1 = _; omega, fun b hb => ?_, ⟨h3.1, by show a < T8.1; omega, ?_⟩⟩, ⟨by show T9.1 ≤ T8.1; omega, fun b q1 q2 => ?_⟩, ⟨by show T9.1 ≤ T8.1; omega, fun b q1 q2 => ?_⟩, ⟨Nat.le_refl _, fun b q1 q2 => ⟨rfl, upd2_row _ _ (by omega)⟩⟩, fun b hb => ⟨(l2 b (by omega)).2.2.1, (l2 b (by omega)).2.2.2⟩, (l2 c (by omega)).1, upd2_same _ _ _ _, fun k' hk => ?_⟩
  · obtain ⟨e1, e2, e3, e4⟩ := l2 b (by omega)
    obtain ⟨f1, f2, f3, f4⟩ := h2 b hb
    exact ⟨e1.trans f1, ((upd2_row _ _ (by omega)).trans e2).trans f2, e3.trans f3, e4.trans f4⟩
  · show (T8.2.1 a).1 = ci
    rw [(l2 a (by omega)).1]; exact h3.2.2
  · exact ⟨(l2 b (by omega)).1, (upd2_row _ _ (by omega)).trans (l2 b (by omega)).2.1⟩
  · exact ⟨(l2 b (by omega)).1, (upd2_row _ _ (by omega)).trans (l2 b (by omega)).2.1⟩
  · rw [upd2_ne _ _ (by omega)]
    exact congrFun (l2 c (by omega)).2.1 k'
def HisI (Mi : MI) (a : Nat) : Prop := Mi a 1 = nI 0 ∧ Mi a 2 = nI 0 ∧ ∀ k, k < 8 → ScnI Mi (a + 2 + 8 * k)
theorem HisI.r {Mi : MI} {a : Nat} (h : HisI Mi a) : HisR Mi a (fun _ => S0) 0 0 := ⟨h.1, h.2.1, by omega, by omega, fun k hk => (h.2.2 k hk).r, fun _ _ => S0_WF⟩
