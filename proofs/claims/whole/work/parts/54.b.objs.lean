/-! OBJECTS UNDER CONSTRUCTION -/
def Ex2 (T T' : TT) (lo hi : Nat) : Prop := T.1 ≤ T'.1 ∧ ∀ b, lo ≤ b → b < hi → T'.2.1 b = T.2.1 b ∧ T'.2.2 b = T.2.2 b
section E2
variable {g : GT} {T T' : TT} {lo hi a ci kd n : Nat}
theorem KD.e2 (h : KD g T a ci) (e : Ex2 T T' lo hi) (ha : lo ≤ a ∧ a < hi) : KD g T' a ci := ⟨h.1, by have := e.1; have := h.2.1; omega, by rw [(e.2 a ha.1 ha.2).1]; exact h.2.2⟩
theorem AR.e2 (h : AR g T a kd n) (e : Ex2 T T' lo hi) (ha : lo ≤ a ∧ a < hi) : AR g T' a kd n := ⟨h.1, by have := e.1; have := h.2.1; omega, by rw [(e.2 a ha.1 ha.2).1]; exact h.2.2⟩
theorem Ex2.rf (e : Ex2 T T' lo hi) (ha : lo ≤ a ∧ a < hi) {k : Nat} {v : Option Nat} (h : T.2.2 a k = v) : T'.2.2 a k = v := by rw [(e.2 a ha.1 ha.2).2]; exact h
theorem BlkS.e2 (h : BlkS g T a) (e : Ex2 T T' lo hi) (ha : lo ≤ a ∧ a + 2 ≤ hi) : BlkS g T' a := ⟨h.1.e2 e (by omega), h.2.1.e2 e (by omega), e.rf (by omega) h.2.2⟩
theorem ScnS.e2 (h : ScnS g T a) (e : Ex2 T T' lo hi) (ha : lo ≤ a ∧ a + 8 ≤ hi) : ScnS g T' a := ⟨h.1.e2 e (by omega), h.2.1.e2 e (by omega), e.rf (by omega) h.2.2.1, fun p hp => (h.2.2.2.1 p hp).e2 e (by omega), fun p hp => e.rf (by omega) (h.2.2.2.2 p hp)⟩
theorem HisS.e2 (h : HisS g T a) (e : Ex2 T T' lo hi) (ha : lo ≤ a ∧ a + 66 ≤ hi) : HisS g T' a := ⟨h.1.e2 e (by omega), h.2.1.e2 e (by omega), e.rf (by omega) h.2.2.1, fun p hp => (h.2.2.2.1 p hp).e2 e (by omega), fun p hp => e.rf (by omega) (h.2.2.2.2 p hp)⟩
theorem BltS.e2 (h : BltS g T a) (e : Ex2 T T' lo hi) (ha : lo ≤ a ∧ a + 77 ≤ hi) : BltS g T' a := ⟨h.1.e2 e (by omega), e.rf (by omega) h.2.1, e.rf (by omega) h.2.2.1, e.rf (by omega) h.2.2.2.1, h.2.2.2.2.1.e2 e (by omega), h.2.2.2.2.2.1.e2 e (by omega), h.2.2.2.2.2.2.e2 e (by omega)⟩
theorem WkS.e2 (h : WkS g T a) (e : Ex2 T T' lo hi) (ha : lo ≤ a ∧ a + 3 ≤ hi) : WkS g T' a := ⟨h.1.e2 e (by omega), e.rf (by omega) h.2.1, h.2.2.e2 e (by omega)⟩
/-- tape, reader, weighing, a sheet -/
def RdrS (g : GT) (T : TT) (a : Nat) : Prop := KD g T a 2 ∧ T.2.2 a 0 = some (a + 1) ∧ T.2.2 a 1 = some (a + 3) ∧ BlkS g T (a + 1) ∧ ScnS g T (a + 3)
def WeiS (g : GT) (T : TT) (a : Nat) : Prop := KD g T a 9 ∧ T.2.2 a 0 = some (a + 1) ∧ AR g T (a + 1) 12 64 ∧ T.2.2 a 1 = some (a + 2) ∧ AR g T (a + 2) 12 64
theorem TapS.e2 (h : TapS g T a) (e : Ex2 T T' lo hi) (ha : lo ≤ a ∧ a + 2 ≤ hi) : TapS g T' a := ⟨h.1.e2 e (by omega), e.rf (by omega) h.2.1, h.2.2.e2 e (by omega)⟩
theorem RdrS.e2 (h : RdrS g T a) (e : Ex2 T T' lo hi) (ha : lo ≤ a ∧ a + 11 ≤ hi) : RdrS g T' a := ⟨h.1.e2 e (by omega), e.rf (by omega) h.2.1, e.rf (by omega) h.2.2.1, h.2.2.2.1.e2 e (by omega), h.2.2.2.2.e2 e (by omega)⟩
theorem WeiS.e2 (h : WeiS g T a) (e : Ex2 T T' lo hi) (ha : lo ≤ a ∧ a + 3 ≤ hi) : WeiS g T' a := ⟨h.1.e2 e (by omega), e.rf (by omega) h.2.1, h.2.2.1.e2 e (by omega), e.rf (by omega) h.2.2.2.1, h.2.2.2.2.e2 e (by omega)⟩
theorem ShtS.e2 (h : ShtS g T a) (e : Ex2 T T' lo hi) (ha : lo ≤ a ∧ a + 2 ≤ hi) : ShtS g T' a := ⟨h.1.e2 e (by omega), e.rf (by omega) h.2.1, h.2.2.e2 e (by omega)⟩
end E2
/-- the object a, of n cells by now -/
def Ob (g : GT) (T : TT) (Mi : MI) (Ml : ML) (T9 : TT) (M9 : MI) (L9 : ML) (a ci n : Nat) : Prop := T9.1 = a + n ∧ (∀ b, b < a → T9.2.1 b = T.2.1 b ∧ T9.2.2 b = T.2.2 b ∧ M9 b = Mi b ∧ L9 b = Ml b) ∧ KD g T9 a ci
theorem Ob.start {g : GT} {T : TT} {Mi : MI} {Ml : ML} {a ci : Nat} (hk : KD g T a ci) (hT : T.1 = a + 1) : Ob g T Mi Ml T Mi Ml a ci 1 := ⟨hT, fun _ _ => ⟨rfl, rfl, rfl, rfl⟩, hk⟩
theorem Ob.nw {g : GT} {T T9 : TT} {Mi M9 : MI} {Ml L9 : ML} {a ci n : Nat} (h : Ob g T Mi Ml T9 M9 L9 a ci n) : NW T Mi Ml T9 M9 L9 a n := ⟨h.1, h.2.1⟩
theorem Ob.gz {g : GT} {T T9 : TT} {Mi M9 : MI} {Ml L9 : ML} {a ci n : Nat} (h : Ob g T Mi Ml T9 M9 L9 a ci n) : gZ g ≤ T9.1 := by have := h.2.2.1; have := h.1; omega
/-- rows below, behind a call of a constructor of the next cell, behind a new array -/
def Lo (T9 : TT) (M9 : MI) (L9 : ML) (T8 : TT) (M8 : MI) (L8 : ML) (n' : Nat) : Prop := T8.1 = T9.1 + n' ∧ ∀ b, b < T9.1 → T8.2.1 b = T9.2.1 b ∧ T8.2.2 b = T9.2.2 b ∧ M8 b = M9 b ∧ L8 b = L9 b
theorem NW.lo {T9 T8 : TT} {M9 M8 : MI} {L9 L8 : ML} {cj n' : Nat} {r : Nat → Int32} {r2 : Nat → Int64} (h : NW (tnew T9 cj 0) (rnew M9 T9.1 r) (rnew L9 T9.1 r2) T8 M8 L8 T9.1 n') : Lo T9 M9 L9 T8 M8 L8 n' :=
  ⟨h.1, fun b hb => by
    obtain ⟨e1, e2, e3, e4⟩ := h.2 b hb
    exact ⟨e1.trans (tnew_ko (by omega)), e2.trans (tnew_ro (by omega)), e3.trans (rnew_o (by omega)), e4.trans (rnew_o (by omega))⟩⟩
theorem Lo.ai {T9 : TT} {M9 : MI} {L9 : ML} {kd n : Nat} {r : Nat → Int32} : Lo T9 M9 L9 (tnew T9 kd n) (rnew M9 T9.1 r) L9 1 := ⟨rfl, fun b hb => ⟨tnew_ko (by omega), tnew_ro (by omega), rnew_o (by omega), rfl⟩⟩
theorem Lo.al {T9 : TT} {M9 : MI} {L9 : ML} {kd n : Nat} {r : Nat → Int64} : Lo T9 M9 L9 (tnew T9 kd n) M9 (rnew L9 T9.1 r) 1 := ⟨rfl, fun b hb => ⟨tnew_ko (by omega), tnew_ro (by omega), rfl, rnew_o (by omega)⟩⟩
theorem Lo.ar {T9 : TT} {M9 : MI} {L9 : ML} {kd n : Nat} : Lo T9 M9 L9 (tnew T9 kd n) M9 L9 1 := ⟨rfl, fun b hb => ⟨tnew_ko (by omega), tnew_ro (by omega), rfl, rfl⟩⟩
theorem Lo.kd {g : GT} {T9 T8 : TT} {M9 M8 : MI} {L9 L8 : ML} {n' a ci : Nat} (h : Lo T9 M9 L9 T8 M8 L8 n') (hk : KD g T9 a ci) : KD g T8 a ci := ⟨hk.1, by have := h.1; have := hk.2.1; omega, by rw [(h.2 a hk.2.1).1]; exact hk.2.2⟩
theorem Lo.arr {g : GT} {T9 T8 : TT} {M9 M8 : MI} {L9 L8 : ML} {n' a kd n : Nat} (h : Lo T9 M9 L9 T8 M8 L8 n') (hk : AR g T9 a kd n) : AR g T8 a kd n := ⟨hk.1, by have := h.1; have := hk.2.1; omega, by rw [(h.2 a hk.2.1).1]; exact hk.2.2⟩
theorem Ob.sub {g : GT} {T T9 T8 : TT} {Mi M9 M8 : MI} {Ml L9 L8 : ML} {a ci n n' : Nat} (h : Ob g T Mi Ml T9 M9 L9 a ci n) (hn : 1 ≤ n) (hl : Lo T9 M9 L9 T8 M8 L8 n') (k : Nat) :
    Ob g T Mi Ml (T8.1, T8.2.1, upd2 T8.2.2 a k (some T9.1)) M8 L8 a ci (n + n') ∧ Ex2 T9 (T8.1, T8.2.1, upd2 T8.2.2 a k (some T9.1)) (a + 1) (a + n) ∧ Ex2 T8 (T8.1, T8.2.1, upd2 T8.2.2 a k (some T9.1)) (a + n) (a + n + n') ∧ (∀ b, b < a + n → M8 b = M9 b ∧ L8 b = L9 b) ∧ upd2 T8.2.2 a k (some T9.1) a k = some (a + n) ∧ ∀ k', k' ≠ k → upd2 T8.2.2 a k (some T9.1) a k' = T9.2.2 a k' := by
  obtain ⟨h1, h2, h3⟩ := h
  obtain ⟨l1, l2⟩ := hl
  refine ⟨⟨by show T8.1 = _; omega, fun b hb => ?_, ⟨h3.1, by show a < T8.1; omega, ?_⟩⟩, ⟨by show T9.1 ≤ T8.1; omega, fun b q1 q2 => ?_⟩, ⟨Nat.le_refl _, fun b q1 q2 => ⟨rfl, upd2_row _ _ (by omega)⟩⟩, fun b hb => ⟨(l2 b (by omega)).2.2.1, (l2 b (by omega)).2.2.2⟩, by rw [upd2_same, h1], fun k' hk => ?_⟩
  · obtain ⟨e1, e2, e3, e4⟩ := l2 b (by omega)
    obtain ⟨f1, f2, f3, f4⟩ := h2 b hb
    exact ⟨e1.trans f1, ((upd2_row _ _ (by omega)).trans e2).trans f2, e3.trans f3, e4.trans f4⟩
  · show (T8.2.1 a).1 = ci
    rw [(l2 a (by omega)).1]; exact h3.2.2
  · exact ⟨(l2 b (by omega)).1, (upd2_row _ _ (by omega)).trans (l2 b (by omega)).2.1⟩
  · rw [upd2_ne _ _ (by omega)]
    exact congrFun (l2 a (by omega)).2.1 k'
theorem jv_abs {x : CX} {cs sl : Nat} {T : TT} {Mi : MI} {Ml : ML} {pc : Nat} {lv : List (Option Value)} {st : List Value} {P : TT → MI → ML → Prop} (hP : P T Mi Ml) (kk : ∀ T Mi Ml, P T Mi Ml → V x cs sl T Mi Ml pc lv st) : V x cs sl T Mi Ml pc lv st := kk T Mi Ml hP
section MKR
variable {x : CX} {cs sl : Nat} {T : TT} {Mi : MI} {Ml : ML} {pc : Nat} {lv : List (Option Value)} {own : String} {cc : ByteArray} {d : Nat}
variable {idx a : Nat} {y : MethodName} {bytes : ByteArray} {maxL d' mc ms : Nat} {rest : List Value} {q : TT → MI → ML → Prop}
theorem jv_mkI (h : Ok x own cc d) (dc : decode cc pc = .ok (.invokespecial idx, 3)) (hw : CIw own idx y bytes maxL 0) (hM : Ct x.1 y bytes maxL none d' mc ms [.ref a] T Mi Ml (Pv q)) (hd : d' < d) (hre : (rest.map fun v => v.category).sum ≤ 8) (hcap : cs + mc ≤ x.2.2.2.2.1.cells ∧ sl + ms ≤ x.2.2.2.2.1.slots) (kk : ∀ T' Mi' Ml', q T' Mi' Ml' → V x (cs + mc) (sl + ms) T' Mi' Ml' (pc + 3) lv rest) : V x cs sl T Mi Ml pc lv (.ref a :: rest) :=
  jv_callI (As := []) h dc hw hM hd rfl rfl hre hcap (fun r T' Mi' Ml' hp => by obtain ⟨rfl, hq⟩ := hp; exact kk T' Mi' Ml' hq)
theorem jv_mkIN (h : Ok x own cc d) (dc : decode cc pc = .ok (.invokespecial idx, 3)) (hw : CINw own idx y bytes maxL 0) (hM : Ct x.1 y bytes maxL none d' mc ms [.ref a] T Mi Ml (Pv q)) (hd : d' < d) (hre : (rest.map fun v => v.category).sum ≤ 8) (hcap : cs + mc ≤ x.2.2.2.2.1.cells ∧ sl + ms ≤ x.2.2.2.2.1.slots) (kk : ∀ T' Mi' Ml', q T' Mi' Ml' → V x (cs + mc) (sl + ms) T' Mi' Ml' (pc + 3) lv rest) : V x cs sl T Mi Ml pc lv (.ref a :: rest) :=
  jv_callIN (As := []) h dc hw hM hd rfl rfl hre hcap (fun r T' Mi' Ml' hp => by obtain ⟨rfl, hq⟩ := hp; exact kk T' Mi' Ml' hq)
end MKR
/-- the start -/
def S0 : Nat → Nat := fun j => if j = 2 then 3 else if j = 3 then 20 else if j = 4 then 12 else if j = 5 then 1 else if 6 ≤ j ∧ j < 18 then (j - 6) % 7 else if 18 ≤ j ∧ j % 6 = 3 then 1 else 0
theorem S0_d {k : Nat} (h : k < 12) : S0 (6 + k) = k % 7 := by
  unfold S0
  rw [if_neg (by omega), if_neg (by omega), if_neg (by omega), if_neg (by omega), if_pos (by omega), show 6 + k - 6 = k by omega]
theorem S0_WF : WF S0 := by
  refine ⟨by decide, by decide, by decide, by decide, by decide, by decide, fun k hk => ?_, fun p hp => absurd hp (Nat.not_lt_zero _)⟩
  have hk : k < 2 * 3 := hk
  rw [S0_d (by omega)]
  omega
def ScnI (Mi : MI) (a : Nat) : Prop := Mi a 1 = nI 0 ∧ Mi a 2 = nI 0 ∧ Mi a 3 = nI 1
theorem ScnI.r {Mi : MI} {a : Nat} (h : ScnI Mi a) : ScnR Mi a S0 := ⟨h.1, h.2.1, h.2.2, fun p hp => absurd hp (Nat.not_lt_zero _)⟩
theorem ScnI.fr {Mi Mi' : MI} {a : Nat} (h : ScnI Mi a) (e : Mi' a = Mi a) : ScnI Mi' a := by unfold ScnI; rw [e]; exact h
theorem S0_hi {k : Nat} (h : 18 ≤ k) : eN k (S0 k) = nI 0 := by
  unfold S0 eN
  rw [if_neg (show ¬ k = 2 by omega), if_neg (show ¬ k = 3 by omega), if_neg (show ¬ k = 4 by omega), if_neg (show ¬ k = 5 by omega), if_neg (show ¬ (6 ≤ k ∧ k < 18) by omega)]
  by_cases h3 : 18 ≤ k ∧ k % 6 = 3
  · rw [if_pos h3, if_pos h3]; rfl
  · rw [if_neg h3, if_neg h3]
/-- the class's object ahead of its sheets -/
def DayA (g : GT) (T : TT) (X : Nat) : Prop := (T.2.2 X 0 = some (X + 1) ∧ BltS g T (X + 1)) ∧ (T.2.2 X 1 = some (X + 78) ∧ BltS g T (X + 78)) ∧ (T.2.2 X 3 = some (X + 155) ∧ TapS g T (X + 155)) ∧ (T.2.2 X 4 = some (X + 157) ∧ RdrS g T (X + 157)) ∧ (T.2.2 X 5 = some (X + 168) ∧ ScnS g T (X + 168)) ∧ (T.2.2 X 6 = some (X + 176) ∧ WkS g T (X + 176)) ∧ (T.2.2 X 7 = some (X + 179) ∧ WkS g T (X + 179)) ∧ (T.2.2 X 8 = some (X + 182) ∧ WeiS g T (X + 182))
theorem DayA.e2 {g : GT} {T T' : TT} {X : Nat} (h : DayA g T X) (e : Ex2 T T' X (X + 185)) : DayA g T' X := by
  obtain ⟨⟨a1, b1⟩, ⟨a2, b2⟩, ⟨a3, b3⟩, ⟨a4, b4⟩, ⟨a5, b5⟩, ⟨a6, b6⟩, ⟨a7, b7⟩, a8, b8⟩ := h
  exact ⟨⟨e.rf (by omega) a1, b1.e2 e (by omega)⟩, ⟨e.rf (by omega) a2, b2.e2 e (by omega)⟩, ⟨e.rf (by omega) a3, b3.e2 e (by omega)⟩, ⟨e.rf (by omega) a4, b4.e2 e (by omega)⟩, ⟨e.rf (by omega) a5, b5.e2 e (by omega)⟩, ⟨e.rf (by omega) a6, b6.e2 e (by omega)⟩, ⟨e.rf (by omega) a7, b7.e2 e (by omega)⟩, e.rf (by omega) a8, b8.e2 e (by omega)⟩
def DayM (Mi : MI) (X : Nat) : Prop := Mi X 2 = nI 0 ∧ BltR Mi (X + 1) S0 (fun _ => S0) 0 0 ∧ Mi (X + 155) 1 = nI 0 ∧ Mi (X + 155) 2 = nI 0 ∧ ScnI Mi (X + 160)
theorem DayM.fr {Mi Mi' : MI} {X : Nat} (h : DayM Mi X) (e : ∀ b, b < X + 185 → Mi' b = Mi b) : DayM Mi' X := by
  obtain ⟨h1, h2, h3, h4, h5⟩ := h
  exact ⟨by rw [e _ (by omega)]; exact h1, h2.fr (by decide) (fun b q1 q2 => e b (by omega)), by rw [e _ (by omega)]; exact h3, by rw [e _ (by omega)]; exact h4, h5.fr (e _ (by omega))⟩
