/-! THE WORLD: all that the law has made lies from gZ on, address by address; each address has a kind (a class of vwCl, or 12 int[], 13 long[], 14.. arrays of objects). -/
abbrev GT : Type := (Nat → ClassId) × (Nat → Nat → Nat) × (Nat → ClassId) × (Nat → Nat) × Nat × Nat × Nat × Nat
abbrev gC (g : GT) : Nat → ClassId := g.1
abbrev gI (g : GT) : Nat → Nat → Nat := g.2.1
abbrev gA (g : GT) : Nat → ClassId := g.2.2.1
abbrev gE (g : GT) : Nat → Nat := g.2.2.2.1
abbrev gK (g : GT) : Nat := g.2.2.2.2.1
abbrev gZ (g : GT) : Nat := g.2.2.2.2.2.1
abbrev gS (g : GT) : Nat := g.2.2.2.2.2.2.1
abbrev gB (g : GT) : Nat := g.2.2.2.2.2.2.2
abbrev gD (g : GT) : va_G := (gC g, gI g)
abbrev gO (g : GT) : Nat → Prop := fun q => gZ g ≤ q
abbrev MI : Type := Nat → Nat → Int32
abbrev ML : Type := Nat → Nat → Int64
/-- how many cells there are; kind and length of each; what references it holds -/
abbrev TT : Type := Nat × (Nat → Nat × Nat) × (Nat → Nat → Option Nat)
def gT (g : GT) : List (ClassId × FieldType) := [(gA g 12, .int), (gA g 13, .long), (gA g 14, .object "DayBelt$Person"), (gA g 15, .object "DayBelt$Scene"), (gA g 16, .object "DayBelt$Sheet")]
def ev (g : GT) (x : Int32) : Value := if x = -1 then .null else .ref (gE g x.toNatClampNeg)
def fv (g : GT) (T : TT) (Mi : MI) (Ml : ML) (ci a k : Nat) : Value := if tc ci k = 1 then .long (Ml a k) else if tc ci k = 2 then va_rf (T.2.2 a k) else if tc ci k = 3 then ev g (Mi a k) else .int (Mi a k)
def fl (g : GT) (T : TT) (Mi : MI) (Ml : ML) (ci a : Nat) : List Value := (List.range (nf ci)).map (fv g T Mi Ml ci a)
def ce (g : GT) (T : TT) (Mi : MI) (Ml : ML) (a : Nat) : va_E :=
  if (T.2.1 a).1 = 12 then .inl (gA g 12, (T.2.1 a).2, .inl (Mi a))
  else if (T.2.1 a).1 = 13 then .inl (gA g 13, (T.2.1 a).2, .inr (.inl (Ml a)))
  else if 14 ≤ (T.2.1 a).1 then .inl (gA g (T.2.1 a).1, (T.2.1 a).2, .inr (.inr (.inr (.inr (T.2.2 a)))))
  else .inr ((T.2.1 a).1, fl g T Mi Ml (T.2.1 a).1 a)
def RepH (g : GT) (T : TT) (Mi : MI) (Ml : ML) (H : Heap) : Prop := H.size = T.1 ∧ gZ g ≤ T.1 ∧ ∀ a, gZ g ≤ a → a < T.1 → va_at (gD g) vwCl (a, ce g T Mi Ml a) H
def KD (g : GT) (T : TT) (a ci : Nat) : Prop := gZ g ≤ a ∧ a < T.1 ∧ (T.2.1 a).1 = ci
def AR (g : GT) (T : TT) (a kd n : Nat) : Prop := gZ g ≤ a ∧ a < T.1 ∧ T.2.1 a = (kd, n)
/-- what is given of the start and is never written -/
def E_nm : List String := ["PLAIN", "SHY", "HEAVY", "PORTER", "AUNT"]
def E_F : List (String × String × String × List Int32) := [("DayBelt$Kind", "number", "I", [0, 1, 2, 3, 4]), ("DayBelt$Kind", "times", "I", [1, 1, 2, 2, 1]), ("DayBelt$Kind", "anyLoad", "Z", [0, 0, 0, 1, 0]), ("DayBelt$Kind", "outAbove", "Z", [0, 1, 0, 0, 0]), ("DayBelt$Kind", "outBelow", "Z", [0, 1, 0, 0, 1])]
def St (g : GT) (U : State) (H : Heap) : Prop :=
  va_En "DayBelt$Kind" "LDayBelt$Kind;" E_nm E_F (gE g) (gO g) U H ∧
  va_Z "DayBelt" "KINDS" "[LDayBelt$Kind;" (.ref (gK g)) (gO g) U H ∧
  va_T (.object "DayBelt$Kind") (gK g) 5 (fun i => .ref (gE g i)) (gO g) U H ∧
  vk_S 1 [5] [[112, 115, 104, 107, 97]] (fun _ => gS g) (fun _ => gB g) (gO g) U H ∧
  va_Z "java/lang/String" "COMPACT_STRINGS" "Z" (.int 1) (gO g) U H ∧
  vk_R "DayBelt$Tape" kS_idx "pshka" (gS g) U ∧
  (∀ w ∈ lw_nest, va_Nw w U) ∧ va_AO "DayBelt$Person" U ∧ va_AO "DayBelt$Scene" U ∧ va_AO "DayBelt$Sheet" U
def RepU (g : GT) (T : TT) (Mi : MI) (Ml : ML) (U : State) : Prop := RepH g T Mi Ml U.heap ∧ va_K (gD g) vwCl (gT g) U ∧ St g U U.heap
theorem St.warm {g : GT} {s U : State} {H : Heap} (hW : s.WarmedH U.vm) (h : St g s H) : St g U H := by
  obtain ⟨h1, h2, h3, h4, h5, h6, h7, h8, h9, h10⟩ := h
  refine ⟨h1.moved hW.alike, h2.moved hW.alike, h3.moved hW.alike, h4.moved hW.alike, h5.moved hW.alike, h6.warm hW, fun w hw => ?_, h8.moved hW.alike, h9.moved hW.alike, h10.moved hW.alike⟩
  rcases lw_nest_ok w hw with ⟨a, i, x, h, rfl⟩ | ⟨a, i, b, n, d, h, rfl⟩
  · exact va_Nw.warmM hW (h7 _ hw)
  · exact va_Nw.warmF hW (h7 _ hw)
theorem St.same {g : GT} {u U : State} {H : Heap} (hv : U.vm = u.vm) (h : St g u H) : St g U H := by
  obtain ⟨h1, h2, h3, h4, h5, h6, h7, h8, h9, h10⟩ := h
  have ha : u.vm.Alike U.vm := by rw [hv]; exact Vm.Alike.refl _
  refine ⟨h1.moved ha, h2.moved ha, h3.moved ha, h4.moved ha, h5.moved ha, h6.same hv, fun w hw => ?_, h8.moved ha, h9.moved ha, h10.moved ha⟩
  rcases lw_nest_ok w hw with ⟨a, i, x, h, rfl⟩ | ⟨a, i, b, n, d, h, rfl⟩
  · exact va_Nw.same rfl hv.symm (h7 _ hw)
  · exact va_Nw.same rfl hv.symm (h7 _ hw)
theorem St.kept {g : GT} {U : State} {H H1 : Heap} (h : St g U H) (hq : ∀ a : Nat, a < H.size → ¬ gO g a → H1[a]? = H[a]?) : St g U H1 := by
  obtain ⟨h1, h2, h3, h4, h5, h6, h7, h8, h9, h10⟩ := h
  exact ⟨h1.kept hq, h2.kept hq, h3.kept hq, h4.kept hq, h5.kept hq, h6, h7, h8, h9, h10⟩
/-! locals: a place each -/
def lget : List (Option Value) → Nat → Option Value
  | [], _ => none
  | a :: _, 0 => a
  | _ :: l, n + 1 => lget l n
def lset : List (Option Value) → Nat → Option Value → List (Option Value)
  | [], _, _ => []
  | _ :: l, 0, v => v :: l
  | a :: l, n + 1, v => a :: lset l n v
/-- a wide value ahead of a place that is written is lost -/
def lclr : List (Option Value) → Nat → List (Option Value)
  | [], _ => []
  | a :: l, 0 => a :: l
  | a :: l, 1 => (match a with
    | some (.long _) => none
    | some (.double _) => none
    | x => x) :: l
  | a :: l, n + 2 => a :: lclr l (n + 1)
def lst1 (l : List (Option Value)) (i : Nat) (v : Value) : List (Option Value) := lset (lclr l i) i (some v)
def lst2 (l : List (Option Value)) (i : Nat) (v : Value) : List (Option Value) := lset (lset (lclr l i) i (some v)) (i + 1) none
def lh (ls : Array Slot) (nL : Nat) (l : List (Option Value)) : Prop := ls.size = nL ∧ lv_wf ls ∧ ∀ i v, lget l i = some v → ls[i]? = some (.val v)
theorem lh.at {ls : Array Slot} {nL : Nat} {l : List (Option Value)} (h : lh ls nL l) {i : Nat} {v : Value} (hv : lget l i = some v) : ls[i]? = some (.val v) := h.2.2 i v hv
theorem lget_lset : ∀ (l : List (Option Value)) (i j : Nat) (v : Option Value) (w : Value), lget (lset l i v) j = some w → (j = i ∧ v = some w) ∨ (j ≠ i ∧ lget l j = some w)
  | [], i, j, v, w, h => by simp [lset, lget] at h
  | a :: l, 0, 0, v, w, h => Or.inl ⟨rfl, h⟩
  | a :: l, 0, j + 1, v, w, h => Or.inr ⟨by omega, h⟩
  | a :: l, i + 1, 0, v, w, h => Or.inr ⟨by omega, h⟩
  | a :: l, i + 1, j + 1, v, w, h => by
    rcases lget_lset l i j v w h with ⟨e, f⟩ | ⟨e, f⟩
    · exact Or.inl ⟨by omega, f⟩
    · exact Or.inr ⟨by omega, f⟩
theorem lget_lclr : ∀ (l : List (Option Value)) (i j : Nat) (w : Value), lget (lclr l i) j = some w → lget l j = some w ∧ (j + 1 = i → w.category = 1)
  | [], i, j, w, h => by simp [lclr, lget] at h
  | a :: l, 0, j, w, h => ⟨h, fun e => by omega⟩
  | a :: l, 1, 0, w, h => by
    unfold lclr at h
    cases a with
    | none => simp [lget] at h
    | some v =>
      cases v <;> simp [lget] at h <;> subst h <;> exact ⟨rfl, fun _ => rfl⟩
  | a :: l, 1, j + 1, w, h => ⟨h, fun e => by omega⟩
  | a :: l, i + 2, 0, w, h => ⟨h, fun e => by omega⟩
  | a :: l, i + 2, j + 1, w, h => by
    have := lget_lclr l (i + 1) j w h
    exact ⟨this.1, fun e => this.2 (by omega)⟩
/-- the pairs of a list of locals -/
def lpr (l : List (Option Value)) : List (Nat × Value) := (List.range l.length).filterMap (fun i => (lget l i).map (fun v => (i, v)))
theorem lget_lt : ∀ (l : List (Option Value)) (i : Nat) (v : Value), lget l i = some v → i < l.length
  | [], i, v, h => by simp [lget] at h
  | a :: l, 0, v, h => by simp
  | a :: l, i + 1, v, h => by have := lget_lt l i v h; simp; omega
theorem lpr_mem (l : List (Option Value)) (q : Nat × Value) : q ∈ lpr l ↔ lget l q.1 = some q.2 := by
  unfold lpr
  rw [List.mem_filterMap]
  constructor
  · rintro ⟨i, -, hi⟩
    cases h : lget l i with
    | none => rw [h] at hi; cases hi
    | some v => rw [h] at hi; cases hi; exact h
  · intro h
    exact ⟨q.1, List.mem_range.mpr (lget_lt l _ _ h), by rw [h]; rfl⟩
theorem lh_has {ls : Array Slot} {nL : Nat} {l : List (Option Value)} (h : lh ls nL l) : lv_has ls nL (lpr l) := ⟨h.1, h.2.1, fun q hq => h.2.2 q.1 q.2 ((lpr_mem l q).mp hq)⟩
theorem lh_st1 {ls' : Array Slot} {nL : Nat} {l : List (Option Value)} {i : Nat} {v : Value} (h : lv_has ls' nL ((i, v) :: (lpr l).filter (fun q => !(q.1 == i) && !(q.1 + 1 == i && q.2.category == 2)))) : lh ls' nL (lst1 l i v) := by
  refine ⟨h.1, h.2.1, fun j w hw => ?_⟩
  rcases lget_lset _ _ _ _ _ hw with ⟨rfl, e⟩ | ⟨hj, e⟩
  · cases e
    exact h.2.2 (j, v) List.mem_cons_self
  · obtain ⟨e1, e2⟩ := lget_lclr _ _ _ _ e
    refine h.2.2 (j, w) (List.mem_cons_of_mem _ (List.mem_filter.mpr ⟨(lpr_mem l (j, w)).mpr e1, ?_⟩))
    simp only [Bool.and_eq_true, Bool.not_eq_true', beq_eq_false_iff_ne, Bool.and_eq_false_iff]
    refine ⟨hj, ?_⟩
    by_cases hi : j + 1 = i
    · right; rw [e2 hi]; decide
    · left; exact hi
theorem lh_st2 {ls' : Array Slot} {nL : Nat} {l : List (Option Value)} {i : Nat} {v : Value} (h : lv_has ls' nL ((i, v) :: (lpr l).filter (fun q => !(q.1 == i) && (!(q.1 == i + 1) && !(q.1 + 1 == i && q.2.category == 2))))) : lh ls' nL (lst2 l i v) := by
  refine ⟨h.1, h.2.1, fun j w hw => ?_⟩
  rcases lget_lset _ _ _ _ _ hw with ⟨rfl, e⟩ | ⟨hj1, e⟩
  · cases e
  rcases lget_lset _ _ _ _ _ e with ⟨hj, e9⟩ | ⟨hj, e9⟩
  · subst hj
    cases e9
    exact h.2.2 (j, v) List.mem_cons_self
  · obtain ⟨e1, e2⟩ := lget_lclr _ _ _ _ e9
    refine h.2.2 (j, w) (List.mem_cons_of_mem _ (List.mem_filter.mpr ⟨(lpr_mem l (j, w)).mpr e1, ?_⟩))
    simp only [Bool.and_eq_true, Bool.not_eq_true', beq_eq_false_iff_ne, Bool.and_eq_false_iff]
    refine ⟨hj, hj1, ?_⟩
    by_cases hi : j + 1 = i
    · right; rw [e2 hi]; decide
    · left; exact hi
