/-! WHERE THE LAW BEGINS -/
theorem good_tbl {w : Cond} (h : w ∈ lw_good) : w ∈ lw_tbl := (List.mem_filter.mp h).1
theorem kn_of {args : Array Value} {s : State} {ci n : Nat} {C : String} {F : u_T} {ty : Nat → FieldType} (hts : ∀ w ∈ lw_good, w.before args s = true) (hc : CF ci C F ty) (hi : Cond.instantiable C n ∈ lw_good) : ∃ p : ClassId × (Nat → Nat), ∀ q : vw_C, vwCl[ci]? = some q → u_Kn s q.1 q.2.1 q.2.2 p.1 p.2 := by
  obtain ⟨cC, iS, h⟩ := u_known hts hc.2.2.1 (hts _ hi)
  refine ⟨(cC, iS), fun q hq => ?_⟩
  have := Option.some.inj (hc.2.1.symm.trans hq)
  subst this
  exact h
theorem kn_all {args : Array Value} {s : State} (hts : ∀ w ∈ lw_good, w.before args s = true) : ∀ k : Nat, ∃ p : ClassId × (Nat → Nat), ∀ q : vw_C, vwCl[k]? = some q → u_Kn s q.1 q.2.1 q.2.2 p.1 p.2
  | 0 => kn_of hts cf_0 gw_32
  | 1 => kn_of hts cf_1 gw_38
  | 2 => kn_of hts cf_2 gw_195
  | 3 => kn_of hts cf_3 gw_142
  | 4 => kn_of hts cf_4 gw_77
  | 5 => kn_of hts cf_5 gw_70
  | 6 => kn_of hts cf_6 gw_261
  | 7 => kn_of hts cf_7 gw_177
  | 8 => kn_of hts cf_8 gw_216
  | 9 => kn_of hts cf_9 gw_244
  | 10 => kn_of hts cf_10 gw_24
  | 11 => kn_of hts cf_11 gw_895
  | k + 12 => by
    obtain ⟨p, -⟩ := kn_of hts cf_0 gw_32
    refine ⟨p, fun q hq => ?_⟩
    rw [List.getElem?_eq_none (by show 12 ≤ k + 12; omega)] at hq
    cases hq
theorem ao_of {args : Array Value} {s : State} {C : String} (h : (Cond.arrayOver (.object C)).before args s = true) : ∃ cA : ClassId, ArrOfT s cA (.object C) ∧ va_RA s cA (.object C) := by
  obtain ⟨comp, c, k, h1, -, h3, h4, h5⟩ := Cond.arrayOver_spec h
  exact ⟨c, fun n z => ⟨fun q w => (by cases w), k, h3, comp, h4⟩, k, comp, h3, h4, h1, h5⟩
theorem ac_int {args : Array Value} {s : State} (h : (Cond.arrayClass .int).before args s = true) : ∃ cA : ClassId, ArrOfT s cA .int ∧ va_RA s cA .int := by
  obtain ⟨c, k, comp, h1, h3, h4⟩ := Cond.arrayClass_spec h
  exact ⟨c, fun n z => ⟨fun q w => (by cases w), k, h3, comp, h4⟩, h1⟩
theorem ac_long {args : Array Value} {s : State} (h : (Cond.arrayClass .long).before args s = true) : ∃ cA : ClassId, ArrOfT s cA .long ∧ va_RA s cA .long := by
  obtain ⟨c, k, comp, h1, h3, h4⟩ := Cond.arrayClass_spec h
  exact ⟨c, fun n z => ⟨fun q w => (by cases w), k, h3, comp, h4⟩, h1⟩
theorem en_all {args : Array Value} {s : State} {A : Nat → Prop} (hts : ∀ w ∈ lw_tbl, w.before args s = true) (hs : ∀ c ∈ flatC (Jvm.Cond.and given_1 narrow_1), c.before args s = true) (hA : ∀ a : Nat, a < s.heap.size → ¬ A a) : ∃ ad : Nat → Nat, va_En "DayBelt$Kind" "LDayBelt$Kind;" E_nm E_F ad A s s.heap ∧ ∀ i, i < E_nm.length → (Term.static "DayBelt$Kind" (E_nm.getD i "") "LDayBelt$Kind;").eval args s none [] s = some (.ref (ad i)) := by
  refine va_Enof2 (fun i hi => ?_) (hts _ (good_tbl gw_7)) (fun i hi => ?_) (fun q hq i hi => ?_) (fun i j hi hj hij => ?_) hA
  · have hi : i < 5 := hi
    rcases (show i = 0 ∨ i = 1 ∨ i = 2 ∨ i = 3 ∨ i = 4 by omega) with rfl | rfl | rfl | rfl | rfl
    · exact hts _ tb_83
    · exact hts _ tb_1243
    · exact hts _ tb_1244
    · exact hts _ tb_1245
    · exact hts _ tb_1246
  · have hi : i < 5 := hi
    rcases (show i = 0 ∨ i = 1 ∨ i = 2 ∨ i = 3 ∨ i = 4 by omega) with rfl | rfl | rfl | rfl | rfl <;> exact hs _ (by decide +kernel)
  · have hi : i < 5 := hi
    unfold E_F at hq
    rcases List.mem_cons.mp hq with rfl | hq
    · rcases (show i = 0 ∨ i = 1 ∨ i = 2 ∨ i = 3 ∨ i = 4 by omega) with rfl | rfl | rfl | rfl | rfl <;> exact hs _ (by decide +kernel)
    rcases List.mem_cons.mp hq with rfl | hq
    · rcases (show i = 0 ∨ i = 1 ∨ i = 2 ∨ i = 3 ∨ i = 4 by omega) with rfl | rfl | rfl | rfl | rfl <;> exact hs _ (by decide +kernel)
    rcases List.mem_cons.mp hq with rfl | hq
    · rcases (show i = 0 ∨ i = 1 ∨ i = 2 ∨ i = 3 ∨ i = 4 by omega) with rfl | rfl | rfl | rfl | rfl <;> exact hs _ (by decide +kernel)
    rcases List.mem_cons.mp hq with rfl | hq
    · rcases (show i = 0 ∨ i = 1 ∨ i = 2 ∨ i = 3 ∨ i = 4 by omega) with rfl | rfl | rfl | rfl | rfl <;> exact hs _ (by decide +kernel)
    rcases List.mem_cons.mp hq with rfl | hq
    · rcases (show i = 0 ∨ i = 1 ∨ i = 2 ∨ i = 3 ∨ i = 4 by omega) with rfl | rfl | rfl | rfl | rfl <;> exact hs _ (by decide +kernel)
    · exact absurd hq List.not_mem_nil
  · have hi : i < 5 := hi
    have hj : j < 5 := hj
    rcases (show i = 0 ∨ i = 1 ∨ i = 2 ∨ i = 3 ∨ i = 4 by omega) with rfl | rfl | rfl | rfl | rfl <;> rcases (show j = 0 ∨ j = 1 ∨ j = 2 ∨ j = 3 ∨ j = 4 by omega) with rfl | rfl | rfl | rfl | rfl <;> first | exact absurd rfl hij | exact Or.inl (hs _ (by decide +kernel)) | exact Or.inr (hs _ (by decide +kernel))
theorem kk_all {args : Array Value} {s : State} {A : Nat → Prop} {ad : Nat → Nat} (hts : ∀ w ∈ lw_tbl, w.before args s = true) (hs : ∀ c ∈ flatC (Jvm.Cond.and given_1 narrow_1), c.before args s = true) (hA : ∀ a : Nat, a < s.heap.size → ¬ A a) (hev : ∀ i, i < E_nm.length → (Term.static "DayBelt$Kind" (E_nm.getD i "") "LDayBelt$Kind;").eval args s none [] s = some (.ref (ad i))) : ∃ t : Nat, va_Z "DayBelt" "KINDS" "[LDayBelt$Kind;" (.ref t) A s s.heap ∧ va_T (.object "DayBelt$Kind") t 5 (fun i => .ref (ad i)) A s s.heap := by
  obtain ⟨t, ht, hT⟩ := va_Tof (tm := Term.static "DayBelt" "KINDS" "[LDayBelt$Kind;") (ty := .object "DayBelt$Kind") (N := 5) (f := fun i => .ref (ad i)) (A := A) (by decide) (hs _ (by decide +kernel)) (va_eqt (hs _ (by decide +kernel))) (fun j hj => by
    rcases (show j = 0 ∨ j = 1 ∨ j = 2 ∨ j = 3 ∨ j = 4 by omega) with rfl | rfl | rfl | rfl | rfl
    · exact va_eqv (hs _ (by decide +kernel)) (hev 0 (by decide))
    · exact va_eqv (hs _ (by decide +kernel)) (hev 1 (by decide))
    · exact va_eqv (hs _ (by decide +kernel)) (hev 2 (by decide))
    · exact va_eqv (hs _ (by decide +kernel)) (hev 3 (by decide))
    · exact va_eqv (hs _ (by decide +kernel)) (hev 4 (by decide))) hA
  exact ⟨t, va_Zof (hts _ tb_316) (hts _ (good_tbl gw_1)) ht hA, hT⟩
theorem ss_all {args : Array Value} {s : State} {A : Nat → Prop} (hts : ∀ w ∈ lw_tbl, w.before args s = true) (hs : ∀ c ∈ flatC (Jvm.Cond.and given_1 narrow_1), c.before args s = true) (hA : ∀ a : Nat, a < s.heap.size → ¬ A a) : ∃ qS qB : Nat, vk_S 1 [5] [[112, 115, 104, 107, 97]] (fun _ => qS) (fun _ => qB) A s s.heap ∧ vk_R "DayBelt$Tape" kS_idx "pshka" qS s := by
  obtain ⟨adK, adV, hS, hev⟩ := vk_Sof (N := 1) (tm := fun _ => Term.string "DayBelt$Tape" 30) (len := [5]) (byt := [[112, 115, 104, 107, 97]]) (A := A) (s := s) (args := args) (fun i hi => by
      rw [show i = 0 by omega]; decide) (fun i hi => hs _ (by decide +kernel)) (fun i hi => hs _ (by decide +kernel)) (fun i hi => hs _ (by decide +kernel)) (fun i hi => by
      rw [show i = 0 by omega]; exact hs _ (by decide +kernel)) (fun i hi j hj => by
      have hi0 : i = 0 := by omega
      subst hi0
      have hj : j < 5 := hj
      rcases (show j = 0 ∨ j = 1 ∨ j = 2 ∨ j = 3 ∨ j = 4 by omega) with rfl | rfl | rfl | rfl | rfl <;> exact hs _ (by decide +kernel)) (fun i j hi hj hij => absurd (show i = j by omega) hij) hA
  refine ⟨adK 0, adV 0, ⟨fun i hi => ?_, fun i j hi hj _ => by omega⟩, vk_R.of (hts _ tb_464) (hev 0 (by omega))⟩
  have := hS.1 0 (by omega)
  rw [show i = 0 by omega]
  exact this
/-- the world, empty, at the law's entry -/
theorem st_all {args : Array Value} {s : State} (hts : ∀ w ∈ lw_tbl, w.before args s = true) (hs : ∀ c ∈ flatC (Jvm.Cond.and given_1 narrow_1), c.before args s = true) : ∃ g : GT, gZ g = s.heap.size ∧ va_K (gD g) vwCl (gT g) s ∧ St g s s.heap := by
  have hgood : ∀ w ∈ lw_good, w.before args s = true := fun w hw => hts w (good_tbl hw)
  obtain ⟨f, hf⟩ := Classical.axiomOfChoice (kn_all hgood)
  obtain ⟨cI, aI, rI⟩ := ac_int (hgood _ gw_68)
  obtain ⟨cL, aL, rL⟩ := ac_long (hgood _ gw_279)
  obtain ⟨cP, aP, rP⟩ := ao_of (hts _ tb_76)
  obtain ⟨cS, aS, rS⟩ := ao_of (hts _ tb_148)
  obtain ⟨cH, aH, rH⟩ := ao_of (hts _ tb_260)
  have hA : ∀ a : Nat, a < s.heap.size → ¬ (fun q : Nat => s.heap.size ≤ q) a := fun a ha => Nat.not_le.mpr ha
  obtain ⟨ad, hE, hev⟩ := en_all hts hs hA
  obtain ⟨qK, hZ, hT⟩ := kk_all hts hs hA hev
  obtain ⟨qS, qB, hSS, hRR⟩ := ss_all hts hs hA
  refine ⟨(fun k => (f k).1, fun k => (f k).2, fun k => if k = 12 then cI else if k = 13 then cL else if k = 14 then cP else if k = 15 then cS else cH, ad, qK, s.heap.size, qS, qB), rfl, ⟨fun c q hq => hf c q hq, fun k q hq => ?_⟩, hE, hZ, hT, hSS, va_Zof (hts _ tb_478) (hgood _ gw_16) (va_eqi (hs _ (by decide +kernel))) hA, hRR, fun w hw => ?_, va_AO.of (hts _ tb_76), va_AO.of (hts _ tb_148), va_AO.of (hts _ tb_260)⟩
  · match k, hq with
    | 0, hq => cases hq; exact ⟨aI, rI⟩
    | 1, hq => cases hq; exact ⟨aL, rL⟩
    | 2, hq => cases hq; exact ⟨aP, rP⟩
    | 3, hq => cases hq; exact ⟨aS, rS⟩
    | 4, hq => cases hq; exact ⟨aH, rH⟩
    | k + 5, hq => simp [gT] at hq
  · have h1 := hts w (lw_nest_tb w hw)
    rcases lw_nest_ok w hw with ⟨a, i, x, h, rfl⟩ | ⟨a, i, b, n, d, h, rfl⟩
    · exact va_Nw.of rfl h1
    · exact va_Nw.of rfl h1
