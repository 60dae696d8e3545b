/-! WHAT IS MADE NEW: the next cell of the world -/
def tnew (T : TT) (kd n : Nat) : TT := (T.1 + 1, fun b => if b = T.1 then (kd, n) else T.2.1 b, fun b => if b = T.1 then (fun _ => none) else T.2.2 b)
def rnew {α : Type} (M : Nat → Nat → α) (a : Nat) (r : Nat → α) : Nat → Nat → α := fun b => if b = a then r else M b
theorem rnew_s {α : Type} {M : Nat → Nat → α} {a : Nat} {r : Nat → α} : rnew M a r a = r := if_pos rfl
theorem rnew_o {α : Type} {M : Nat → Nat → α} {a b : Nat} {r : Nat → α} (h : b ≠ a) : rnew M a r b = M b := if_neg h
theorem tnew_ks {T : TT} {kd n : Nat} : (tnew T kd n).2.1 T.1 = (kd, n) := if_pos rfl
theorem tnew_ko {T : TT} {kd n b : Nat} (h : b ≠ T.1) : (tnew T kd n).2.1 b = T.2.1 b := if_neg h
theorem tnew_rs {T : TT} {kd n : Nat} : (tnew T kd n).2.2 T.1 = fun _ => none := if_pos rfl
theorem tnew_ro {T : TT} {kd n b : Nat} (h : b ≠ T.1) : (tnew T kd n).2.2 b = T.2.2 b := if_neg h
/-- fields of a new object -/
def zr (ci : Nat) : Nat → Int32 := fun k => if tc ci k = 3 then -1 else nI 0
def dvV (n : Nat) : Value := if n = 1 then .long 0 else if n = 2 then .null else if n = 3 then .null else .int (nI 0)
theorem RepH.grow {g : GT} {T T' : TT} {Mi Mi' : MI} {Ml Ml' : ML} {H H1 : Heap} (hR : RepH g T Mi Ml H) (hT : T'.1 = T.1 + 1) (z1 : H1.size = T.1 + 1) (o1 : ∀ q, q < T.1 → H1[q]? = H[q]?) (h1 : ∀ b, b < T.1 → T'.2.1 b = T.2.1 b ∧ T'.2.2 b = T.2.2 b ∧ Mi' b = Mi b ∧ Ml' b = Ml b) (hat : va_at (gD g) vwCl (T.1, ce g T' Mi' Ml' T.1) H1) : RepH g T' Mi' Ml' H1 := by
  have hz := hR.2.1
  refine ⟨by rw [z1, hT], by omega, fun b hb1 hb2 => ?_⟩
  by_cases hb : b = T.1
  · subst hb; exact hat
  · have hlt : b < T.1 := by omega
    obtain ⟨e1, e2, e3, e4⟩ := h1 b hlt
    rw [ce_congr e1 e2 e3 e4]
    exact (hR.2.2 b hb1 hlt).kept (o1 b hlt)
theorem va_S.grow {A : Nat → Prop} {H0 H H1 : Heap} {locs : List Loc} {n : Nat} (hS : va_S A H0 H locs) (hn : H.size = n) (z1 : H1.size = n + 1) (o1 : ∀ q, q < n → H1[q]? = H[q]?) : va_S A H0 H1 locs := by
  subst hn
  exact ⟨Nat.le_trans hS.1 (by omega), fun x h1 h2 => (o1 x (Nat.lt_of_lt_of_le h1 hS.1)).trans (hS.2.1 x h1 h2), hS.2.2⟩
section NV
variable {x : CX} {cs sl : Nat} {T : TT} {Mi : MI} {Ml : ML} {pc : Nat} {lv : List (Option Value)} {st : List Value} {own : String} {cc : ByteArray} {d : Nat}
variable {idx ci a k : Nat} {C : String} {F : u_T} {ty : Nat → FieldType}
theorem jv_new (h : Ok x own cc d) (dc : decode cc pc = .ok (.new idx, 3)) (hc : CF ci C F ty) (hdf : ∀ k, k < nf ci → defaultValue (ty k) = dvV (tc ci k)) (hcl : Cond.classLink own idx C ∈ lw_good) (hinst : Cond.instantiable C (nf ci) ∈ lw_good) (hini : Cond.initialized C ∈ lw_good) (hcap : cs + 1 ≤ x.2.2.2.2.1.cells ∧ sl + nf ci ≤ x.2.2.2.2.1.slots)
    (kk : V x (cs + 1) (sl + nf ci) (tnew T ci 0) (rnew Mi T.1 (zr ci)) (rnew Ml T.1 (fun _ => 0)) (pc + 3) lv (.ref T.1 :: st)) : V x cs sl T Mi Ml pc lv st := by
  obtain ⟨g, p, l, e, R, s, m, args, below, meth, c, nL, Q⟩ := x
  obtain ⟨hx, hb, hml, hown, hts, hlk, hK, hSt, hz, hfr, hlo⟩ := h
  intro H locs ls hR hS hl
  obtain ⟨c1, c2, c3, c4, c5⟩ := hc
  have hKn := hK.1 ci _ c2
  refine W.newcK hx hb hown (hts _ hcl) (hts _ hinst) (hts _ hini) rfl dc hcap.1 hcap.2 hKn.2.1 hR.1 fun H1 kC hkC e1 z1 o1 => ?_
  refine kk H1 locs ls (hR.grow rfl z1 o1 (fun b hb9 => ⟨tnew_ko (by omega), tnew_ro (by omega), rnew_o (by omega), rnew_o (by omega)⟩) ?_) (hS.grow hR.1 z1 o1) hl
  rw [ce_obj (ci := ci) (by rw [tnew_ks]) c1]
  refine ⟨_, c2, (u_born ty hts c3 hKn hkC e1 c4).to (fun j hj => ?_)⟩
  rw [hdf j hj]
  have hfl := fl_at (g := g) (T := tnew T ci 0) (Mi := rnew Mi T.1 (zr ci)) (Ml := rnew Ml T.1 (fun _ => 0)) (a := T.1) hj
  unfold vp_V
  rw [List.getD_eq_getElem?_getD, hfl]
  show dvV (tc ci j) = fv g (tnew T ci 0) (rnew Mi T.1 (zr ci)) (rnew Ml T.1 (fun _ => 0)) ci T.1 j
  unfold fv dvV
  rw [tnew_rs, rnew_s, rnew_s]
  by_cases t1 : tc ci j = 1
  · rw [if_pos t1, if_pos t1]
  · rw [if_neg t1, if_neg t1]
    by_cases t2 : tc ci j = 2
    · rw [if_pos t2, if_pos t2]; rfl
    · rw [if_neg t2, if_neg t2]
      by_cases t3 : tc ci j = 3
      · rw [if_pos t3, if_pos t3]
        unfold ev zr
        rw [if_pos t3, if_pos rfl]
      · rw [if_neg t3, if_neg t3]
        unfold zr
        rw [if_neg t3]
theorem jv_newi {n : Nat} {u : Int32} (h : Ok x own cc d) (dc : decode cc pc = .ok (.newarray .int, 2)) (hu : NF u n) (hn : n < 1000) (hw : Cond.arrayClass .int ∈ lw_good) (hcap : cs + 1 ≤ x.2.2.2.2.1.cells ∧ sl + n ≤ x.2.2.2.2.1.slots)
    (kk : V x (cs + 1) (sl + n) (tnew T 12 n) (rnew Mi T.1 (fun _ => nI 0)) Ml (pc + 2) lv (.ref T.1 :: st)) : V x cs sl T Mi Ml pc lv (.int u :: st) := by
  obtain ⟨g, p, l, e, R, s, m, args, below, meth, c, nL, Q⟩ := x
  obtain ⟨hx, hb, hml, hown, hts, hlk, hK, hSt, hz, hfr, hlo⟩ := h
  intro H locs ls hR hS hl
  have hu : u = nI n := hu
  subst hu
  refine va_newaK (atype := .int) hx hb (hts _ hw) rfl dc rfl (nI_pos (by omega)) (nI_clamp (by omega)) (by show n * 4 ≤ 536870912; omega) hcap.1 hcap.2 hR.1 fun H1 cA e1 z1 o1 hAr hNm => ?_
  have hcA : cA = gA g 12 := by
    have h2 : s.vm.findClass ("[" ++ FieldType.int.toString) = some (gA g 12) := (hK.2 0 _ rfl).2
    exact Option.some.inj (hNm.symm.trans h2)
  subst hcA
  refine kk H1 locs ls (hR.grow rfl z1 o1 (fun b hb9 => ⟨tnew_ko (by omega), tnew_ro (by omega), rnew_o (by omega), rfl⟩) ?_) (hS.grow hR.1 z1 o1) hl
  rw [ce_int tnew_ks]
  show H1[T.1]? = some (vp_cell _ _)
  rw [vp_cell_i, rnew_s]
  exact e1
theorem jv_newl {n : Nat} {u : Int32} (h : Ok x own cc d) (dc : decode cc pc = .ok (.newarray .long, 2)) (hu : NF u n) (hn : n < 1000) (hw : Cond.arrayClass .long ∈ lw_good) (hcap : cs + 1 ≤ x.2.2.2.2.1.cells ∧ sl + n ≤ x.2.2.2.2.1.slots)
    (kk : V x (cs + 1) (sl + n) (tnew T 13 n) Mi (rnew Ml T.1 (fun _ => lN 0)) (pc + 2) lv (.ref T.1 :: st)) : V x cs sl T Mi Ml pc lv (.int u :: st) := by
  obtain ⟨g, p, l, e, R, s, m, args, below, meth, c, nL, Q⟩ := x
  obtain ⟨hx, hb, hml, hown, hts, hlk, hK, hSt, hz, hfr, hlo⟩ := h
  intro H locs ls hR hS hl
  have hu : u = nI n := hu
  subst hu
  refine va_newaK (atype := .long) hx hb (hts _ hw) rfl dc rfl (nI_pos (by omega)) (nI_clamp (by omega)) (by show n * 8 ≤ 536870912; omega) hcap.1 hcap.2 hR.1 fun H1 cA e1 z1 o1 hAr hNm => ?_
  have hcA : cA = gA g 13 := by
    have h2 : s.vm.findClass ("[" ++ FieldType.long.toString) = some (gA g 13) := (hK.2 1 _ rfl).2
    exact Option.some.inj (hNm.symm.trans h2)
  subst hcA
  refine kk H1 locs ls (hR.grow rfl z1 o1 (fun b hb9 => ⟨tnew_ko (by omega), tnew_ro (by omega), rfl, rnew_o (by omega)⟩) ?_) (hS.grow hR.1 z1 o1) hl
  rw [ce_long tnew_ks]
  show H1[T.1]? = some (vp_cell _ _)
  rw [rnew_s]
  exact e1
theorem jv_newr {n kd : Nat} {u : Int32} (h : Ok x own cc d) (dc : decode cc pc = .ok (.anewarray idx, 3)) (hu : NF u n) (hn : n < 1000) (hkd : 14 ≤ kd) (hty : (gT x.1)[kd - 12]? = some (gA x.1 kd, .object C)) (hcl : Cond.classLink own idx C ∈ lw_good) (hAO : C = "DayBelt$Person" ∨ C = "DayBelt$Scene" ∨ C = "DayBelt$Sheet") (hcap : cs + 1 ≤ x.2.2.2.2.1.cells ∧ sl + n ≤ x.2.2.2.2.1.slots)
    (kk : V x (cs + 1) (sl + n) (tnew T kd n) Mi Ml (pc + 3) lv (.ref T.1 :: st)) : V x cs sl T Mi Ml pc lv (.int u :: st) := by
  obtain ⟨g, p, l, e, R, s, m, args, below, meth, c, nL, Q⟩ := x
  obtain ⟨hx, hb, hml, hown, hts, hlk, hK, hSt, hz, hfr, hlo⟩ := h
  intro H locs ls hR hS hl
  have hu : u = nI n := hu
  subst hu
  have hover : va_AO C s := by
    obtain ⟨-, -, -, -, -, -, -, h8, h9, h10⟩ := hSt
    rcases hAO with rfl | rfl | rfl
    · exact h8
    · exact h9
    · exact h10
  have hcn : (nI n).toNatClampNeg = n := nI_clamp (by omega)
  refine W.anew hx hb hown (hts _ hcl) (va_AO.use hover) rfl dc rfl (nI_pos (by omega)) (by rw [hcn]; omega) hcap.1 (by rw [hcn]; exact hcap.2) fun cA kA comp f1 f2 f3 f4 => ?_
  rw [hcn]
  generalize hH1 : H.push ({ cls := cA, slots := Array.replicate n .null, vm := .none } : Cell) = H1
  have z1 : H1.size = T.1 + 1 := by rw [← hH1, Array.size_push, hR.1]
  have e1 : H1[T.1]? = some (arrV cA n (fun _ => .null)) := by rw [← hR.1, ← hH1, Array.getElem?_push_size, ← arrV_new]
  have o1 : ∀ q : Nat, q < T.1 → H1[q]? = H[q]? := fun q hq => by rw [← hH1, Array.getElem?_push, if_neg (by rw [hR.1]; omega)]
  have hcA : cA = gA g kd := by
    obtain ⟨-, -, -, -, -, h2⟩ := (hK.2 _ _ hty).2
    exact Option.some.inj (f1.symm.trans h2)
  subst hcA
  have kk' := kk H1 locs ls (hR.grow rfl z1 o1 (fun b hb9 => ⟨tnew_ko (by omega), tnew_ro (by omega), rfl, rfl⟩) (by
    rw [ce_ref tnew_ks hkd]
    show H1[T.1]? = some (vp_cell _ _)
    rw [vp_cell_q, tnew_rs]
    exact e1)) (hS.grow hR.1 z1 o1) hl
  rw [hR.1]
  exact kk'
theorem jv_aast {n j kd v : Nat} {i : Int32} (h : Ok x own cc d) (dc : decode cc pc = .ok (.aastore, 1)) (hm : AR x.1 T a kd n) (hkd : 14 ≤ kd) (hty : (gT x.1)[kd - 12]? = some (gA x.1 kd, .object C)) (hc : CF ci C F ty) (hv : KD x.1 T v ci) (hi : NF i j) (hj : j < n ∧ n < 2 ^ 31)
    (kk : V x cs sl (T.1, T.2.1, upd2 T.2.2 a j (some v)) Mi Ml (pc + 1) lv st) : V x cs sl T Mi Ml pc lv (.ref v :: .int i :: .ref a :: st) := by
  obtain ⟨g, p, l, e, R, s, m, args, below, meth, c, nL, Q⟩ := x
  obtain ⟨hx, hb, hml, hown, hts, hlk, hK, hSt, hz, hfr, hlo⟩ := h
  intro H locs ls hR hS hl
  obtain ⟨m1, m2, m3⟩ := hm
  obtain ⟨v1, v2, v3⟩ := hv
  have hat := hR.2.2 a m1 m2
  rw [ce_ref m3 hkd] at hat
  have hat : H[a]? = some (vp_cell (gA g kd) (n, .inr (.inr (.inr (.inr (T.2.2 a)))))) := hat
  have hatv := hR.2.2 v v1 v2
  rw [ce_obj v3 hc.1] at hatv
  obtain ⟨r', hr', cellV, g1, g2, g3, -⟩ := hatv
  have hi : i = nI j := hi
  subst hi
  have hcn : (nI j).toNatClampNeg = j := nI_clamp (by omega)
  have hcls := (hK.1 ci _ hc.2.1).2
  obtain ⟨kA, comp, k1, k2, k3, -⟩ := (hK.2 _ _ hty).2
  have hcomp : comp = (gD g).1 ci := Option.some.inj (k3.symm.trans hcls.1)
  subst hcomp
  obtain ⟨kC, hkC, -⟩ := hcls.2
  rw [vp_cell_q] at hat
  refine W.aast hx hb hat (fun q h => by cases h) (fun h => by cases h) k1 k2 rfl hkC ⟨nI_pos (by omega), by rw [arrV_size, hcn]; exact hj.1⟩ g1 (fun q h => by rw [g3] at h; cases h) (by rw [g2]; exact hkC) (by rw [g2]; exact va_assign hcls) rfl rfl dc fun H1 e1 z1 oq => ?_
  refine kk H1 _ ls (hR.put (a := a) rfl z1 oq (fun b q => ⟨rfl, upd2_row _ _ q, rfl, rfl⟩) ?_) (hS.put z1 oq m1) hl
  rw [ce_ref (T := (T.1, T.2.1, upd2 T.2.2 a j (some v))) m3 hkd]
  show H1[a]? = some (vp_cell _ _)
  rw [e1, vp_cell_q, hcn, arrV_store]
  congr 2
  funext q
  by_cases hq : q = j
  · subst hq
    simp [updV, upd2, va_rf]
  · simp [updV, upd2, hq]
theorem jv_obj (h : Ok x own cc d) (dc : decode cc pc = .ok (.invokespecial idx, 3)) (hw : Cond.methodLink own idx ({ cls := "java/lang/Object", name := "<init>", desc := "()V" } : MethodName) ∈ lw_good) (hd : 1 ≤ d) (hre : (st.map fun v => v.category).sum ≤ 8) (kk : V x cs sl T Mi Ml (pc + 3) lv st) : V x cs sl T Mi Ml pc lv (.ref a :: st) := by
  obtain ⟨g, p, l, e, R, s, m, args, below, meth, c, nL, Q⟩ := x
  obtain ⟨hx, hb, hml, hown, hts, hlk, hK, hSt, hz, hfr, hlo⟩ := h
  intro H locs ls hR hS hl
  have hr2 := lv_room (m := m) (pc := pc) (ls := ls) (rest := .ref a :: st) hre
  exact W.objInit hx hb hown (hts _ hw) (hts _ gw_29) (hts _ gw_30) rfl (by rw [hml]; exact hl.1) rfl dc (by omega) (by omega) (kk H locs ls hR hS hl)
end NV
/-! the world grown: what was, stays -/
def Ex (T T' : TT) (lo : Nat) : Prop := T.1 ≤ T'.1 ∧ lo ≤ T.1 ∧ ∀ b, b < lo → T'.2.1 b = T.2.1 b ∧ T'.2.2 b = T.2.2 b
section EX
variable {g : GT} {T T' : TT} {lo a b ci kd n : Nat}
theorem KD.ex (h : KD g T a ci) (e : Ex T T' lo) (ha : a < lo) : KD g T' a ci := ⟨h.1, by have := e.1; have := h.2.1; omega, by rw [(e.2.2 a ha).1]; exact h.2.2⟩
theorem AR.ex (h : AR g T a kd n) (e : Ex T T' lo) (ha : a < lo) : AR g T' a kd n := ⟨h.1, by have := e.1; have := h.2.1; omega, by rw [(e.2.2 a ha).1]; exact h.2.2⟩
theorem Ex.rf (e : Ex T T' lo) (ha : a < lo) {k : Nat} {v : Option Nat} (h : T.2.2 a k = v) : T'.2.2 a k = v := by rw [(e.2.2 a ha).2]; exact h
theorem BlkS.ex (h : BlkS g T a) (e : Ex T T' lo) (ha : a + 2 ≤ lo) : BlkS g T' a := ⟨h.1.ex e (by omega), h.2.1.ex e (by omega), e.rf (by omega) h.2.2⟩
theorem ScnS.ex (h : ScnS g T a) (e : Ex T T' lo) (ha : a + 8 ≤ lo) : ScnS g T' a := ⟨h.1.ex e (by omega), h.2.1.ex e (by omega), e.rf (by omega) h.2.2.1, fun p hp => (h.2.2.2.1 p hp).ex e (by omega), fun p hp => e.rf (by omega) (h.2.2.2.2 p hp)⟩
theorem HisS.ex (h : HisS g T a) (e : Ex T T' lo) (ha : a + 66 ≤ lo) : HisS g T' a := ⟨h.1.ex e (by omega), h.2.1.ex e (by omega), e.rf (by omega) h.2.2.1, fun p hp => (h.2.2.2.1 p hp).ex e (by omega), fun p hp => e.rf (by omega) (h.2.2.2.2 p hp)⟩
theorem BltS.ex (h : BltS g T a) (e : Ex T T' lo) (ha : a + 77 ≤ lo) : BltS g T' a := ⟨h.1.ex e (by omega), e.rf (by omega) h.2.1, e.rf (by omega) h.2.2.1, e.rf (by omega) h.2.2.2.1, h.2.2.2.2.1.ex e (by omega), h.2.2.2.2.2.1.ex e (by omega), h.2.2.2.2.2.2.ex e (by omega)⟩
theorem WkS.ex (h : WkS g T a) (e : Ex T T' lo) (ha : a + 3 ≤ lo) : WkS g T' a := ⟨h.1.ex e (by omega), e.rf (by omega) h.2.1, h.2.2.ex e (by omega)⟩
end EX
/-- behind a constructor of the object a, the last cell then: the cells below a are as they were -/
def NW (T : TT) (Mi : MI) (Ml : ML) (T' : TT) (Mi' : MI) (Ml' : ML) (a n : Nat) : Prop := T'.1 = a + n ∧ ∀ b, b < a → T'.2.1 b = T.2.1 b ∧ T'.2.2 b = T.2.2 b ∧ Mi' b = Mi b ∧ Ml' b = Ml b
theorem NW.ex {T T' : TT} {Mi Mi' : MI} {Ml Ml' : ML} {a n : Nat} (h : NW T Mi Ml T' Mi' Ml' a n) (h1 : T.1 = a + 1) (hn : 1 ≤ n) : Ex T T' a := ⟨by rw [h.1, h1]; omega, by rw [h1]; omega, fun b hb => ⟨(h.2 b hb).1, (h.2 b hb).2.1⟩⟩
theorem KD.nw {g : GT} {T : TT} {ci : Nat} (hz : gZ g ≤ T.1) : KD g (tnew T ci 0) T.1 ci := ⟨hz, Nat.lt_succ_self _, by rw [tnew_ks]⟩
theorem AR.nw {g : GT} {T : TT} {kd n : Nat} (hz : gZ g ≤ T.1) : AR g (tnew T kd n) T.1 kd n := ⟨hz, Nat.lt_succ_self _, tnew_ks⟩
theorem Ex.nw {T : TT} {kd n : Nat} : Ex T (tnew T kd n) T.1 := ⟨Nat.le_succ _, Nat.le_refl _, fun b hb => ⟨tnew_ko (by omega), tnew_ro (by omega)⟩⟩
