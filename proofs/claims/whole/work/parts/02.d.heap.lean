/-! ROWS OF V OVER THE HEAP -/
def upd2 {α : Type} (M : Nat → Nat → α) (a k : Nat) (v : α) : Nat → Nat → α := fun b j => if b = a ∧ j = k then v else M b j
theorem upd2_same {α : Type} (M : Nat → Nat → α) (a k : Nat) (v : α) : upd2 M a k v a k = v := by simp [upd2]
theorem upd2_ne {α : Type} (M : Nat → Nat → α) {a k b j : Nat} (v : α) (h : ¬ (b = a ∧ j = k)) : upd2 M a k v b j = M b j := by simp [upd2, h]
theorem upd2_row {α : Type} (M : Nat → Nat → α) {a k b : Nat} (v : α) (h : b ≠ a) : upd2 M a k v b = M b := by funext j; simp [upd2, h]
def NF (x : Int32) (n : Nat) : Prop := x = nI n
theorem NF_nI (n : Nat) : NF (nI n) n := rfl
theorem NF_add {x y : Int32} {a b : Nat} (hx : NF x a) (hy : NF y b) : NF (x + y) (a + b) := by rw [NF, hx, hy]; exact nI_add a b
theorem NF_mul {x y : Int32} {a b : Nat} (hx : NF x a) (hy : NF y b) : NF (x * y) (a * b) := by rw [NF, hx, hy]; exact pk_mul a b
theorem NF_sub {x y : Int32} {a b : Nat} (h : b ≤ a) (hx : NF x a) (hy : NF y b) : NF (x - y) (a - b) := by rw [NF, hx, hy]; exact pk_sub h
def CF (ci : Nat) (C : String) (F : u_T) (ty : Nat → FieldType) : Prop := ci < 12 ∧ vwCl[ci]? = some (C, F, nf ci) ∧ (∀ w ∈ u_ws C F (nf ci), w ∈ lw_good) ∧ (∀ k, k < nf ci → parseFieldDescriptor (F k).2.2.1 = some (ty k)) ∧ ∀ a, a < nf ci → ∀ b, b < nf ci → a ≠ b → (F a).2.1 ≠ (F b).2.1
theorem ce_obj {g : GT} {T : TT} {Mi : MI} {Ml : ML} {a ci : Nat} (h : (T.2.1 a).1 = ci) (hc : ci < 12) : ce g T Mi Ml a = .inr (ci, fl g T Mi Ml ci a) := by
  subst h
  unfold ce
  rw [if_neg (by omega), if_neg (by omega), if_neg (by omega)]
theorem ce_int {g : GT} {T : TT} {Mi : MI} {Ml : ML} {a n : Nat} (h : T.2.1 a = (12, n)) : ce g T Mi Ml a = .inl (gA g 12, n, .inl (Mi a)) := by
  unfold ce; rw [h]; simp
theorem ce_long {g : GT} {T : TT} {Mi : MI} {Ml : ML} {a n : Nat} (h : T.2.1 a = (13, n)) : ce g T Mi Ml a = .inl (gA g 13, n, .inr (.inl (Ml a))) := by
  unfold ce; rw [h]; simp
theorem ce_ref {g : GT} {T : TT} {Mi : MI} {Ml : ML} {a kd n : Nat} (h : T.2.1 a = (kd, n)) (hk : 14 ≤ kd) : ce g T Mi Ml a = .inl (gA g kd, n, .inr (.inr (.inr (.inr (T.2.2 a))))) := by
  unfold ce; rw [h]; dsimp only; rw [if_neg (by omega), if_neg (by omega), if_pos hk]
theorem fl_at {g : GT} {T : TT} {Mi : MI} {Ml : ML} {ci a k : Nat} (hk : k < nf ci) : (fl g T Mi Ml ci a)[k]? = some (fv g T Mi Ml ci a k) := by simp [fl, hk]
theorem fl_len {g : GT} {T : TT} {Mi : MI} {Ml : ML} {ci a : Nat} : (fl g T Mi Ml ci a).length = nf ci := by simp [fl]
theorem ce_congr {g : GT} {T T' : TT} {Mi Mi' : MI} {Ml Ml' : ML} {a : Nat} (h1 : T'.2.1 a = T.2.1 a) (h2 : T'.2.2 a = T.2.2 a) (h3 : Mi' a = Mi a) (h4 : Ml' a = Ml a) : ce g T' Mi' Ml' a = ce g T Mi Ml a := by
  unfold ce fl fv
  rw [h1, h2, h3, h4]
theorem RepH.put {g : GT} {T T' : TT} {Mi Mi' : MI} {Ml Ml' : ML} {H H1 : Heap} {a : Nat} (hR : RepH g T Mi Ml H) (hn : T'.1 = T.1) (z : H1.size = H.size) (oq : ∀ q, q ≠ a → H1[q]? = H[q]?) (h1 : ∀ b, b ≠ a → T'.2.1 b = T.2.1 b ∧ T'.2.2 b = T.2.2 b ∧ Mi' b = Mi b ∧ Ml' b = Ml b) (hat : va_at (gD g) vwCl (a, ce g T' Mi' Ml' a) H1) : RepH g T' Mi' Ml' H1 := by
  refine ⟨by rw [z, hn]; exact hR.1, by rw [hn]; exact hR.2.1, fun b hb1 hb2 => ?_⟩
  by_cases hb : b = a
  · subst hb; exact hat
  · obtain ⟨e1, e2, e3, e4⟩ := h1 b hb
    rw [ce_congr e1 e2 e3 e4]
    exact (hR.2.2 b hb1 (by rw [← hn]; exact hb2)).kept (oq b hb)
theorem tysAt {g : GT} {kd : Nat} (h1 : 12 ≤ kd) (h2 : kd < 17) : ∃ ty, (gT g)[kd - 12]? = some (gA g kd, ty) := by
  rcases (show kd = 12 ∨ kd = 13 ∨ kd = 14 ∨ kd = 15 ∨ kd = 16 by omega) with rfl | rfl | rfl | rfl | rfl <;> exact ⟨_, rfl⟩
section HV
variable {x : CX} {cs sl : Nat} {T : TT} {Mi : MI} {Ml : ML} {pc : Nat} {lv : List (Option Value)} {st : List Value} {own : String} {cc : ByteArray} {d : Nat}
variable {idx ci a k : Nat} {C : String} {F : u_T} {ty : Nat → FieldType}
theorem jv_get (h : Ok x own cc d) (dc : decode cc pc = .ok (.getfield idx, 3)) (hc : CF ci C F ty) (hk : k < nf ci) (hw : Cond.fieldLink own idx (F k).1 (F k).2.1 (F k).2.2.1 ∈ lw_good) (hm : KD x.1 T a ci) (kk : V x cs sl T Mi Ml (pc + 3) lv (fv x.1 T Mi Ml ci a k :: st)) : V x cs sl T Mi Ml pc lv (.ref a :: st) := by
  obtain ⟨g, p, l, e, R, s, m, args, below, meth, c, nL, Q⟩ := x
  obtain ⟨hx, hb, hml, hown, hts, hlk, hK, hSt, hz, hfr, hlo⟩ := h
  intro H locs ls hR hS hl
  obtain ⟨m1, m2, m3⟩ := hm
  obtain ⟨c1, c2, c3, c4, c5⟩ := hc
  have hat := hR.2.2 a m1 m2
  rw [ce_obj m3 c1] at hat
  exact va_get hx hb hts c3 hown hK (ws := [(a, .inr (ci, fl g T Mi Ml ci a))]) (fun j q hq => by
    match j, hq with
    | 0, hq => cases hq; exact hat
    | j + 1, hq => simp at hq) 0 rfl c2 k hk (hts _ hw) (fun _ q => q) (fl_at hk) dc (kk H locs ls hR hS hl)
theorem jv_gi (k : Nat) (h : Ok x own cc d) (dc : decode cc pc = .ok (.getfield idx, 3)) (hc : CF ci C F ty) (hk : k < nf ci ∧ tc ci k ≠ 1 ∧ tc ci k ≠ 2 ∧ tc ci k ≠ 3) (hw : Cond.fieldLink own idx (F k).1 (F k).2.1 (F k).2.2.1 ∈ lw_good) (hm : KD x.1 T a ci) (kk : V x cs sl T Mi Ml (pc + 3) lv (.int (Mi a k) :: st)) : V x cs sl T Mi Ml pc lv (.ref a :: st) := by
  refine jv_get h dc hc hk.1 hw hm ?_
  rw [show fv x.1 T Mi Ml ci a k = .int (Mi a k) by simp [fv, hk.2.1, hk.2.2.1, hk.2.2.2]]
  exact kk
theorem jv_gl (k : Nat) (h : Ok x own cc d) (dc : decode cc pc = .ok (.getfield idx, 3)) (hc : CF ci C F ty) (hk : k < nf ci ∧ tc ci k = 1) (hw : Cond.fieldLink own idx (F k).1 (F k).2.1 (F k).2.2.1 ∈ lw_good) (hm : KD x.1 T a ci) (kk : V x cs sl T Mi Ml (pc + 3) lv (.long (Ml a k) :: st)) : V x cs sl T Mi Ml pc lv (.ref a :: st) := by
  refine jv_get h dc hc hk.1 hw hm ?_
  rw [show fv x.1 T Mi Ml ci a k = .long (Ml a k) by simp [fv, hk.2]]
  exact kk
theorem jv_gr (k : Nat) {b : Nat} (h : Ok x own cc d) (dc : decode cc pc = .ok (.getfield idx, 3)) (hc : CF ci C F ty) (hk : k < nf ci ∧ tc ci k = 2) (hw : Cond.fieldLink own idx (F k).1 (F k).2.1 (F k).2.2.1 ∈ lw_good) (hm : KD x.1 T a ci) (hr : T.2.2 a k = some b) (kk : V x cs sl T Mi Ml (pc + 3) lv (.ref b :: st)) : V x cs sl T Mi Ml pc lv (.ref a :: st) := by
  refine jv_get h dc hc hk.1 hw hm ?_
  rw [show fv x.1 T Mi Ml ci a k = .ref b by simp [fv, hk.2, hr, va_rf]]
  exact kk
theorem ev_nI (g : GT) {n : Nat} (hn : n < 5) : ev g (nI n) = .ref (gE g n) := by
  unfold ev
  rw [if_neg, nI_clamp (by omega)]
  intro q
  have h1 := nI_toInt (n := n) (by omega)
  rw [q] at h1
  have h2 : (-1 : Int32).toInt = -1 := by decide
  omega
theorem jv_ge (k : Nat) {n : Nat} (h : Ok x own cc d) (dc : decode cc pc = .ok (.getfield idx, 3)) (hc : CF ci C F ty) (hk : k < nf ci ∧ tc ci k = 3) (hw : Cond.fieldLink own idx (F k).1 (F k).2.1 (F k).2.2.1 ∈ lw_good) (hm : KD x.1 T a ci) (hr : Mi a k = nI n) (hn : n < 5) (kk : V x cs sl T Mi Ml (pc + 3) lv (.ref (gE x.1 n) :: st)) : V x cs sl T Mi Ml pc lv (.ref a :: st) := by
  refine jv_get h dc hc hk.1 hw hm ?_
  rw [show fv x.1 T Mi Ml ci a k = .ref (gE x.1 n) by simp [fv, hk.2, hr, ev_nI x.1 hn]]
  exact kk
/-- a field of a constant of the enum -/
theorem jv_gen {n : Nat} {on nm ds : String} {L : List Int32} {v : Int32} (hq : (on, nm, ds, L) ∈ E_F) (h : Ok x own cc d) (dc : decode cc pc = .ok (.getfield idx, 3)) (hn : n < 5) (hw : Cond.fieldLink own idx on nm ds ∈ lw_good) (hv : L.getD n 0 = v) (kk : V x cs sl T Mi Ml (pc + 3) lv (.int v :: st)) : V x cs sl T Mi Ml pc lv (.ref (gE x.1 n) :: st) := by
  subst hv
  obtain ⟨g, p, l, e, R, s, m, args, below, meth, c, nL, Q⟩ := x
  obtain ⟨hx, hb, hml, hown, hts, hlk, hK, hSt, hz, hfr, hlo⟩ := h
  intro H locs ls hR hS hl
  exact va_getE hx hb hSt.1 (i := n) (show n < E_nm.length from hn) hS hown hq (hts _ hw) (fun _ z => z) dc (kk H locs ls hR hS hl)
/-- the heap behind a put -/
theorem put_core {g : GT} {p : Program} {l : Launch} {e : Env} {R : Room} {s : State} {m : MethodId} {args : Array Value} {below : List Frame} {meth : Method} {c : Code} {H : Heap} {locs : List Loc} {cells slots : Nat} {Q : State → Prop} {ls : Array Slot} (hx : p.tables.exec = Jvm.exec) (hb : c.code = cc) (hts : ∀ w ∈ lw_good, w.before args s = true) (hc : CF ci C F ty) (hown : s.vm.findClass own = some m.cls) (hK : va_K (gD g) vwCl (gT g) s) (hk : k < nf ci) (hw : Cond.fieldLink own idx (F k).1 (F k).2.1 (F k).2.2.1 ∈ lw_good)
    (hfin : (F k).2.2.2 = false ∨ ((F k).2.2.2 = true ∧ meth.name = "<init>" ∧ (F k).1 = own)) {v : Value} (hn : narrow (ty k) v = v) (hfit : fits (ty k) v = true) {fs : List Value} (hl : k < fs.length) (hat : va_at (gD g) vwCl (a, .inr (ci, fs)) H) (dc : decode cc pc = .ok (.putfield idx, 3))
    (kk : ∀ (H1 : Heap), va_at (gD g) vwCl (a, .inr (ci, fs.set k v)) H1 → H1.size = H.size → (∀ q, q ≠ a → H1[q]? = H[q]?) → W p l e R s m args below meth c H1 (locs ++ [⟨a, (gD g).2 ci k⟩]) cells slots Q (F0 m (pc + 3) ls st)) : W p l e R s m args below meth c H locs cells slots Q (F0 m pc ls (v :: .ref a :: st)) := by
  obtain ⟨c1, c2, c3, c4, c5⟩ := hc
  have hap := va_apart (own := own) hts c3 ty c4 c5 hK c2
  obtain ⟨r, h1, cell, q1, q2, q3, q4⟩ := hat
  have hr : r = (C, F, nf ci) := Option.some.inj (h1.symm.trans c2)
  subst hr
  obtain ⟨hS, hfc, kC, hkC, hkind⟩ := hK.1 ci _ c2
  obtain ⟨cf, kf, fi, f, hi, hsl⟩ := hS k hk
  have hlay := hts _ (c3 _ (u_in_lay hk))
  have hst := (u_facts hfc hkC (u_lays hts c3 hk) hi).1
  have fin : ∀ H' : Heap, H'[a]? = some (cell.setSlot f.slot v) → H'.size = H.size → (∀ q, q ≠ a → H'[q]? = H[q]?) → W p l e R s m args below meth c H' (locs ++ [⟨a, f.slot⟩]) cells slots Q (F0 m (pc + 3) ls st) := by
    intro H' e1 e2 e3
    rw [hsl] at e1 ⊢
    exact kk H' ⟨_, c2, t_OB.to (V := updV (vp_V fs) k v) ⟨_, e1, q2, q3, t_set q4 hap hk v⟩ (fun j _ => vp_updV_set hl v j)⟩ e2 e3
  rcases hfin with hfin | ⟨hfin, hin2, hdecl⟩
  · unfold u_lay at hlay
    rw [if_neg (by rw [hfin]; decide)] at hlay
    have h6 := u_store hfc hkC hkind hlay hi (c4 k hk) hn hfit
    exact W.putK hx hb (f := f) ⟨hown, hts _ hw, ⟨_, _, _, hi⟩, hst⟩ (by rw [q2]; exact h6) q1 q3 (by rw [hsl]; exact k2_hasslot (q4 k hk)) rfl rfl dc fin
  · unfold u_lay at hlay
    rw [if_pos hfin] at hlay
    have hcf : m.cls = cf := by
      obtain ⟨_, _, c', _, _, _, -, -, hf', -, -, -, hown2, -⟩ := Cond.laysFinal_spec hlay
      have e1 : c' = cf := by have := hi.symm.trans hf'; simp at this; exact this.1.symm
      rw [hdecl] at hown2
      rw [← e1]; exact Option.some.inj (hown.symm.trans hown2)
    have h6 := u_fits hfc hkC hkind (Or.inr hlay) hi (c4 k hk) hn hfit
    exact W.putFinK hx hb hown (hts _ hw) hi hst hcf hin2 (by rw [q2]; exact h6) q1 q3 (by rw [hsl]; exact k2_hasslot (q4 k hk)) rfl rfl dc fin
theorem fl_set {g : GT} {T T' : TT} {Mi Mi' : MI} {Ml Ml' : ML} {v : Value} (hk : k < nf ci) (hv : fv g T' Mi' Ml' ci a k = v) (ho : ∀ j, j ≠ k → fv g T' Mi' Ml' ci a j = fv g T Mi Ml ci a j) : (fl g T Mi Ml ci a).set k v = fl g T' Mi' Ml' ci a := by
  apply List.ext_getElem?
  intro j
  by_cases hj : j = k
  · subst hj
    rw [List.getElem?_set_self (by rw [fl_len]; exact hk), fl_at hk, hv]
  · rw [List.getElem?_set_ne (Ne.symm hj)]
    by_cases hl : j < nf ci
    · rw [fl_at hl, fl_at hl, ho j hj]
    · rw [List.getElem?_eq_none (by rw [fl_len]; omega), List.getElem?_eq_none (by rw [fl_len]; omega)]
/-- a put, whatever it is -/
theorem jv_put {T' : TT} {Mi' : MI} {Ml' : ML} {v : Value} (h : Ok x own cc d) (dc : decode cc pc = .ok (.putfield idx, 3)) (hc : CF ci C F ty) (hk : k < nf ci) (hw : Cond.fieldLink own idx (F k).1 (F k).2.1 (F k).2.2.1 ∈ lw_good) (hm : KD x.1 T a ci) (hfin : (F k).2.2.2 = false ∨ ((F k).2.2.2 = true ∧ x.2.2.2.2.2.2.2.2.2.1.name = "<init>" ∧ (F k).1 = own)) (hn : narrow (ty k) v = v) (hfit : fits (ty k) v = true)
    (hN : T'.1 = T.1) (hKk : T'.2.1 = T.2.1) (hb : ∀ b, b ≠ a → T'.2.2 b = T.2.2 b ∧ Mi' b = Mi b ∧ Ml' b = Ml b) (hv : fv x.1 T' Mi' Ml' ci a k = v) (ho : ∀ j, j ≠ k → fv x.1 T' Mi' Ml' ci a j = fv x.1 T Mi Ml ci a j) (kk : V x cs sl T' Mi' Ml' (pc + 3) lv st) : V x cs sl T Mi Ml pc lv (v :: .ref a :: st) := by
  obtain ⟨g, p, l, e, R, s, m, args, below, meth, c, nL, Q⟩ := x
  obtain ⟨hx, hb', hml, hown, hts, hlk, hK, hSt, hz, hfr, hlo⟩ := h
  intro H locs ls hR hS hl
  obtain ⟨m1, m2, m3⟩ := hm
  have hat := hR.2.2 a m1 m2
  rw [ce_obj m3 hc.1] at hat
  refine put_core hx hb' hts hc hown hK hk hw hfin hn hfit (by rw [fl_len]; exact hk) hat dc (fun H1 e1 e2 e3 => ?_)
  rw [fl_set hk hv ho] at e1
  refine kk H1 _ ls (hR.put hN e2 e3 (fun b q => ⟨by rw [hKk], hb b q⟩) ?_) (hS.put e2 e3 m1) hl
  rw [ce_obj (by rw [hKk]; exact m3) hc.1]
  exact e1
theorem jv_pi (k : Nat) {v : Int32} (h : Ok x own cc d) (dc : decode cc pc = .ok (.putfield idx, 3)) (hc : CF ci C F ty) (hk : k < nf ci ∧ tc ci k ≠ 1 ∧ tc ci k ≠ 2 ∧ tc ci k ≠ 3) (hw : Cond.fieldLink own idx (F k).1 (F k).2.1 (F k).2.2.1 ∈ lw_good) (hm : KD x.1 T a ci) (hfin : (F k).2.2.2 = false) (hn : narrow (ty k) (.int v) = .int v) (hfit : fits (ty k) (.int v) = true) (kk : V x cs sl T (upd2 Mi a k v) Ml (pc + 3) lv st) : V x cs sl T Mi Ml pc lv (.int v :: .ref a :: st) := by
  refine jv_put (Mi' := upd2 Mi a k v) h dc hc hk.1 hw hm (Or.inl hfin) hn hfit rfl rfl (fun b q => ⟨rfl, upd2_row Mi v q, rfl⟩) ?_ (fun j q => ?_) kk
  · simp [fv, hk.2.1, hk.2.2.1, hk.2.2.2, upd2_same]
  · unfold fv; rw [upd2_ne Mi v (fun z => q z.2)]
theorem jv_plg (k : Nat) {v : Int64} (h : Ok x own cc d) (dc : decode cc pc = .ok (.putfield idx, 3)) (hc : CF ci C F ty) (hk : k < nf ci ∧ tc ci k = 1) (hw : Cond.fieldLink own idx (F k).1 (F k).2.1 (F k).2.2.1 ∈ lw_good) (hm : KD x.1 T a ci) (hfin : (F k).2.2.2 = false) (hn : ty k = .long) (kk : V x cs sl T Mi (upd2 Ml a k v) (pc + 3) lv st) : V x cs sl T Mi Ml pc lv (.long v :: .ref a :: st) := by
  refine jv_put (Ml' := upd2 Ml a k v) h dc hc hk.1 hw hm (Or.inl hfin) (by rw [hn]; rfl) (by rw [hn]; rfl) rfl rfl (fun b q => ⟨rfl, rfl, upd2_row Ml v q⟩) ?_ (fun j q => ?_) kk
  · simp [fv, hk.2, upd2_same]
  · unfold fv; rw [upd2_ne Ml v (fun z => q z.2)]
theorem jv_pe (k : Nat) {n : Nat} (h : Ok x own cc d) (dc : decode cc pc = .ok (.putfield idx, 3)) (hc : CF ci C F ty) (hk : k < nf ci ∧ tc ci k = 3) (hw : Cond.fieldLink own idx (F k).1 (F k).2.1 (F k).2.2.1 ∈ lw_good) (hm : KD x.1 T a ci) (hfin : (F k).2.2.2 = false) (hn : n < 5) (hr : narrow (ty k) (.ref (gE x.1 n)) = .ref (gE x.1 n)) (hfit : fits (ty k) (.ref (gE x.1 n)) = true) (kk : V x cs sl T (upd2 Mi a k (nI n)) Ml (pc + 3) lv st) : V x cs sl T Mi Ml pc lv (.ref (gE x.1 n) :: .ref a :: st) := by
  refine jv_put (Mi' := upd2 Mi a k (nI n)) h dc hc hk.1 hw hm (Or.inl hfin) hr hfit rfl rfl (fun b q => ⟨rfl, upd2_row Mi _ q, rfl⟩) ?_ (fun j q => ?_) kk
  · simp [fv, hk.2, upd2_same, ev_nI x.1 hn]
  · unfold fv; rw [upd2_ne Mi _ (fun z => q z.2)]
theorem jv_pr (k : Nat) {b : Nat} (h : Ok x own cc d) (dc : decode cc pc = .ok (.putfield idx, 3)) (hc : CF ci C F ty) (hk : k < nf ci ∧ tc ci k = 2) (hw : Cond.fieldLink own idx (F k).1 (F k).2.1 (F k).2.2.1 ∈ lw_good) (hm : KD x.1 T a ci) (hfin : (F k).2.2.2 = false ∨ ((F k).2.2.2 = true ∧ x.2.2.2.2.2.2.2.2.2.1.name = "<init>" ∧ (F k).1 = own)) (hr : narrow (ty k) (.ref b) = .ref b) (hfit : fits (ty k) (.ref b) = true) (kk : V x cs sl (T.1, T.2.1, upd2 T.2.2 a k (some b)) Mi Ml (pc + 3) lv st) : V x cs sl T Mi Ml pc lv (.ref b :: .ref a :: st) := by
  refine jv_put (T' := (T.1, T.2.1, upd2 T.2.2 a k (some b))) h dc hc hk.1 hw hm hfin hr hfit rfl rfl (fun b q => ⟨upd2_row T.2.2 _ q, rfl, rfl⟩) ?_ (fun j q => ?_) kk
  · simp [fv, hk.2, upd2_same, va_rf]
  · unfold fv; dsimp only; rw [upd2_ne T.2.2 _ (fun z => q z.2)]
/-- arrays -/
theorem NF_in {i : Int32} {j n : Nat} (hi : NF i j) (hj : j < n) (hn : n < 2 ^ 31) : vp_in i n := by rw [hi]; exact vp_in_nI hj hn
theorem jv_iald {n j : Nat} {i : Int32} (h : Ok x own cc d) (dc : decode cc pc = .ok (.iaload, 1)) (hm : AR x.1 T a 12 n) (hi : NF i j) (hj : j < n ∧ n < 2 ^ 31) (kk : V x cs sl T Mi Ml (pc + 1) lv (.int (Mi a j) :: st)) : V x cs sl T Mi Ml pc lv (.int i :: .ref a :: st) := by
  obtain ⟨g, p, l, e, R, s, m, args, below, meth, c, nL, Q⟩ := x
  obtain ⟨hx, hb, hml, hown, hts, hlk, hK, hSt, hz, hfr, hlo⟩ := h
  intro H locs ls hR hS hl
  obtain ⟨m1, m2, m3⟩ := hm
  have hat := hR.2.2 a m1 m2
  rw [ce_int m3] at hat
  have hv := NF_in hi hj.1 hj.2
  refine va_iald hx hb hK (ws := [(a, .inl (gA g 12, n, .inl (Mi a)))]) (fun j q hq => by
    match j, hq with
    | 0, hq => cases hq; exact hat
    | j + 1, hq => simp at hq) 0 0 rfl rfl hv dc ?_
  rw [hi, nI_clamp (by omega)]
  exact kk H locs ls hR hS hl
theorem jv_lald {n j : Nat} {i : Int32} (h : Ok x own cc d) (dc : decode cc pc = .ok (.laload, 1)) (hm : AR x.1 T a 13 n) (hi : NF i j) (hj : j < n ∧ n < 2 ^ 31) (kk : V x cs sl T Mi Ml (pc + 1) lv (.long (Ml a j) :: st)) : V x cs sl T Mi Ml pc lv (.int i :: .ref a :: st) := by
  obtain ⟨g, p, l, e, R, s, m, args, below, meth, c, nL, Q⟩ := x
  obtain ⟨hx, hb, hml, hown, hts, hlk, hK, hSt, hz, hfr, hlo⟩ := h
  intro H locs ls hR hS hl
  obtain ⟨m1, m2, m3⟩ := hm
  have hat := hR.2.2 a m1 m2
  rw [ce_long m3] at hat
  have hv := NF_in hi hj.1 hj.2
  refine va_lald hx hb hK (ws := [(a, .inl (gA g 13, n, .inr (.inl (Ml a))))]) (fun j q hq => by
    match j, hq with
    | 0, hq => cases hq; exact hat
    | j + 1, hq => simp at hq) 0 1 rfl rfl hv dc ?_
  rw [hi, nI_clamp (by omega)]
  exact kk H locs ls hR hS hl
theorem jv_aald {n j kd b : Nat} {i : Int32} (h : Ok x own cc d) (dc : decode cc pc = .ok (.aaload, 1)) (hm : AR x.1 T a kd n) (hkd : 14 ≤ kd ∧ kd < 17) (hi : NF i j) (hj : j < n ∧ n < 2 ^ 31) (hr : T.2.2 a j = some b) (kk : V x cs sl T Mi Ml (pc + 1) lv (.ref b :: st)) : V x cs sl T Mi Ml pc lv (.int i :: .ref a :: st) := by
  obtain ⟨g, p, l, e, R, s, m, args, below, meth, c, nL, Q⟩ := x
  obtain ⟨hx, hb, hml, hown, hts, hlk, hK, hSt, hz, hfr, hlo⟩ := h
  intro H locs ls hR hS hl
  obtain ⟨m1, m2, m3⟩ := hm
  have hat := hR.2.2 a m1 m2
  rw [ce_ref m3 hkd.1] at hat
  have hv := NF_in hi hj.1 hj.2
  have key : ∀ (C : String) (t0 : Nat), (gT g)[t0]? = some (gA g kd, .object C) → W p l e R s m args below meth c H locs cs sl Q (F0 m pc ls (.int i :: .ref a :: st)) := by
    intro C t0 ht
    refine va_aldq hx hb hK (ws := [(a, .inl (gA g kd, n, .inr (.inr (.inr (.inr (T.2.2 a))))))]) (fun j q hq => by
      match j, hq with
      | 0, hq => cases hq; exact hat
      | j + 1, hq => simp at hq) 0 t0 rfl ht hv dc ?_
    rw [hi, nI_clamp (by omega), hr]
    exact kk H locs ls hR hS hl
  rcases (show kd = 14 ∨ kd = 15 ∨ kd = 16 by omega) with rfl | rfl | rfl
  · exact key _ 2 rfl
  · exact key _ 3 rfl
  · exact key _ 4 rfl
theorem jv_alen {n kd : Nat} (h : Ok x own cc d) (dc : decode cc pc = .ok (.arraylength, 1)) (hm : AR x.1 T a kd n) (hkd : 12 ≤ kd ∧ kd < 17) (kk : V x cs sl T Mi Ml (pc + 1) lv (.int (nI n) :: st)) : V x cs sl T Mi Ml pc lv (.ref a :: st) := by
  obtain ⟨g, p, l, e, R, s, m, args, below, meth, c, nL, Q⟩ := x
  obtain ⟨hx, hb, hml, hown, hts, hlk, hK, hSt, hz, hfr, hlo⟩ := h
  intro H locs ls hR hS hl
  obtain ⟨m1, m2, m3⟩ := hm
  have hat := hR.2.2 a m1 m2
  obtain ⟨ty, ht⟩ := tysAt (g := g) hkd.1 hkd.2
  have hce : ∃ y, ce g T Mi Ml a = .inl (gA g kd, n, y) := by
    rcases (show kd = 12 ∨ kd = 13 ∨ 14 ≤ kd by omega) with rfl | rfl | q
    · exact ⟨_, ce_int m3⟩
    · exact ⟨_, ce_long m3⟩
    · exact ⟨_, ce_ref m3 q⟩
  obtain ⟨y, hy⟩ := hce
  rw [hy] at hat
  exact va_alen hx hb hK (ws := [(a, .inl (gA g kd, n, y))]) (fun j q hq => by
    match j, hq with
    | 0, hq => cases hq; exact hat
    | j + 1, hq => simp at hq) 0 (kd - 12) rfl ht rfl dc (kk H locs ls hR hS hl)
theorem jv_iast {n j : Nat} {i v : Int32} (h : Ok x own cc d) (dc : decode cc pc = .ok (.iastore, 1)) (hm : AR x.1 T a 12 n) (hi : NF i j) (hj : j < n ∧ n < 2 ^ 31) (kk : V x cs sl T (upd2 Mi a j v) Ml (pc + 1) lv st) : V x cs sl T Mi Ml pc lv (.int v :: .int i :: .ref a :: st) := by
  obtain ⟨g, p, l, e, R, s, m, args, below, meth, c, nL, Q⟩ := x
  obtain ⟨hx, hb, hml, hown, hts, hlk, hK, hSt, hz, hfr, hlo⟩ := h
  intro H locs ls hR hS hl
  obtain ⟨m1, m2, m3⟩ := hm
  have hat := hR.2.2 a m1 m2
  rw [ce_int m3] at hat
  have hv := NF_in hi hj.1 hj.2
  have hij : i.toNatClampNeg = j := by rw [hi, nI_clamp (by omega)]
  refine W.iast hx hb hat ((hK.2 0 (gA g 12, .int) rfl).1 n (fun j => .int (Mi a j))) (fun q => by cases q) (by show ¬ (i < 0 ∨ (arrV _ _ _).slots.size ≤ _); rw [arrV_size]; exact hv) rfl rfl dc fun H1 e1 z oq => ?_
  refine kk H1 _ ls (hR.put rfl z oq (fun b q => ⟨rfl, rfl, upd2_row Mi v q, rfl⟩) ?_) (hS.put z oq m1) hl
  rw [ce_int m3]
  show H1[a]? = some (vp_cell _ _)
  rw [e1, hij]
  rw [vp_cell_i, vp_cell_i, arrV_store]
  congr 2
  funext q
  by_cases hq : q = j <;> simp [updV, upd2, hq]
theorem jv_last {n j : Nat} {i : Int32} {v : Int64} (h : Ok x own cc d) (dc : decode cc pc = .ok (.lastore, 1)) (hm : AR x.1 T a 13 n) (hi : NF i j) (hj : j < n ∧ n < 2 ^ 31) (kk : V x cs sl T Mi (upd2 Ml a j v) (pc + 1) lv st) : V x cs sl T Mi Ml pc lv (.long v :: .int i :: .ref a :: st) := by
  obtain ⟨g, p, l, e, R, s, m, args, below, meth, c, nL, Q⟩ := x
  obtain ⟨hx, hb, hml, hown, hts, hlk, hK, hSt, hz, hfr, hlo⟩ := h
  intro H locs ls hR hS hl
  obtain ⟨m1, m2, m3⟩ := hm
  have hat := hR.2.2 a m1 m2
  rw [ce_long m3] at hat
  have hv := NF_in hi hj.1 hj.2
  have hij : i.toNatClampNeg = j := by rw [hi, nI_clamp (by omega)]
  refine W.last hx hb hat ((hK.2 1 (gA g 13, .long) rfl).1 n (fun j => .long (Ml a j))) (fun q => by cases q) (by show ¬ (i < 0 ∨ (arrV _ _ _).slots.size ≤ _); rw [arrV_size]; exact hv) rfl rfl dc fun H1 e1 z oq => ?_
  refine kk H1 _ ls (hR.put rfl z oq (fun b q => ⟨rfl, rfl, rfl, upd2_row Ml v q⟩) ?_) (hS.put z oq m1) hl
  rw [ce_long m3]
  show H1[a]? = some (vp_cell _ _)
  rw [e1, hij]
  rw [vp_cell_l, vp_cell_l, arrV_store]
  congr 2
  funext q
  by_cases hq : q = j <;> simp [updV, upd2, hq]
end HV
