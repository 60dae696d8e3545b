/-! CALLS -/
def CBw (y : MethodName) (bytes : ByteArray) (maxL : Nat) (ret : Option FieldType) (n : Nat) : Prop := Cond.code y bytes maxL ret ∈ lw_good ∧ Cond.initialized y.cls ∈ lw_good ∧ (y.cls ≠ "java/lang/invoke/MethodHandle" ∧ y.cls ≠ "java/lang/invoke/VarHandle") ∧ (parseMethodDescriptor y.desc).map (fun q => q.parameters.length) = some n ∧ maxL ≤ 20
def CSw (own : String) (idx : Nat) (y : MethodName) (bytes : ByteArray) (maxL : Nat) (ret : Option FieldType) (n : Nat) : Prop := CBw y bytes maxL ret n ∧ Cond.methodLink own idx y ∈ lw_good ∧ Cond.static y ∈ lw_good
def CSNw (own : String) (idx : Nat) (y : MethodName) (bytes : ByteArray) (maxL : Nat) (ret : Option FieldType) (n : Nat) : Prop := CBw y bytes maxL ret n ∧ Cond.methodLinkNest own idx y "DayBelt" ∈ lw_nest ∧ Cond.static y ∈ lw_good
def CVw (own : String) (idx : Nat) (y : MethodName) (bytes : ByteArray) (maxL : Nat) (ret : Option FieldType) (n : Nat) : Prop := CBw y bytes maxL ret n ∧ Cond.methodLink own idx y ∈ lw_good ∧ Cond.instanceMethod y ∈ lw_good ∧ Cond.selects y.cls y y ∈ lw_good
def CIw (own : String) (idx : Nat) (y : MethodName) (bytes : ByteArray) (maxL : Nat) (n : Nat) : Prop := CBw y bytes maxL none n ∧ Cond.methodLink own idx y ∈ lw_good ∧ Cond.instanceMethod y ∈ lw_good ∧ y.name = "<init>"
def CINw (own : String) (idx : Nat) (y : MethodName) (bytes : ByteArray) (maxL : Nat) (n : Nat) : Prop := CBw y bytes maxL none n ∧ Cond.methodLinkNest own idx y "DayBelt" ∈ lw_nest ∧ Cond.instanceMethod y ∈ lw_good ∧ y.name = "<init>"
theorem wd_warm {s : State} {args : Array Value} {y : MethodName} {bytes : ByteArray} {maxL : Nat} {ret : Option FieldType} {n : Nat} (hts : ∀ w ∈ lw_good, w.before args s = true) (hw : CBw y bytes maxL ret n) : ∀ w ∈ Cond.code y bytes maxL ret :: lw_good, ∀ (a' : Array Value) (U : State), s.WarmedH U.vm → w.before a' U = true := by
  intro w hm a' U hW
  have hg : w ∈ lw_good := by
    rcases List.mem_cons.mp hm with rfl | q
    · exact hw.1
    · exact q
  exact word_at hW (lw_good_ok hg) (hts w hg)
theorem par_len {y : MethodName} {n : Nat} (h2 : (parseMethodDescriptor y.desc).map (fun q => q.parameters.length) = some n) : ∀ sig, parseMethodDescriptor y.desc = some sig → n = sig.parameters.length := by
  intro sig h
  rw [h] at h2
  exact (Option.some.inj h2).symm
section CV
variable {g : GT} {p : Program} {l : Launch} {e : Env} {R : Room} {s : State} {m : MethodId} {args : Array Value} {below : List Frame} {meth : Method} {c : Code} {nL : Nat} {Q : State → Prop}
variable {cs sl : Nat} {T : TT} {Mi : MI} {Ml : ML} {pc : Nat} {lv : List (Option Value)} {rest : List Value} {mc ms : Nat} {post : Option Value → TT → MI → ML → Prop}
theorem pre_U {H : Heap} {locs : List Loc} (hK : va_K (gD g) vwCl (gT g) s) (hSt : St g s s.heap) (hR : RepH g T Mi Ml H) (hS : va_S (gO g) s.heap H locs) (U : State) (hU : U.heap = H) (hW : s.WarmedH U.vm) : RepU g T Mi Ml U :=
  ⟨by rw [hU]; exact hR, va_K.moved hW.alike hK, by rw [hU]; exact (hSt.kept (H1 := H) hS.2.1).warm hW⟩
theorem jv_after {H : Heap} {locs : List Loc} {ls : Array Slot} {st0 : List Value} {av : List Value} (hr : va_Run p l e R s m args below meth c H locs cs sl mc ms (F0 m pc ls st0) rest (Qp g post av.toArray) (gO g)) (hR : RepH g T Mi Ml H) (hS : va_S (gO g) s.heap H locs) (hl : lh ls nL lv)
    (kk : ∀ r T' Mi' Ml', post r T' Mi' Ml' → V (g, p, l, e, R, s, m, args, below, meth, c, nL, Q) (cs + mc) (sl + ms) T' Mi' Ml' (pc + 3) lv (r.toList ++ rest)) : W p l e R s m args below meth c H locs cs sl Q (F0 m pc ls st0) := by
  intro T0 hT X
  obtain ⟨v, st₀, t, T', L, h0, X', hL, e1, e2, ⟨⟨r, T2, Mi2, Ml2, hv, hp, hU⟩, hz, hk⟩, st⟩ := hr T0 hT X
  cases hv
  rw [h0] at hz hk
  have hS' : va_S (gO g) s.heap T'.heap (locs ++ L) := ⟨Nat.le_trans hS.1 (by rw [e1]; exact hz), fun q h1 h2 => by rw [e1, hk q (Nat.lt_of_lt_of_le h1 hS.1) h2]; exact hS.2.1 q h1 h2, fun q hq => by
      rcases List.mem_append.mp hq with h | h
      · exact hS.2.2 q h
      · exact hL q h⟩
  obtain ⟨t2, a1, b1⟩ := kk v T2 Mi2 Ml2 hp T'.heap (locs ++ L) ls (by rw [e1]; exact hU.1) hS' hl T' rfl X'
  exact ⟨t2, st t2 a1, b1⟩
end CV
section CR
variable {x : CX} {cs sl : Nat} {T : TT} {Mi : MI} {Ml : ML} {pc : Nat} {lv : List (Option Value)} {st : List Value} {own : String} {cc : ByteArray} {d : Nat}
variable {idx a : Nat} {y : MethodName} {bytes : ByteArray} {maxL n d' mc ms : Nat} {ret : Option FieldType} {As rest : List Value} {post : Option Value → TT → MI → ML → Prop}
theorem jv_callS (h : Ok x own cc d) (dc : decode cc pc = .ok (.invokestatic idx, 3)) (hw : CSw own idx y bytes maxL ret n) (hM : Ct x.1 y bytes maxL ret d' mc ms As T Mi Ml post) (hd : d' < d) (hn : As.length = n) (hst : st = As.reverse ++ rest) (hre : (rest.map fun v => v.category).sum ≤ 8) (hcap : cs + mc ≤ x.2.2.2.2.1.cells ∧ sl + ms ≤ x.2.2.2.2.1.slots) (kk : ∀ r T' Mi' Ml', post r T' Mi' Ml' → V x (cs + mc) (sl + ms) T' Mi' Ml' (pc + 3) lv (r.toList ++ rest)) : V x cs sl T Mi Ml pc lv st := by
  obtain ⟨g, p, l, e, R, s, m, args, below, meth, c, nL, Q⟩ := x
  obtain ⟨hx, hb, hml, hown, hts, hlk, hK, hSt, hz, hfr, hlo⟩ := h
  intro H locs ls hR hS hl
  subst hst
  obtain ⟨hw, hk, hs⟩ := hw
  have hmx : maxL ≤ 20 := hw.2.2.2.2
  exact jv_after (av := As) (va_runS ⟨hx, hb, hml, hown, hts⟩ (hM l) ⟨⟨rfl, rfl, by show d' + 1 ≤ R.frames; omega, by show 8 + (maxL + 11) + 39 * d' ≤ R.locals; omega, wd_warm hts hw, List.mem_cons_self, hts _ hw.1, hts _ hw.2.1, hw.2.2.1, par_len hw.2.2.2.1, hts _ hk⟩, hts _ hs⟩ ⟨Ct.blind, fun U hU hW => ⟨rfl, pre_U hK hSt hR hS U hU hW⟩⟩ rfl hn hl.1 rfl (lv_room hre) dc hcap) hR hS hl kk
theorem jv_callSN (h : Ok x own cc d) (dc : decode cc pc = .ok (.invokestatic idx, 3)) (hw : CSNw own idx y bytes maxL ret n) (hM : Ct x.1 y bytes maxL ret d' mc ms As T Mi Ml post) (hd : d' < d) (hn : As.length = n) (hst : st = As.reverse ++ rest) (hre : (rest.map fun v => v.category).sum ≤ 8) (hcap : cs + mc ≤ x.2.2.2.2.1.cells ∧ sl + ms ≤ x.2.2.2.2.1.slots) (kk : ∀ r T' Mi' Ml', post r T' Mi' Ml' → V x (cs + mc) (sl + ms) T' Mi' Ml' (pc + 3) lv (r.toList ++ rest)) : V x cs sl T Mi Ml pc lv st := by
  obtain ⟨g, p, l, e, R, s, m, args, below, meth, c, nL, Q⟩ := x
  obtain ⟨hx, hb, hml, hown, hts, hlk, hK, hSt, hz, hfr, hlo⟩ := h
  intro H locs ls hR hS hl
  subst hst
  obtain ⟨hw, hk, hs⟩ := hw
  have hmx : maxL ≤ 20 := hw.2.2.2.2
  exact jv_after (av := As) (va_runSN ⟨hx, hb, hml, hown, hts⟩ (hM l) ⟨⟨⟨rfl, rfl, by show d' + 1 ≤ R.frames; omega, by show 8 + (maxL + 11) + 39 * d' ≤ R.locals; omega, wd_warm hts hw, List.mem_cons_self⟩, hts _ hw.1, hts _ hw.2.1, hw.2.2.1, par_len hw.2.2.2.1, va_Nw.use rfl (hSt.2.2.2.2.2.2.1 _ hk)⟩, hts _ hs, trivial⟩ ⟨Ct.blind, fun U hU hW => ⟨rfl, pre_U hK hSt hR hS U hU hW⟩⟩ rfl hn hl.1 rfl (lv_room hre) dc hcap) hR hS hl kk
theorem jv_recv {g : GT} {s : State} {H : Heap} {ci : Nat} {C : String} {F : u_T} {ty : Nat → FieldType} (hc : CF ci C F ty) (hK : va_K (gD g) vwCl (gT g) s) (hR : RepH g T Mi Ml H) (hm : KD g T a ci) : ∃ cell : Cell, H[a]? = some cell ∧ cell.vm.isStatics = false ∧ s.vm.findClass C = some cell.cls := by
  obtain ⟨m1, m2, m3⟩ := hm
  have hat := hR.2.2 a m1 m2
  rw [ce_obj m3 hc.1] at hat
  exact va_recv hK (ws := [(a, .inr (ci, fl g T Mi Ml ci a))]) (q0 := 0) (fun j q hq => by
    match j, hq with
    | 0, hq => cases hq; exact hat
    | j + 1, hq => simp at hq) hc.2.1 rfl
theorem jv_callV {ci : Nat} {F : u_T} {ty : Nat → FieldType} (h : Ok x own cc d) (dc : decode cc pc = .ok (.invokevirtual idx, 3)) (hw : CVw own idx y bytes maxL ret n) (hc : CF ci y.cls F ty) (hm : KD x.1 T a ci) (hM : Ct x.1 y bytes maxL ret d' mc ms (.ref a :: As) T Mi Ml post) (hd : d' < d) (hn : As.length = n) (hst : st = As.reverse ++ .ref a :: rest) (hre : (rest.map fun v => v.category).sum ≤ 8) (hcap : cs + mc ≤ x.2.2.2.2.1.cells ∧ sl + ms ≤ x.2.2.2.2.1.slots) (kk : ∀ r T' Mi' Ml', post r T' Mi' Ml' → V x (cs + mc) (sl + ms) T' Mi' Ml' (pc + 3) lv (r.toList ++ rest)) : V x cs sl T Mi Ml pc lv st := by
  obtain ⟨g, p, l, e, R, s, m, args, below, meth, c, nL, Q⟩ := x
  obtain ⟨hx, hb, hml, hown, hts, hlk, hK, hSt, hz, hfr, hlo⟩ := h
  intro H locs ls hR hS hl
  subst hst
  obtain ⟨hw, hk, hi, hs⟩ := hw
  have hmx : maxL ≤ 20 := hw.2.2.2.2
  exact jv_after (av := .ref a :: As) (va_runV ⟨hx, hb, hml, hown, hts⟩ (hM l) ⟨⟨rfl, rfl, by show d' + 1 ≤ R.frames; omega, by show 8 + (maxL + 11) + 39 * d' ≤ R.locals; omega, wd_warm hts hw, List.mem_cons_self, hts _ hw.1, hts _ hw.2.1, hw.2.2.1, par_len hw.2.2.2.1, hts _ hk⟩, hts _ hi, hts _ hs⟩ ⟨Ct.blind, jv_recv hc hK hR hm, fun U hU hW => ⟨rfl, pre_U hK hSt hR hS U hU hW⟩⟩ rfl hn hl.1 rfl (lv_room hre) dc hcap) hR hS hl kk
theorem jv_callI (h : Ok x own cc d) (dc : decode cc pc = .ok (.invokespecial idx, 3)) (hw : CIw own idx y bytes maxL n) (hM : Ct x.1 y bytes maxL none d' mc ms (.ref a :: As) T Mi Ml post) (hd : d' < d) (hn : As.length = n) (hst : st = As.reverse ++ .ref a :: rest) (hre : (rest.map fun v => v.category).sum ≤ 8) (hcap : cs + mc ≤ x.2.2.2.2.1.cells ∧ sl + ms ≤ x.2.2.2.2.1.slots) (kk : ∀ r T' Mi' Ml', post r T' Mi' Ml' → V x (cs + mc) (sl + ms) T' Mi' Ml' (pc + 3) lv (r.toList ++ rest)) : V x cs sl T Mi Ml pc lv st := by
  obtain ⟨g, p, l, e, R, s, m, args, below, meth, c, nL, Q⟩ := x
  obtain ⟨hx, hb, hml, hown, hts, hlk, hK, hSt, hz, hfr, hlo⟩ := h
  intro H locs ls hR hS hl
  subst hst
  obtain ⟨hw, hk, hi, hs⟩ := hw
  have hmx : maxL ≤ 20 := hw.2.2.2.2
  exact jv_after (av := .ref a :: As) (va_runI ⟨hx, hb, hml, hown, hts⟩ (hM l) ⟨⟨rfl, rfl, by show d' + 1 ≤ R.frames; omega, by show 8 + (maxL + 11) + 39 * d' ≤ R.locals; omega, wd_warm hts hw, List.mem_cons_self, hts _ hw.1, hts _ hw.2.1, hw.2.2.1, par_len hw.2.2.2.1, hts _ hk⟩, hs, hts _ hi⟩ ⟨Ct.blind, fun U hU hW => ⟨rfl, pre_U hK hSt hR hS U hU hW⟩⟩ rfl hn hl.1 rfl (lv_room hre) dc hcap) hR hS hl kk
theorem jv_callIN (h : Ok x own cc d) (dc : decode cc pc = .ok (.invokespecial idx, 3)) (hw : CINw own idx y bytes maxL n) (hM : Ct x.1 y bytes maxL none d' mc ms (.ref a :: As) T Mi Ml post) (hd : d' < d) (hn : As.length = n) (hst : st = As.reverse ++ .ref a :: rest) (hre : (rest.map fun v => v.category).sum ≤ 8) (hcap : cs + mc ≤ x.2.2.2.2.1.cells ∧ sl + ms ≤ x.2.2.2.2.1.slots) (kk : ∀ r T' Mi' Ml', post r T' Mi' Ml' → V x (cs + mc) (sl + ms) T' Mi' Ml' (pc + 3) lv (r.toList ++ rest)) : V x cs sl T Mi Ml pc lv st := by
  obtain ⟨g, p, l, e, R, s, m, args, below, meth, c, nL, Q⟩ := x
  obtain ⟨hx, hb, hml, hown, hts, hlk, hK, hSt, hz, hfr, hlo⟩ := h
  intro H locs ls hR hS hl
  subst hst
  obtain ⟨hw, hk, hi, hs⟩ := hw
  have hmx : maxL ≤ 20 := hw.2.2.2.2
  exact jv_after (av := .ref a :: As) (va_runIN ⟨hx, hb, hml, hown, hts⟩ (hM l) ⟨⟨⟨rfl, rfl, by show d' + 1 ≤ R.frames; omega, by show 8 + (maxL + 11) + 39 * d' ≤ R.locals; omega, wd_warm hts hw, List.mem_cons_self⟩, hts _ hw.1, hts _ hw.2.1, hw.2.2.1, par_len hw.2.2.2.1, va_Nw.use rfl (hSt.2.2.2.2.2.2.1 _ hk)⟩, hs, hts _ hi⟩ ⟨Ct.blind, fun U hU hW => ⟨rfl, pre_U hK hSt hR hS U hU hW⟩⟩ rfl hn hl.1 rfl (lv_room hre) dc hcap) hR hS hl kk
def Ri (T : TT) (Mi : MI) (Ml : ML) (f : Int32) : Option Value → TT → MI → ML → Prop := fun r T' Mi' Ml' => r = some (.int f) ∧ T' = T ∧ Mi' = Mi ∧ Ml' = Ml
def Rl (T : TT) (Mi : MI) (Ml : ML) (f : Int64) : Option Value → TT → MI → ML → Prop := fun r T' Mi' Ml' => r = some (.long f) ∧ T' = T ∧ Mi' = Mi ∧ Ml' = Ml
def Gi (T : TT) (q : Int32 → MI → ML → Prop) : Option Value → TT → MI → ML → Prop := fun r T' Mi' Ml' => ∃ v, r = some (.int v) ∧ T' = T ∧ q v Mi' Ml'
def Gl (T : TT) (q : Int64 → MI → ML → Prop) : Option Value → TT → MI → ML → Prop := fun r T' Mi' Ml' => ∃ v, r = some (.long v) ∧ T' = T ∧ q v Mi' Ml'
def Gv (T : TT) (q : MI → ML → Prop) : Option Value → TT → MI → ML → Prop := fun r T' Mi' Ml' => r = none ∧ T' = T ∧ q Mi' Ml'
theorem jv_SRi {f : Int32} (As : List Value) (h : Ok x own cc d) (dc : decode cc pc = .ok (.invokestatic idx, 3)) (hw : CSw own idx y bytes maxL ret n) (hM : Ct x.1 y bytes maxL ret d' 0 0 As T Mi Ml (Ri T Mi Ml f)) (hd : d' < d) (hn : As.length = n) (hst : st = As.reverse ++ rest) (hre : (rest.map fun v => v.category).sum ≤ 8) (hcap : cs ≤ x.2.2.2.2.1.cells ∧ sl ≤ x.2.2.2.2.1.slots) (kk : V x cs sl T Mi Ml (pc + 3) lv (.int f :: rest)) : V x cs sl T Mi Ml pc lv st := by
  refine jv_callS h dc hw hM hd hn hst hre hcap (fun r T' Mi' Ml' hp => ?_)
  obtain ⟨rfl, rfl, rfl, rfl⟩ := hp
  exact kk
theorem jv_SNRi {f : Int32} (As : List Value) (h : Ok x own cc d) (dc : decode cc pc = .ok (.invokestatic idx, 3)) (hw : CSNw own idx y bytes maxL ret n) (hM : Ct x.1 y bytes maxL ret d' 0 0 As T Mi Ml (Ri T Mi Ml f)) (hd : d' < d) (hn : As.length = n) (hst : st = As.reverse ++ rest) (hre : (rest.map fun v => v.category).sum ≤ 8) (hcap : cs ≤ x.2.2.2.2.1.cells ∧ sl ≤ x.2.2.2.2.1.slots) (kk : V x cs sl T Mi Ml (pc + 3) lv (.int f :: rest)) : V x cs sl T Mi Ml pc lv st := by
  refine jv_callSN h dc hw hM hd hn hst hre hcap (fun r T' Mi' Ml' hp => ?_)
  obtain ⟨rfl, rfl, rfl, rfl⟩ := hp
  exact kk
theorem jv_VRi {f : Int32} (As : List Value) (h : Ok x own cc d) (dc : decode cc pc = .ok (.invokevirtual idx, 3)) {ci : Nat} {F : u_T} {ty : Nat → FieldType} (hw : CVw own idx y bytes maxL ret n) (hc : CF ci y.cls F ty) (hm : KD x.1 T a ci) (hM : Ct x.1 y bytes maxL ret d' 0 0 (.ref a :: As) T Mi Ml (Ri T Mi Ml f)) (hd : d' < d) (hn : As.length = n) (hst : st = As.reverse ++ .ref a :: rest) (hre : (rest.map fun v => v.category).sum ≤ 8) (hcap : cs ≤ x.2.2.2.2.1.cells ∧ sl ≤ x.2.2.2.2.1.slots) (kk : V x cs sl T Mi Ml (pc + 3) lv (.int f :: rest)) : V x cs sl T Mi Ml pc lv st := by
  refine jv_callV h dc hw hc hm hM hd hn hst hre hcap (fun r T' Mi' Ml' hp => ?_)
  obtain ⟨rfl, rfl, rfl, rfl⟩ := hp
  exact kk
theorem jv_SRl {f : Int64} (As : List Value) (h : Ok x own cc d) (dc : decode cc pc = .ok (.invokestatic idx, 3)) (hw : CSw own idx y bytes maxL ret n) (hM : Ct x.1 y bytes maxL ret d' 0 0 As T Mi Ml (Rl T Mi Ml f)) (hd : d' < d) (hn : As.length = n) (hst : st = As.reverse ++ rest) (hre : (rest.map fun v => v.category).sum ≤ 8) (hcap : cs ≤ x.2.2.2.2.1.cells ∧ sl ≤ x.2.2.2.2.1.slots) (kk : V x cs sl T Mi Ml (pc + 3) lv (.long f :: rest)) : V x cs sl T Mi Ml pc lv st := by
  refine jv_callS h dc hw hM hd hn hst hre hcap (fun r T' Mi' Ml' hp => ?_)
  obtain ⟨rfl, rfl, rfl, rfl⟩ := hp
  exact kk
theorem jv_SNRl {f : Int64} (As : List Value) (h : Ok x own cc d) (dc : decode cc pc = .ok (.invokestatic idx, 3)) (hw : CSNw own idx y bytes maxL ret n) (hM : Ct x.1 y bytes maxL ret d' 0 0 As T Mi Ml (Rl T Mi Ml f)) (hd : d' < d) (hn : As.length = n) (hst : st = As.reverse ++ rest) (hre : (rest.map fun v => v.category).sum ≤ 8) (hcap : cs ≤ x.2.2.2.2.1.cells ∧ sl ≤ x.2.2.2.2.1.slots) (kk : V x cs sl T Mi Ml (pc + 3) lv (.long f :: rest)) : V x cs sl T Mi Ml pc lv st := by
  refine jv_callSN h dc hw hM hd hn hst hre hcap (fun r T' Mi' Ml' hp => ?_)
  obtain ⟨rfl, rfl, rfl, rfl⟩ := hp
  exact kk
theorem jv_VRl {f : Int64} (As : List Value) (h : Ok x own cc d) (dc : decode cc pc = .ok (.invokevirtual idx, 3)) {ci : Nat} {F : u_T} {ty : Nat → FieldType} (hw : CVw own idx y bytes maxL ret n) (hc : CF ci y.cls F ty) (hm : KD x.1 T a ci) (hM : Ct x.1 y bytes maxL ret d' 0 0 (.ref a :: As) T Mi Ml (Rl T Mi Ml f)) (hd : d' < d) (hn : As.length = n) (hst : st = As.reverse ++ .ref a :: rest) (hre : (rest.map fun v => v.category).sum ≤ 8) (hcap : cs ≤ x.2.2.2.2.1.cells ∧ sl ≤ x.2.2.2.2.1.slots) (kk : V x cs sl T Mi Ml (pc + 3) lv (.long f :: rest)) : V x cs sl T Mi Ml pc lv st := by
  refine jv_callV h dc hw hc hm hM hd hn hst hre hcap (fun r T' Mi' Ml' hp => ?_)
  obtain ⟨rfl, rfl, rfl, rfl⟩ := hp
  exact kk
theorem jv_SGi {q : Int32 → MI → ML → Prop} (As : List Value) (h : Ok x own cc d) (dc : decode cc pc = .ok (.invokestatic idx, 3)) (hw : CSw own idx y bytes maxL ret n) (hM : Ct x.1 y bytes maxL ret d' 0 0 As T Mi Ml (Gi T q)) (hd : d' < d) (hn : As.length = n) (hst : st = As.reverse ++ rest) (hre : (rest.map fun v => v.category).sum ≤ 8) (hcap : cs ≤ x.2.2.2.2.1.cells ∧ sl ≤ x.2.2.2.2.1.slots) (kk : ∀ v Mi' Ml', q v Mi' Ml' → V x cs sl T Mi' Ml' (pc + 3) lv (.int v :: rest)) : V x cs sl T Mi Ml pc lv st := by
  refine jv_callS h dc hw hM hd hn hst hre hcap (fun r T' Mi' Ml' hp => ?_)
  obtain ⟨v, rfl, rfl, hp⟩ := hp
  exact kk _ _ _ hp
theorem jv_SNGi {q : Int32 → MI → ML → Prop} (As : List Value) (h : Ok x own cc d) (dc : decode cc pc = .ok (.invokestatic idx, 3)) (hw : CSNw own idx y bytes maxL ret n) (hM : Ct x.1 y bytes maxL ret d' 0 0 As T Mi Ml (Gi T q)) (hd : d' < d) (hn : As.length = n) (hst : st = As.reverse ++ rest) (hre : (rest.map fun v => v.category).sum ≤ 8) (hcap : cs ≤ x.2.2.2.2.1.cells ∧ sl ≤ x.2.2.2.2.1.slots) (kk : ∀ v Mi' Ml', q v Mi' Ml' → V x cs sl T Mi' Ml' (pc + 3) lv (.int v :: rest)) : V x cs sl T Mi Ml pc lv st := by
  refine jv_callSN h dc hw hM hd hn hst hre hcap (fun r T' Mi' Ml' hp => ?_)
  obtain ⟨v, rfl, rfl, hp⟩ := hp
  exact kk _ _ _ hp
theorem jv_VGi {q : Int32 → MI → ML → Prop} (As : List Value) (h : Ok x own cc d) (dc : decode cc pc = .ok (.invokevirtual idx, 3)) {ci : Nat} {F : u_T} {ty : Nat → FieldType} (hw : CVw own idx y bytes maxL ret n) (hc : CF ci y.cls F ty) (hm : KD x.1 T a ci) (hM : Ct x.1 y bytes maxL ret d' 0 0 (.ref a :: As) T Mi Ml (Gi T q)) (hd : d' < d) (hn : As.length = n) (hst : st = As.reverse ++ .ref a :: rest) (hre : (rest.map fun v => v.category).sum ≤ 8) (hcap : cs ≤ x.2.2.2.2.1.cells ∧ sl ≤ x.2.2.2.2.1.slots) (kk : ∀ v Mi' Ml', q v Mi' Ml' → V x cs sl T Mi' Ml' (pc + 3) lv (.int v :: rest)) : V x cs sl T Mi Ml pc lv st := by
  refine jv_callV h dc hw hc hm hM hd hn hst hre hcap (fun r T' Mi' Ml' hp => ?_)
  obtain ⟨v, rfl, rfl, hp⟩ := hp
  exact kk _ _ _ hp
theorem jv_SGl {q : Int64 → MI → ML → Prop} (As : List Value) (h : Ok x own cc d) (dc : decode cc pc = .ok (.invokestatic idx, 3)) (hw : CSw own idx y bytes maxL ret n) (hM : Ct x.1 y bytes maxL ret d' 0 0 As T Mi Ml (Gl T q)) (hd : d' < d) (hn : As.length = n) (hst : st = As.reverse ++ rest) (hre : (rest.map fun v => v.category).sum ≤ 8) (hcap : cs ≤ x.2.2.2.2.1.cells ∧ sl ≤ x.2.2.2.2.1.slots) (kk : ∀ v Mi' Ml', q v Mi' Ml' → V x cs sl T Mi' Ml' (pc + 3) lv (.long v :: rest)) : V x cs sl T Mi Ml pc lv st := by
  refine jv_callS h dc hw hM hd hn hst hre hcap (fun r T' Mi' Ml' hp => ?_)
  obtain ⟨v, rfl, rfl, hp⟩ := hp
  exact kk _ _ _ hp
theorem jv_SNGl {q : Int64 → MI → ML → Prop} (As : List Value) (h : Ok x own cc d) (dc : decode cc pc = .ok (.invokestatic idx, 3)) (hw : CSNw own idx y bytes maxL ret n) (hM : Ct x.1 y bytes maxL ret d' 0 0 As T Mi Ml (Gl T q)) (hd : d' < d) (hn : As.length = n) (hst : st = As.reverse ++ rest) (hre : (rest.map fun v => v.category).sum ≤ 8) (hcap : cs ≤ x.2.2.2.2.1.cells ∧ sl ≤ x.2.2.2.2.1.slots) (kk : ∀ v Mi' Ml', q v Mi' Ml' → V x cs sl T Mi' Ml' (pc + 3) lv (.long v :: rest)) : V x cs sl T Mi Ml pc lv st := by
  refine jv_callSN h dc hw hM hd hn hst hre hcap (fun r T' Mi' Ml' hp => ?_)
  obtain ⟨v, rfl, rfl, hp⟩ := hp
  exact kk _ _ _ hp
theorem jv_VGl {q : Int64 → MI → ML → Prop} (As : List Value) (h : Ok x own cc d) (dc : decode cc pc = .ok (.invokevirtual idx, 3)) {ci : Nat} {F : u_T} {ty : Nat → FieldType} (hw : CVw own idx y bytes maxL ret n) (hc : CF ci y.cls F ty) (hm : KD x.1 T a ci) (hM : Ct x.1 y bytes maxL ret d' 0 0 (.ref a :: As) T Mi Ml (Gl T q)) (hd : d' < d) (hn : As.length = n) (hst : st = As.reverse ++ .ref a :: rest) (hre : (rest.map fun v => v.category).sum ≤ 8) (hcap : cs ≤ x.2.2.2.2.1.cells ∧ sl ≤ x.2.2.2.2.1.slots) (kk : ∀ v Mi' Ml', q v Mi' Ml' → V x cs sl T Mi' Ml' (pc + 3) lv (.long v :: rest)) : V x cs sl T Mi Ml pc lv st := by
  refine jv_callV h dc hw hc hm hM hd hn hst hre hcap (fun r T' Mi' Ml' hp => ?_)
  obtain ⟨v, rfl, rfl, hp⟩ := hp
  exact kk _ _ _ hp
theorem jv_SGv {q : MI → ML → Prop} (As : List Value) (h : Ok x own cc d) (dc : decode cc pc = .ok (.invokestatic idx, 3)) (hw : CSw own idx y bytes maxL ret n) (hM : Ct x.1 y bytes maxL ret d' 0 0 As T Mi Ml (Gv T q)) (hd : d' < d) (hn : As.length = n) (hst : st = As.reverse ++ rest) (hre : (rest.map fun v => v.category).sum ≤ 8) (hcap : cs ≤ x.2.2.2.2.1.cells ∧ sl ≤ x.2.2.2.2.1.slots) (kk : ∀ Mi' Ml', q Mi' Ml' → V x cs sl T Mi' Ml' (pc + 3) lv rest) : V x cs sl T Mi Ml pc lv st := by
  refine jv_callS h dc hw hM hd hn hst hre hcap (fun r T' Mi' Ml' hp => ?_)
  obtain ⟨rfl, rfl, hp⟩ := hp
  exact kk _ _ hp
theorem jv_SNGv {q : MI → ML → Prop} (As : List Value) (h : Ok x own cc d) (dc : decode cc pc = .ok (.invokestatic idx, 3)) (hw : CSNw own idx y bytes maxL ret n) (hM : Ct x.1 y bytes maxL ret d' 0 0 As T Mi Ml (Gv T q)) (hd : d' < d) (hn : As.length = n) (hst : st = As.reverse ++ rest) (hre : (rest.map fun v => v.category).sum ≤ 8) (hcap : cs ≤ x.2.2.2.2.1.cells ∧ sl ≤ x.2.2.2.2.1.slots) (kk : ∀ Mi' Ml', q Mi' Ml' → V x cs sl T Mi' Ml' (pc + 3) lv rest) : V x cs sl T Mi Ml pc lv st := by
  refine jv_callSN h dc hw hM hd hn hst hre hcap (fun r T' Mi' Ml' hp => ?_)
  obtain ⟨rfl, rfl, hp⟩ := hp
  exact kk _ _ hp
theorem jv_VGv {q : MI → ML → Prop} (As : List Value) (h : Ok x own cc d) (dc : decode cc pc = .ok (.invokevirtual idx, 3)) {ci : Nat} {F : u_T} {ty : Nat → FieldType} (hw : CVw own idx y bytes maxL ret n) (hc : CF ci y.cls F ty) (hm : KD x.1 T a ci) (hM : Ct x.1 y bytes maxL ret d' 0 0 (.ref a :: As) T Mi Ml (Gv T q)) (hd : d' < d) (hn : As.length = n) (hst : st = As.reverse ++ .ref a :: rest) (hre : (rest.map fun v => v.category).sum ≤ 8) (hcap : cs ≤ x.2.2.2.2.1.cells ∧ sl ≤ x.2.2.2.2.1.slots) (kk : ∀ Mi' Ml', q Mi' Ml' → V x cs sl T Mi' Ml' (pc + 3) lv rest) : V x cs sl T Mi Ml pc lv st := by
  refine jv_callV h dc hw hc hm hM hd hn hst hre hcap (fun r T' Mi' Ml' hp => ?_)
  obtain ⟨rfl, rfl, hp⟩ := hp
  exact kk _ _ hp
end CR
