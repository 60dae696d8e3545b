/-! THE JUDGEMENT V: the machine at a place of a method, over the world -/
abbrev CX : Type := GT × Program × Launch × Env × Room × State × MethodId × Array Value × List Frame × Method × Code × Nat × (State → Prop)
def V (x : CX) (cs sl : Nat) (T : TT) (Mi : MI) (Ml : ML) (pc : Nat) (lv : List (Option Value)) (st : List Value) : Prop := match x with
  | (g, p, l, e, R, s, m, args, below, meth, c, nL, Q) => ∀ (H : Heap) (locs : List Loc) (ls : Array Slot), RepH g T Mi Ml H → va_S (gO g) s.heap H locs → lh ls nL lv → W p l e R s m args below meth c H locs cs sl Q (F0 m pc ls st)
/-- what a method's walk stands on: own class, code, level of room -/
def Ok (x : CX) (own : String) (cc : ByteArray) (d : Nat) : Prop := match x with
  | (g, p, _, _, R, s, m, args, _, meth, c, nL, _) => p.tables.exec = Jvm.exec ∧ c.code = cc ∧ c.maxLocals = nL ∧ s.vm.findClass own = some m.cls ∧ (∀ w ∈ lw_good, w.before args s = true) ∧ meth.locks = false ∧ va_K (gD g) vwCl (gT g) s ∧ St g s s.heap ∧ gZ g ≤ s.heap.size ∧ d ≤ R.frames ∧ 39 * d ≤ R.locals
/-- what is on the stack under a call may be this much -/
def rmL (d mc ms : Nat) : Room := { frames := d, cells := mc, slots := ms, locals := 39 * d }
def Qp (g : GT) (post : Option Value → TT → MI → ML → Prop) : Array Value → State → Outcome → State → Prop := fun _ st oc t => (∃ (r : Option Value) (T : TT) (Mi : MI) (Ml : ML), oc = .returned r ∧ post r T Mi Ml ∧ RepU g T Mi Ml t) ∧ va_F (gO g) st t
/-- a contract: from this world the method comes back, as post says -/
def Ct (g : GT) (y : MethodName) (cc : ByteArray) (maxL : Nat) (ret : Option FieldType) (d mc ms : Nat) (av : List Value) (T : TT) (Mi : MI) (Ml : ML) (post : Option Value → TT → MI → ML → Prop) : Prop :=
  ∀ l : Launch, Met l y (.code y cc maxL ret :: lw_good) (rmL d mc ms) (va_Pc av (fun U => RepU g T Mi Ml U)) (Qp g post) mc ms (gO g)
def Pi (post : Int32 → TT → MI → ML → Prop) : Option Value → TT → MI → ML → Prop := fun r T Mi Ml => ∃ v, r = some (.int v) ∧ post v T Mi Ml
def Pl (post : Int64 → TT → MI → ML → Prop) : Option Value → TT → MI → ML → Prop := fun r T Mi Ml => ∃ v, r = some (.long v) ∧ post v T Mi Ml
def Pv (post : TT → MI → ML → Prop) : Option Value → TT → MI → ML → Prop := fun r T Mi Ml => r = none ∧ post T Mi Ml
/-- the end of a method's walk -/
def Rt (x : CX) (mc ms : Nat) (ret : Option FieldType) (post : Option Value → TT → MI → ML → Prop) : Prop := match x with
  | (g, _, _, _, _, s, _, args, below, meth, _, _, Q) => meth.sig.returnType = ret ∧ Q = MQ below (Qp g post) args s mc ms (gO g)
theorem RepU.blind {g : GT} {T : TT} {Mi : MI} {Ml : ML} {U : State} (gg : JFrame) (mk : MethodId) (a : Array Value) (h : RepU g T Mi Ml U) : RepU g T Mi Ml (U.calling gg mk a) :=
  ⟨h.1, va_K.moved (u := U) (U := U.calling gg mk a) (Vm.Alike.refl U.vm) h.2.1, St.same (u := U) (U := U.calling gg mk a) rfl h.2.2⟩
theorem Ct.blind {g : GT} {T : TT} {Mi : MI} {Ml : ML} {av : List Value} : FrameBlind (va_Pc av (fun U => RepU g T Mi Ml U)) := fun a U gg mk h => ⟨h.1, h.2.blind gg mk a⟩
theorem Ct.weaken {g : GT} {y : MethodName} {cc : ByteArray} {maxL : Nat} {ret : Option FieldType} {d mc ms : Nat} {av : List Value} {T : TT} {Mi : MI} {Ml : ML} {post post' : Option Value → TT → MI → ML → Prop} (h : Ct g y cc maxL ret d mc ms av T Mi Ml post) (hp : ∀ r T Mi Ml, post r T Mi Ml → post' r T Mi Ml) : Ct g y cc maxL ret d mc ms av T Mi Ml post' := by
  intro l p e ha hc hk s m args below hf happ hP hK
  obtain ⟨n, o, h1, h2, h3, ⟨⟨r, T', Mi', Ml', e1, e2, e3⟩, hF⟩, hL⟩ := h l p e ha hc hk s m args below hf happ hP hK
  exact ⟨n, o, h1, h2, h3, ⟨⟨r, T', Mi', Ml', e1, hp _ _ _ _ e2, e3⟩, hF⟩, hL⟩
theorem Met.ofWF {l : Launch} {y : MethodName} {ws ws' : List Cond} {rm : Room} {Pc : Array Value → State → Prop} {Qc : Array Value → State → Outcome → State → Prop} {mc ms : Nat} {free : Addr → Prop} {cc : ByteArray} {maxL : Nat} {ret : Option FieldType}
    (hy : plainFor y = true) (hw : ws = Cond.code y cc maxL ret :: ws')
    (body : ∀ p e s m args below meth c s₁, BodyLoose p l y (headSpec ws rm) cc maxL ret e s m args below meth c s₁ → c.maxLocals = maxL → Pc args s →
      W p l e (headSpec ws rm).room s m args below meth c s.heap [] 0 0 (MQ below Qc args s mc ms free) (entryFrame m args maxL)) : Met l y ws rm Pc Qc mc ms free := by
  refine MetFree.of_bodySF (code := cc) (maxLocals := maxL) (ret := ret) hy ?_ ?_
  · intro args s m h hn
    obtain ⟨meth, c, h1, h2, h3, h4, h5, h6, -, -⟩ := Cond.code_spec hn (atoms_spec (ws := ws) h _ (by rw [hw]; exact List.mem_cons_self))
    exact ⟨meth, c, h1, h2, h3, h4, h5, h6⟩
  · intro p e s m args below meth c s₁ B hml hP _
    have hh0 : s₁.heap = s.heap := by rw [B.state]; rfl
    obtain ⟨t, a1, o, b1, b2, b3⟩ := body p e s m args below meth c s₁ B hml hP s₁ hh0 (Stand.of_body B)
    exact ⟨t, o, a1, b1, b2, ⟨b3.1, b3.2⟩⟩
/-- a contract out of its walk -/
theorem Ct.of {g : GT} {y : MethodName} {cc : ByteArray} {maxL : Nat} {ret : Option FieldType} {d mc ms : Nat} {av : List Value} {T : TT} {Mi : MI} {Ml : ML} {post : Option Value → TT → MI → ML → Prop} (hy : plainFor y = true) (hn : (lg_sl av).length ≤ maxL) (lv : List (Option Value)) (hlv : ∀ i v, lget lv i = some v → (i, v) ∈ lv_args 0 av)
    (body : ∀ x : CX, x.1 = g → x.2.2.2.2.1 = rmL d mc ms → Ok x y.cls cc d → Rt x mc ms ret post → x.2.2.2.2.2.2.2.2.2.1.name = y.name → x.2.2.2.2.2.2.2.2.2.2.2.1 = maxL → V x 0 0 T Mi Ml 0 lv []) : Ct g y cc maxL ret d mc ms av T Mi Ml post := by
  intro l
  refine Met.ofWF (cc := cc) (maxL := maxL) (ret := ret) hy rfl ?_
  intro p e s m args below meth c s₁ B hml hv
  obtain ⟨rfl, hR, hK, hSt⟩ := hv
  have hts := atoms_spec (ws := .code y cc maxL ret :: lw_good) B.pre
  have hown : s.vm.findClass y.cls = some m.cls := findClass_of_methodNamed B.named
  have hl := lv_entry av (n := maxL) hn
  rw [lg_entry_eq]
  refine body (g, p, l, e, rmL d mc ms, s, m, av.toArray, below, meth, c, maxL, MQ below (Qp g post) av.toArray s mc ms (gO g)) rfl rfl ⟨B.exec, B.bytes, hml, hown, fun w hw => hts w (List.mem_cons_of_mem _ hw), B.notSynchronized, hK, hSt, by rw [hR.1]; exact hR.2.1, Nat.le_refl _, Nat.le_refl _⟩ ⟨B.returns, rfl⟩ (name_of_methodNamed B.named B.method).1 rfl s.heap [] _ hR va_S.rf ⟨hl.1, hl.2.1, fun i v h => hl.2.2 (i, v) (hlv i v h)⟩
