theorem jv_iconst {x : CX} {cs sl : Nat} {T : TT} {Mi : MI} {Ml : ML} {pc : Nat} {lv : List (Option Value)} {st : List Value} {own : String} {cc : ByteArray} {d : Nat} {n : Int} (v : Int32) (h : Ok x own cc d) (dc : decode cc pc = .ok (.iconst n, 1)) (hv : Int32.ofInt n = v) (k : V x cs sl T Mi Ml (pc + 1) lv (.int v :: st)) : V x cs sl T Mi Ml pc lv st := by
  obtain ⟨g, p, l, e, R, s, m, args, below, meth, c, nL, Q⟩ := x
  obtain ⟨hx, hb, hml, hown, hts, hlk, hK, hSt, hz, hfr, hlo⟩ := h
  intro H locs ls hR hS hl
  exact lv_iconst hx hb dc hv (k H locs ls hR hS hl)
theorem jv_bipush {x : CX} {cs sl : Nat} {T : TT} {Mi : MI} {Ml : ML} {pc : Nat} {lv : List (Option Value)} {st : List Value} {own : String} {cc : ByteArray} {d : Nat} {n : Int} (v : Int32) (h : Ok x own cc d) (dc : decode cc pc = .ok (.bipush n, 2)) (hv : (Int8.ofInt n).toInt32 = v) (k : V x cs sl T Mi Ml (pc + 2) lv (.int v :: st)) : V x cs sl T Mi Ml pc lv st := by
  obtain ⟨g, p, l, e, R, s, m, args, below, meth, c, nL, Q⟩ := x
  obtain ⟨hx, hb, hml, hown, hts, hlk, hK, hSt, hz, hfr, hlo⟩ := h
  intro H locs ls hR hS hl
  exact lv_bipush hx hb dc hv (k H locs ls hR hS hl)
theorem jv_sipush {x : CX} {cs sl : Nat} {T : TT} {Mi : MI} {Ml : ML} {pc : Nat} {lv : List (Option Value)} {st : List Value} {own : String} {cc : ByteArray} {d : Nat} {n : Int} (v : Int32) (h : Ok x own cc d) (dc : decode cc pc = .ok (.sipush n, 3)) (hv : (Int16.ofInt n).toInt32 = v) (k : V x cs sl T Mi Ml (pc + 3) lv (.int v :: st)) : V x cs sl T Mi Ml pc lv st := by
  obtain ⟨g, p, l, e, R, s, m, args, below, meth, c, nL, Q⟩ := x
  obtain ⟨hx, hb, hml, hown, hts, hlk, hK, hSt, hz, hfr, hlo⟩ := h
  intro H locs ls hR hS hl
  exact lv_sipush hx hb dc hv (k H locs ls hR hS hl)
theorem jv_lconst {x : CX} {cs sl : Nat} {T : TT} {Mi : MI} {Ml : ML} {pc : Nat} {lv : List (Option Value)} {st : List Value} {own : String} {cc : ByteArray} {d : Nat} {n : Fin 2} (v : Int64) (h : Ok x own cc d) (dc : decode cc pc = .ok (.lconst n, 1)) (hv : Int64.ofNat (n : Nat) = v) (k : V x cs sl T Mi Ml (pc + 1) lv (.long v :: st)) : V x cs sl T Mi Ml pc lv st := by
  obtain ⟨g, p, l, e, R, s, m, args, below, meth, c, nL, Q⟩ := x
  obtain ⟨hx, hb, hml, hown, hts, hlk, hK, hSt, hz, hfr, hlo⟩ := h
  intro H locs ls hR hS hl
  exact lv_lconst hx hb dc hv (k H locs ls hR hS hl)
theorem jv_ldc {x : CX} {cs sl : Nat} {T : TT} {Mi : MI} {Ml : ML} {pc : Nat} {lv : List (Option Value)} {st : List Value} {own : String} {cc : ByteArray} {d : Nat} {idx : Nat} {v : Int32} (h : Ok x own cc d) (dc : decode cc pc = .ok (.ldc idx, 2)) (hw : Cond.constant own idx v ∈ lw_good) (k : V x cs sl T Mi Ml (pc + 2) lv (.int v :: st)) : V x cs sl T Mi Ml pc lv st := by
  obtain ⟨g, p, l, e, R, s, m, args, below, meth, c, nL, Q⟩ := x
  obtain ⟨hx, hb, hml, hown, hts, hlk, hK, hSt, hz, hfr, hlo⟩ := h
  intro H locs ls hR hS hl
  exact lv_ldc hx hb hown (hts _ hw) dc (k H locs ls hR hS hl)
theorem jv_ldcw {x : CX} {cs sl : Nat} {T : TT} {Mi : MI} {Ml : ML} {pc : Nat} {lv : List (Option Value)} {st : List Value} {own : String} {cc : ByteArray} {d : Nat} {idx : Nat} {v : Int32} (h : Ok x own cc d) (dc : decode cc pc = .ok (.ldc_w idx, 3)) (hw : Cond.constant own idx v ∈ lw_good) (k : V x cs sl T Mi Ml (pc + 3) lv (.int v :: st)) : V x cs sl T Mi Ml pc lv st := by
  obtain ⟨g, p, l, e, R, s, m, args, below, meth, c, nL, Q⟩ := x
  obtain ⟨hx, hb, hml, hown, hts, hlk, hK, hSt, hz, hfr, hlo⟩ := h
  intro H locs ls hR hS hl
  exact lv_ldcw hx hb hown (hts _ hw) dc (k H locs ls hR hS hl)
theorem jv_ldc2 {x : CX} {cs sl : Nat} {T : TT} {Mi : MI} {Ml : ML} {pc : Nat} {lv : List (Option Value)} {st : List Value} {own : String} {cc : ByteArray} {d : Nat} {idx : Nat} {v : Int64} (h : Ok x own cc d) (dc : decode cc pc = .ok (.ldc2_w idx, 3)) (hw : Cond.constantLong own idx v ∈ lw_good) (k : V x cs sl T Mi Ml (pc + 3) lv (.long v :: st)) : V x cs sl T Mi Ml pc lv st := by
  obtain ⟨g, p, l, e, R, s, m, args, below, meth, c, nL, Q⟩ := x
  obtain ⟨hx, hb, hml, hown, hts, hlk, hK, hSt, hz, hfr, hlo⟩ := h
  intro H locs ls hR hS hl
  exact lv_ldc2 hx hb hown (hts _ hw) dc (k H locs ls hR hS hl)
theorem jv_iload_n {x : CX} {cs sl : Nat} {T : TT} {Mi : MI} {Ml : ML} {pc : Nat} {lv : List (Option Value)} {st : List Value} {own : String} {cc : ByteArray} {d : Nat} {i : Fin 4} {v : Int32} (h : Ok x own cc d) (dc : decode cc pc = .ok (.iload_n i, 1)) (hv : lget lv (i : Nat) = some (.int v)) (k : V x cs sl T Mi Ml (pc + 1) lv (.int v :: st)) : V x cs sl T Mi Ml pc lv st := by
  obtain ⟨g, p, l, e, R, s, m, args, below, meth, c, nL, Q⟩ := x
  obtain ⟨hx, hb, hml, hown, hts, hlk, hK, hSt, hz, hfr, hlo⟩ := h
  intro H locs ls hR hS hl
  exact lv_iload_n hx hb dc rfl (hl.at hv) (k H locs ls hR hS hl)
theorem jv_iload {x : CX} {cs sl : Nat} {T : TT} {Mi : MI} {Ml : ML} {pc : Nat} {lv : List (Option Value)} {st : List Value} {own : String} {cc : ByteArray} {d : Nat} {i : Nat} {v : Int32} (h : Ok x own cc d) (dc : decode cc pc = .ok (.iload i, 2)) (hv : lget lv i = some (.int v)) (k : V x cs sl T Mi Ml (pc + 2) lv (.int v :: st)) : V x cs sl T Mi Ml pc lv st := by
  obtain ⟨g, p, l, e, R, s, m, args, below, meth, c, nL, Q⟩ := x
  obtain ⟨hx, hb, hml, hown, hts, hlk, hK, hSt, hz, hfr, hlo⟩ := h
  intro H locs ls hR hS hl
  exact lv_iload hx hb dc (hl.at hv) (k H locs ls hR hS hl)
theorem jv_istore_n {x : CX} {cs sl : Nat} {T : TT} {Mi : MI} {Ml : ML} {pc : Nat} {lv : List (Option Value)} {st : List Value} {own : String} {cc : ByteArray} {d : Nat} {i : Fin 4} {v : Int32} (h : Ok x own cc d) (dc : decode cc pc = .ok (.istore_n i, 1)) (hn : (i : Nat) < x.2.2.2.2.2.2.2.2.2.2.2.1) (k : V x cs sl T Mi Ml (pc + 1) (lst1 lv (i : Nat) (.int v)) st) : V x cs sl T Mi Ml pc lv (.int v :: st) := by
  obtain ⟨g, p, l, e, R, s, m, args, below, meth, c, nL, Q⟩ := x
  obtain ⟨hx, hb, hml, hown, hts, hlk, hK, hSt, hz, hfr, hlo⟩ := h
  intro H locs ls hR hS hl
  exact lv_istore_n hx hb dc rfl (lh_has hl) hn rfl (fun ls' hl' => k H locs ls' hR hS (lh_st1 hl'))
theorem jv_istore {x : CX} {cs sl : Nat} {T : TT} {Mi : MI} {Ml : ML} {pc : Nat} {lv : List (Option Value)} {st : List Value} {own : String} {cc : ByteArray} {d : Nat} {i : Nat} {v : Int32} (h : Ok x own cc d) (dc : decode cc pc = .ok (.istore i, 2)) (hn : i < x.2.2.2.2.2.2.2.2.2.2.2.1) (k : V x cs sl T Mi Ml (pc + 2) (lst1 lv i (.int v)) st) : V x cs sl T Mi Ml pc lv (.int v :: st) := by
  obtain ⟨g, p, l, e, R, s, m, args, below, meth, c, nL, Q⟩ := x
  obtain ⟨hx, hb, hml, hown, hts, hlk, hK, hSt, hz, hfr, hlo⟩ := h
  intro H locs ls hR hS hl
  exact lv_istore hx hb dc (lh_has hl) hn rfl (fun ls' hl' => k H locs ls' hR hS (lh_st1 hl'))
theorem jv_lload_n {x : CX} {cs sl : Nat} {T : TT} {Mi : MI} {Ml : ML} {pc : Nat} {lv : List (Option Value)} {st : List Value} {own : String} {cc : ByteArray} {d : Nat} {i : Fin 4} {v : Int64} (h : Ok x own cc d) (dc : decode cc pc = .ok (.lload_n i, 1)) (hv : lget lv (i : Nat) = some (.long v)) (k : V x cs sl T Mi Ml (pc + 1) lv (.long v :: st)) : V x cs sl T Mi Ml pc lv st := by
  obtain ⟨g, p, l, e, R, s, m, args, below, meth, c, nL, Q⟩ := x
  obtain ⟨hx, hb, hml, hown, hts, hlk, hK, hSt, hz, hfr, hlo⟩ := h
  intro H locs ls hR hS hl
  exact lv_lload_n hx hb dc rfl (hl.at hv) (k H locs ls hR hS hl)
theorem jv_lload {x : CX} {cs sl : Nat} {T : TT} {Mi : MI} {Ml : ML} {pc : Nat} {lv : List (Option Value)} {st : List Value} {own : String} {cc : ByteArray} {d : Nat} {i : Nat} {v : Int64} (h : Ok x own cc d) (dc : decode cc pc = .ok (.lload i, 2)) (hv : lget lv i = some (.long v)) (k : V x cs sl T Mi Ml (pc + 2) lv (.long v :: st)) : V x cs sl T Mi Ml pc lv st := by
  obtain ⟨g, p, l, e, R, s, m, args, below, meth, c, nL, Q⟩ := x
  obtain ⟨hx, hb, hml, hown, hts, hlk, hK, hSt, hz, hfr, hlo⟩ := h
  intro H locs ls hR hS hl
  exact lv_lload hx hb dc (hl.at hv) (k H locs ls hR hS hl)
theorem jv_lstore_n {x : CX} {cs sl : Nat} {T : TT} {Mi : MI} {Ml : ML} {pc : Nat} {lv : List (Option Value)} {st : List Value} {own : String} {cc : ByteArray} {d : Nat} {i : Fin 4} {v : Int64} (h : Ok x own cc d) (dc : decode cc pc = .ok (.lstore_n i, 1)) (hn : (i : Nat) + 1 < x.2.2.2.2.2.2.2.2.2.2.2.1) (k : V x cs sl T Mi Ml (pc + 1) (lst2 lv (i : Nat) (.long v)) st) : V x cs sl T Mi Ml pc lv (.long v :: st) := by
  obtain ⟨g, p, l, e, R, s, m, args, below, meth, c, nL, Q⟩ := x
  obtain ⟨hx, hb, hml, hown, hts, hlk, hK, hSt, hz, hfr, hlo⟩ := h
  intro H locs ls hR hS hl
  exact lv_lstore_n hx hb dc rfl (lh_has hl) hn rfl (fun ls' hl' => k H locs ls' hR hS (lh_st2 hl'))
theorem jv_lstore {x : CX} {cs sl : Nat} {T : TT} {Mi : MI} {Ml : ML} {pc : Nat} {lv : List (Option Value)} {st : List Value} {own : String} {cc : ByteArray} {d : Nat} {i : Nat} {v : Int64} (h : Ok x own cc d) (dc : decode cc pc = .ok (.lstore i, 2)) (hn : i + 1 < x.2.2.2.2.2.2.2.2.2.2.2.1) (k : V x cs sl T Mi Ml (pc + 2) (lst2 lv i (.long v)) st) : V x cs sl T Mi Ml pc lv (.long v :: st) := by
  obtain ⟨g, p, l, e, R, s, m, args, below, meth, c, nL, Q⟩ := x
  obtain ⟨hx, hb, hml, hown, hts, hlk, hK, hSt, hz, hfr, hlo⟩ := h
  intro H locs ls hR hS hl
  exact lv_lstore hx hb dc (lh_has hl) hn rfl (fun ls' hl' => k H locs ls' hR hS (lh_st2 hl'))
theorem jv_aload_n {x : CX} {cs sl : Nat} {T : TT} {Mi : MI} {Ml : ML} {pc : Nat} {lv : List (Option Value)} {st : List Value} {own : String} {cc : ByteArray} {d : Nat} {i : Fin 4} {v : Nat} (h : Ok x own cc d) (dc : decode cc pc = .ok (.aload_n i, 1)) (hv : lget lv (i : Nat) = some (.ref v)) (k : V x cs sl T Mi Ml (pc + 1) lv (.ref v :: st)) : V x cs sl T Mi Ml pc lv st := by
  obtain ⟨g, p, l, e, R, s, m, args, below, meth, c, nL, Q⟩ := x
  obtain ⟨hx, hb, hml, hown, hts, hlk, hK, hSt, hz, hfr, hlo⟩ := h
  intro H locs ls hR hS hl
  exact lv_aload_n hx hb dc rfl (hl.at hv) (k H locs ls hR hS hl)
theorem jv_aload {x : CX} {cs sl : Nat} {T : TT} {Mi : MI} {Ml : ML} {pc : Nat} {lv : List (Option Value)} {st : List Value} {own : String} {cc : ByteArray} {d : Nat} {i : Nat} {v : Nat} (h : Ok x own cc d) (dc : decode cc pc = .ok (.aload i, 2)) (hv : lget lv i = some (.ref v)) (k : V x cs sl T Mi Ml (pc + 2) lv (.ref v :: st)) : V x cs sl T Mi Ml pc lv st := by
  obtain ⟨g, p, l, e, R, s, m, args, below, meth, c, nL, Q⟩ := x
  obtain ⟨hx, hb, hml, hown, hts, hlk, hK, hSt, hz, hfr, hlo⟩ := h
  intro H locs ls hR hS hl
  exact lv_aload hx hb dc (hl.at hv) (k H locs ls hR hS hl)
theorem jv_astore_n {x : CX} {cs sl : Nat} {T : TT} {Mi : MI} {Ml : ML} {pc : Nat} {lv : List (Option Value)} {st : List Value} {own : String} {cc : ByteArray} {d : Nat} {i : Fin 4} {v : Nat} (h : Ok x own cc d) (dc : decode cc pc = .ok (.astore_n i, 1)) (hn : (i : Nat) < x.2.2.2.2.2.2.2.2.2.2.2.1) (k : V x cs sl T Mi Ml (pc + 1) (lst1 lv (i : Nat) (.ref v)) st) : V x cs sl T Mi Ml pc lv (.ref v :: st) := by
  obtain ⟨g, p, l, e, R, s, m, args, below, meth, c, nL, Q⟩ := x
  obtain ⟨hx, hb, hml, hown, hts, hlk, hK, hSt, hz, hfr, hlo⟩ := h
  intro H locs ls hR hS hl
  exact lv_astore_n hx hb dc rfl (lh_has hl) hn rfl (fun ls' hl' => k H locs ls' hR hS (lh_st1 hl'))
theorem jv_astore {x : CX} {cs sl : Nat} {T : TT} {Mi : MI} {Ml : ML} {pc : Nat} {lv : List (Option Value)} {st : List Value} {own : String} {cc : ByteArray} {d : Nat} {i : Nat} {v : Nat} (h : Ok x own cc d) (dc : decode cc pc = .ok (.astore i, 2)) (hn : i < x.2.2.2.2.2.2.2.2.2.2.2.1) (k : V x cs sl T Mi Ml (pc + 2) (lst1 lv i (.ref v)) st) : V x cs sl T Mi Ml pc lv (.ref v :: st) := by
  obtain ⟨g, p, l, e, R, s, m, args, below, meth, c, nL, Q⟩ := x
  obtain ⟨hx, hb, hml, hown, hts, hlk, hK, hSt, hz, hfr, hlo⟩ := h
  intro H locs ls hR hS hl
  exact lv_astore hx hb dc (lh_has hl) hn rfl (fun ls' hl' => k H locs ls' hR hS (lh_st1 hl'))
theorem jv_iadd {x : CX} {cs sl : Nat} {T : TT} {Mi : MI} {Ml : ML} {pc : Nat} {lv : List (Option Value)} {st : List Value} {own : String} {cc : ByteArray} {d : Nat} {a b : Int32} (h : Ok x own cc d) (dc : decode cc pc = .ok (.iadd, 1)) (k : V x cs sl T Mi Ml (pc + 1) lv (.int (a + b) :: st)) : V x cs sl T Mi Ml pc lv (.int b :: .int a :: st) := by
  obtain ⟨g, p, l, e, R, s, m, args, below, meth, c, nL, Q⟩ := x
  obtain ⟨hx, hb, hml, hown, hts, hlk, hK, hSt, hz, hfr, hlo⟩ := h
  intro H locs ls hR hS hl
  exact lv_iadd hx hb dc (k H locs ls hR hS hl)
theorem jv_isub {x : CX} {cs sl : Nat} {T : TT} {Mi : MI} {Ml : ML} {pc : Nat} {lv : List (Option Value)} {st : List Value} {own : String} {cc : ByteArray} {d : Nat} {a b : Int32} (h : Ok x own cc d) (dc : decode cc pc = .ok (.isub, 1)) (k : V x cs sl T Mi Ml (pc + 1) lv (.int (a - b) :: st)) : V x cs sl T Mi Ml pc lv (.int b :: .int a :: st) := by
  obtain ⟨g, p, l, e, R, s, m, args, below, meth, c, nL, Q⟩ := x
  obtain ⟨hx, hb, hml, hown, hts, hlk, hK, hSt, hz, hfr, hlo⟩ := h
  intro H locs ls hR hS hl
  exact lv_isub hx hb dc (k H locs ls hR hS hl)
theorem jv_imul {x : CX} {cs sl : Nat} {T : TT} {Mi : MI} {Ml : ML} {pc : Nat} {lv : List (Option Value)} {st : List Value} {own : String} {cc : ByteArray} {d : Nat} {a b : Int32} (h : Ok x own cc d) (dc : decode cc pc = .ok (.imul, 1)) (k : V x cs sl T Mi Ml (pc + 1) lv (.int (a * b) :: st)) : V x cs sl T Mi Ml pc lv (.int b :: .int a :: st) := by
  obtain ⟨g, p, l, e, R, s, m, args, below, meth, c, nL, Q⟩ := x
  obtain ⟨hx, hb, hml, hown, hts, hlk, hK, hSt, hz, hfr, hlo⟩ := h
  intro H locs ls hR hS hl
  exact lv_imul hx hb dc (k H locs ls hR hS hl)
theorem jv_iand {x : CX} {cs sl : Nat} {T : TT} {Mi : MI} {Ml : ML} {pc : Nat} {lv : List (Option Value)} {st : List Value} {own : String} {cc : ByteArray} {d : Nat} {a b : Int32} (h : Ok x own cc d) (dc : decode cc pc = .ok (.iand, 1)) (k : V x cs sl T Mi Ml (pc + 1) lv (.int (a &&& b) :: st)) : V x cs sl T Mi Ml pc lv (.int b :: .int a :: st) := by
  obtain ⟨g, p, l, e, R, s, m, args, below, meth, c, nL, Q⟩ := x
  obtain ⟨hx, hb, hml, hown, hts, hlk, hK, hSt, hz, hfr, hlo⟩ := h
  intro H locs ls hR hS hl
  exact lv_iand hx hb dc (k H locs ls hR hS hl)
theorem jv_ior {x : CX} {cs sl : Nat} {T : TT} {Mi : MI} {Ml : ML} {pc : Nat} {lv : List (Option Value)} {st : List Value} {own : String} {cc : ByteArray} {d : Nat} {a b : Int32} (h : Ok x own cc d) (dc : decode cc pc = .ok (.ior, 1)) (k : V x cs sl T Mi Ml (pc + 1) lv (.int (a ||| b) :: st)) : V x cs sl T Mi Ml pc lv (.int b :: .int a :: st) := by
  obtain ⟨g, p, l, e, R, s, m, args, below, meth, c, nL, Q⟩ := x
  obtain ⟨hx, hb, hml, hown, hts, hlk, hK, hSt, hz, hfr, hlo⟩ := h
  intro H locs ls hR hS hl
  exact lv_ior hx hb dc (k H locs ls hR hS hl)
theorem jv_ixor {x : CX} {cs sl : Nat} {T : TT} {Mi : MI} {Ml : ML} {pc : Nat} {lv : List (Option Value)} {st : List Value} {own : String} {cc : ByteArray} {d : Nat} {a b : Int32} (h : Ok x own cc d) (dc : decode cc pc = .ok (.ixor, 1)) (k : V x cs sl T Mi Ml (pc + 1) lv (.int (a ^^^ b) :: st)) : V x cs sl T Mi Ml pc lv (.int b :: .int a :: st) := by
  obtain ⟨g, p, l, e, R, s, m, args, below, meth, c, nL, Q⟩ := x
  obtain ⟨hx, hb, hml, hown, hts, hlk, hK, hSt, hz, hfr, hlo⟩ := h
  intro H locs ls hR hS hl
  exact lv_ixor hx hb dc (k H locs ls hR hS hl)
theorem jv_ishl {x : CX} {cs sl : Nat} {T : TT} {Mi : MI} {Ml : ML} {pc : Nat} {lv : List (Option Value)} {st : List Value} {own : String} {cc : ByteArray} {d : Nat} {a b : Int32} (h : Ok x own cc d) (dc : decode cc pc = .ok (.ishl, 1)) (k : V x cs sl T Mi Ml (pc + 1) lv (.int (a <<< (b &&& 31)) :: st)) : V x cs sl T Mi Ml pc lv (.int b :: .int a :: st) := by
  obtain ⟨g, p, l, e, R, s, m, args, below, meth, c, nL, Q⟩ := x
  obtain ⟨hx, hb, hml, hown, hts, hlk, hK, hSt, hz, hfr, hlo⟩ := h
  intro H locs ls hR hS hl
  exact lv_ishl hx hb dc (k H locs ls hR hS hl)
theorem jv_ishr {x : CX} {cs sl : Nat} {T : TT} {Mi : MI} {Ml : ML} {pc : Nat} {lv : List (Option Value)} {st : List Value} {own : String} {cc : ByteArray} {d : Nat} {a b : Int32} (h : Ok x own cc d) (dc : decode cc pc = .ok (.ishr, 1)) (k : V x cs sl T Mi Ml (pc + 1) lv (.int (a >>> (b &&& 31)) :: st)) : V x cs sl T Mi Ml pc lv (.int b :: .int a :: st) := by
  obtain ⟨g, p, l, e, R, s, m, args, below, meth, c, nL, Q⟩ := x
  obtain ⟨hx, hb, hml, hown, hts, hlk, hK, hSt, hz, hfr, hlo⟩ := h
  intro H locs ls hR hS hl
  exact lv_ishr hx hb dc (k H locs ls hR hS hl)
theorem jv_iushr {x : CX} {cs sl : Nat} {T : TT} {Mi : MI} {Ml : ML} {pc : Nat} {lv : List (Option Value)} {st : List Value} {own : String} {cc : ByteArray} {d : Nat} {a b : Int32} (h : Ok x own cc d) (dc : decode cc pc = .ok (.iushr, 1)) (k : V x cs sl T Mi Ml (pc + 1) lv (.int ((a.toUInt32 >>> (b.toUInt32 &&& Int32.toUInt32 31)).toInt32) :: st)) : V x cs sl T Mi Ml pc lv (.int b :: .int a :: st) := by
  obtain ⟨g, p, l, e, R, s, m, args, below, meth, c, nL, Q⟩ := x
  obtain ⟨hx, hb, hml, hown, hts, hlk, hK, hSt, hz, hfr, hlo⟩ := h
  intro H locs ls hR hS hl
  exact lv_iushr hx hb dc rfl (k H locs ls hR hS hl)
theorem jv_idiv {x : CX} {cs sl : Nat} {T : TT} {Mi : MI} {Ml : ML} {pc : Nat} {lv : List (Option Value)} {st : List Value} {own : String} {cc : ByteArray} {d : Nat} {a b : Int32} (h : Ok x own cc d) (dc : decode cc pc = .ok (.idiv, 1)) (hne : ¬ b = 0) (k : V x cs sl T Mi Ml (pc + 1) lv (.int (a / b) :: st)) : V x cs sl T Mi Ml pc lv (.int b :: .int a :: st) := by
  obtain ⟨g, p, l, e, R, s, m, args, below, meth, c, nL, Q⟩ := x
  obtain ⟨hx, hb, hml, hown, hts, hlk, hK, hSt, hz, hfr, hlo⟩ := h
  intro H locs ls hR hS hl
  exact lv_idiv hx hb dc hne (k H locs ls hR hS hl)
theorem jv_irem {x : CX} {cs sl : Nat} {T : TT} {Mi : MI} {Ml : ML} {pc : Nat} {lv : List (Option Value)} {st : List Value} {own : String} {cc : ByteArray} {d : Nat} {a b : Int32} (h : Ok x own cc d) (dc : decode cc pc = .ok (.irem, 1)) (hne : ¬ b = 0) (k : V x cs sl T Mi Ml (pc + 1) lv (.int (a - a / b * b) :: st)) : V x cs sl T Mi Ml pc lv (.int b :: .int a :: st) := by
  obtain ⟨g, p, l, e, R, s, m, args, below, meth, c, nL, Q⟩ := x
  obtain ⟨hx, hb, hml, hown, hts, hlk, hK, hSt, hz, hfr, hlo⟩ := h
  intro H locs ls hR hS hl
  exact lv_irem hx hb dc hne (k H locs ls hR hS hl)
theorem jv_ladd {x : CX} {cs sl : Nat} {T : TT} {Mi : MI} {Ml : ML} {pc : Nat} {lv : List (Option Value)} {st : List Value} {own : String} {cc : ByteArray} {d : Nat} {a b : Int64} (h : Ok x own cc d) (dc : decode cc pc = .ok (.ladd, 1)) (k : V x cs sl T Mi Ml (pc + 1) lv (.long (a + b) :: st)) : V x cs sl T Mi Ml pc lv (.long b :: .long a :: st) := by
  obtain ⟨g, p, l, e, R, s, m, args, below, meth, c, nL, Q⟩ := x
  obtain ⟨hx, hb, hml, hown, hts, hlk, hK, hSt, hz, hfr, hlo⟩ := h
  intro H locs ls hR hS hl
  exact lv_ladd hx hb dc (k H locs ls hR hS hl)
theorem jv_lsub {x : CX} {cs sl : Nat} {T : TT} {Mi : MI} {Ml : ML} {pc : Nat} {lv : List (Option Value)} {st : List Value} {own : String} {cc : ByteArray} {d : Nat} {a b : Int64} (h : Ok x own cc d) (dc : decode cc pc = .ok (.lsub, 1)) (k : V x cs sl T Mi Ml (pc + 1) lv (.long (a - b) :: st)) : V x cs sl T Mi Ml pc lv (.long b :: .long a :: st) := by
  obtain ⟨g, p, l, e, R, s, m, args, below, meth, c, nL, Q⟩ := x
  obtain ⟨hx, hb, hml, hown, hts, hlk, hK, hSt, hz, hfr, hlo⟩ := h
  intro H locs ls hR hS hl
  exact lv_lsub hx hb dc (k H locs ls hR hS hl)
theorem jv_lmul {x : CX} {cs sl : Nat} {T : TT} {Mi : MI} {Ml : ML} {pc : Nat} {lv : List (Option Value)} {st : List Value} {own : String} {cc : ByteArray} {d : Nat} {a b : Int64} (h : Ok x own cc d) (dc : decode cc pc = .ok (.lmul, 1)) (k : V x cs sl T Mi Ml (pc + 1) lv (.long (a * b) :: st)) : V x cs sl T Mi Ml pc lv (.long b :: .long a :: st) := by
  obtain ⟨g, p, l, e, R, s, m, args, below, meth, c, nL, Q⟩ := x
  obtain ⟨hx, hb, hml, hown, hts, hlk, hK, hSt, hz, hfr, hlo⟩ := h
  intro H locs ls hR hS hl
  exact lv_lmul hx hb dc (k H locs ls hR hS hl)
theorem jv_land {x : CX} {cs sl : Nat} {T : TT} {Mi : MI} {Ml : ML} {pc : Nat} {lv : List (Option Value)} {st : List Value} {own : String} {cc : ByteArray} {d : Nat} {a b : Int64} (h : Ok x own cc d) (dc : decode cc pc = .ok (.land, 1)) (k : V x cs sl T Mi Ml (pc + 1) lv (.long (a &&& b) :: st)) : V x cs sl T Mi Ml pc lv (.long b :: .long a :: st) := by
  obtain ⟨g, p, l, e, R, s, m, args, below, meth, c, nL, Q⟩ := x
  obtain ⟨hx, hb, hml, hown, hts, hlk, hK, hSt, hz, hfr, hlo⟩ := h
  intro H locs ls hR hS hl
  exact lv_land hx hb dc (k H locs ls hR hS hl)
theorem jv_lor {x : CX} {cs sl : Nat} {T : TT} {Mi : MI} {Ml : ML} {pc : Nat} {lv : List (Option Value)} {st : List Value} {own : String} {cc : ByteArray} {d : Nat} {a b : Int64} (h : Ok x own cc d) (dc : decode cc pc = .ok (.lor, 1)) (k : V x cs sl T Mi Ml (pc + 1) lv (.long (a ||| b) :: st)) : V x cs sl T Mi Ml pc lv (.long b :: .long a :: st) := by
  obtain ⟨g, p, l, e, R, s, m, args, below, meth, c, nL, Q⟩ := x
  obtain ⟨hx, hb, hml, hown, hts, hlk, hK, hSt, hz, hfr, hlo⟩ := h
  intro H locs ls hR hS hl
  exact lv_lor hx hb dc (k H locs ls hR hS hl)
theorem jv_lxor {x : CX} {cs sl : Nat} {T : TT} {Mi : MI} {Ml : ML} {pc : Nat} {lv : List (Option Value)} {st : List Value} {own : String} {cc : ByteArray} {d : Nat} {a b : Int64} (h : Ok x own cc d) (dc : decode cc pc = .ok (.lxor, 1)) (k : V x cs sl T Mi Ml (pc + 1) lv (.long (a ^^^ b) :: st)) : V x cs sl T Mi Ml pc lv (.long b :: .long a :: st) := by
  obtain ⟨g, p, l, e, R, s, m, args, below, meth, c, nL, Q⟩ := x
  obtain ⟨hx, hb, hml, hown, hts, hlk, hK, hSt, hz, hfr, hlo⟩ := h
  intro H locs ls hR hS hl
  exact lv_lxor hx hb dc (k H locs ls hR hS hl)
theorem jv_lshl {x : CX} {cs sl : Nat} {T : TT} {Mi : MI} {Ml : ML} {pc : Nat} {lv : List (Option Value)} {st : List Value} {own : String} {cc : ByteArray} {d : Nat} {a : Int64} {b : Int32} (h : Ok x own cc d) (dc : decode cc pc = .ok (.lshl, 1)) (k : V x cs sl T Mi Ml (pc + 1) lv (.long (a <<< (b.toInt64 &&& 63)) :: st)) : V x cs sl T Mi Ml pc lv (.int b :: .long a :: st) := by
  obtain ⟨g, p, l, e, R, s, m, args, below, meth, c, nL, Q⟩ := x
  obtain ⟨hx, hb, hml, hown, hts, hlk, hK, hSt, hz, hfr, hlo⟩ := h
  intro H locs ls hR hS hl
  exact lv_lshl hx hb dc rfl (k H locs ls hR hS hl)
theorem jv_lshr {x : CX} {cs sl : Nat} {T : TT} {Mi : MI} {Ml : ML} {pc : Nat} {lv : List (Option Value)} {st : List Value} {own : String} {cc : ByteArray} {d : Nat} {a : Int64} {b : Int32} (h : Ok x own cc d) (dc : decode cc pc = .ok (.lshr, 1)) (k : V x cs sl T Mi Ml (pc + 1) lv (.long (a >>> (b.toInt64 &&& 63)) :: st)) : V x cs sl T Mi Ml pc lv (.int b :: .long a :: st) := by
  obtain ⟨g, p, l, e, R, s, m, args, below, meth, c, nL, Q⟩ := x
  obtain ⟨hx, hb, hml, hown, hts, hlk, hK, hSt, hz, hfr, hlo⟩ := h
  intro H locs ls hR hS hl
  exact lv_lshr hx hb dc rfl (k H locs ls hR hS hl)
theorem jv_lcmp {x : CX} {cs sl : Nat} {T : TT} {Mi : MI} {Ml : ML} {pc : Nat} {lv : List (Option Value)} {st : List Value} {own : String} {cc : ByteArray} {d : Nat} {a b : Int64} (h : Ok x own cc d) (dc : decode cc pc = .ok (.lcmp, 1)) (k : V x cs sl T Mi Ml (pc + 1) lv (.int (lg_cmp a b) :: st)) : V x cs sl T Mi Ml pc lv (.long b :: .long a :: st) := by
  obtain ⟨g, p, l, e, R, s, m, args, below, meth, c, nL, Q⟩ := x
  obtain ⟨hx, hb, hml, hown, hts, hlk, hK, hSt, hz, hfr, hlo⟩ := h
  intro H locs ls hR hS hl
  exact W.lcmp hx hb dc (k H locs ls hR hS hl)
theorem jv_i2l {x : CX} {cs sl : Nat} {T : TT} {Mi : MI} {Ml : ML} {pc : Nat} {lv : List (Option Value)} {st : List Value} {own : String} {cc : ByteArray} {d : Nat} {a : Int32} (h : Ok x own cc d) (dc : decode cc pc = .ok (.i2l, 1)) (k : V x cs sl T Mi Ml (pc + 1) lv (.long a.toInt64 :: st)) : V x cs sl T Mi Ml pc lv (.int a :: st) := by
  obtain ⟨g, p, l, e, R, s, m, args, below, meth, c, nL, Q⟩ := x
  obtain ⟨hx, hb, hml, hown, hts, hlk, hK, hSt, hz, hfr, hlo⟩ := h
  intro H locs ls hR hS hl
  exact lv_i2l hx hb dc rfl (k H locs ls hR hS hl)
theorem jv_l2i {x : CX} {cs sl : Nat} {T : TT} {Mi : MI} {Ml : ML} {pc : Nat} {lv : List (Option Value)} {st : List Value} {own : String} {cc : ByteArray} {d : Nat} {a : Int64} (h : Ok x own cc d) (dc : decode cc pc = .ok (.l2i, 1)) (k : V x cs sl T Mi Ml (pc + 1) lv (.int a.toInt32 :: st)) : V x cs sl T Mi Ml pc lv (.long a :: st) := by
  obtain ⟨g, p, l, e, R, s, m, args, below, meth, c, nL, Q⟩ := x
  obtain ⟨hx, hb, hml, hown, hts, hlk, hK, hSt, hz, hfr, hlo⟩ := h
  intro H locs ls hR hS hl
  exact lv_l2i hx hb dc rfl (k H locs ls hR hS hl)
theorem jv_i2b {x : CX} {cs sl : Nat} {T : TT} {Mi : MI} {Ml : ML} {pc : Nat} {lv : List (Option Value)} {st : List Value} {own : String} {cc : ByteArray} {d : Nat} {a : Int32} (h : Ok x own cc d) (dc : decode cc pc = .ok (.i2b, 1)) (k : V x cs sl T Mi Ml (pc + 1) lv (.int a.toInt8.toInt32 :: st)) : V x cs sl T Mi Ml pc lv (.int a :: st) := by
  obtain ⟨g, p, l, e, R, s, m, args, below, meth, c, nL, Q⟩ := x
  obtain ⟨hx, hb, hml, hown, hts, hlk, hK, hSt, hz, hfr, hlo⟩ := h
  intro H locs ls hR hS hl
  exact lv_i2b hx hb dc rfl (k H locs ls hR hS hl)
theorem jv_i2s {x : CX} {cs sl : Nat} {T : TT} {Mi : MI} {Ml : ML} {pc : Nat} {lv : List (Option Value)} {st : List Value} {own : String} {cc : ByteArray} {d : Nat} {a : Int32} (h : Ok x own cc d) (dc : decode cc pc = .ok (.i2s, 1)) (k : V x cs sl T Mi Ml (pc + 1) lv (.int a.toInt16.toInt32 :: st)) : V x cs sl T Mi Ml pc lv (.int a :: st) := by
  obtain ⟨g, p, l, e, R, s, m, args, below, meth, c, nL, Q⟩ := x
  obtain ⟨hx, hb, hml, hown, hts, hlk, hK, hSt, hz, hfr, hlo⟩ := h
  intro H locs ls hR hS hl
  exact lv_i2s hx hb dc rfl (k H locs ls hR hS hl)
theorem jv_i2c {x : CX} {cs sl : Nat} {T : TT} {Mi : MI} {Ml : ML} {pc : Nat} {lv : List (Option Value)} {st : List Value} {own : String} {cc : ByteArray} {d : Nat} {a : Int32} (h : Ok x own cc d) (dc : decode cc pc = .ok (.i2c, 1)) (k : V x cs sl T Mi Ml (pc + 1) lv (.int (a.toUInt32 % 65536).toInt32 :: st)) : V x cs sl T Mi Ml pc lv (.int a :: st) := by
  obtain ⟨g, p, l, e, R, s, m, args, below, meth, c, nL, Q⟩ := x
  obtain ⟨hx, hb, hml, hown, hts, hlk, hK, hSt, hz, hfr, hlo⟩ := h
  intro H locs ls hR hS hl
  exact lv_i2c hx hb dc rfl (k H locs ls hR hS hl)
theorem jv_dup {x : CX} {cs sl : Nat} {T : TT} {Mi : MI} {Ml : ML} {pc : Nat} {lv : List (Option Value)} {st : List Value} {own : String} {cc : ByteArray} {d : Nat} {a : Value} (h : Ok x own cc d) (dc : decode cc pc = .ok (.dup, 1)) (hc : a.category = 1) (k : V x cs sl T Mi Ml (pc + 1) lv (a :: a :: st)) : V x cs sl T Mi Ml pc lv (a :: st) := by
  obtain ⟨g, p, l, e, R, s, m, args, below, meth, c, nL, Q⟩ := x
  obtain ⟨hx, hb, hml, hown, hts, hlk, hK, hSt, hz, hfr, hlo⟩ := h
  intro H locs ls hR hS hl
  exact lv_dup hx hb dc hc (k H locs ls hR hS hl)
theorem jv_pop {x : CX} {cs sl : Nat} {T : TT} {Mi : MI} {Ml : ML} {pc : Nat} {lv : List (Option Value)} {st : List Value} {own : String} {cc : ByteArray} {d : Nat} {a : Value} (h : Ok x own cc d) (dc : decode cc pc = .ok (.pop, 1)) (hc : a.category = 1) (k : V x cs sl T Mi Ml (pc + 1) lv st) : V x cs sl T Mi Ml pc lv (a :: st) := by
  obtain ⟨g, p, l, e, R, s, m, args, below, meth, c, nL, Q⟩ := x
  obtain ⟨hx, hb, hml, hown, hts, hlk, hK, hSt, hz, hfr, hlo⟩ := h
  intro H locs ls hR hS hl
  exact lv_pop hx hb dc hc (k H locs ls hR hS hl)
theorem jv_dup2 {x : CX} {cs sl : Nat} {T : TT} {Mi : MI} {Ml : ML} {pc : Nat} {lv : List (Option Value)} {st : List Value} {own : String} {cc : ByteArray} {d : Nat} {a b : Value} (h : Ok x own cc d) (dc : decode cc pc = .ok (.dup2, 1)) (hc : a.category = 1) (hd : b.category = 1) (k : V x cs sl T Mi Ml (pc + 1) lv (a :: b :: a :: b :: st)) : V x cs sl T Mi Ml pc lv (a :: b :: st) := by
  obtain ⟨g, p, l, e, R, s, m, args, below, meth, c, nL, Q⟩ := x
  obtain ⟨hx, hb, hml, hown, hts, hlk, hK, hSt, hz, hfr, hlo⟩ := h
  intro H locs ls hR hS hl
  exact lv_dup2_11 hx hb dc hc hd (k H locs ls hR hS hl)
theorem jv_iinc {x : CX} {cs sl : Nat} {T : TT} {Mi : MI} {Ml : ML} {pc : Nat} {lv : List (Option Value)} {st : List Value} {own : String} {cc : ByteArray} {d : Nat} {i : Nat} {n : Int} {a : Int32} (v : Int32) (h : Ok x own cc d) (dc : decode cc pc = .ok (.iinc i n, 3)) (hv : lget lv i = some (.int a)) (hn : i < x.2.2.2.2.2.2.2.2.2.2.2.1) (he : a + Int32.ofInt n = v) (k : V x cs sl T Mi Ml (pc + 3) (lst1 lv i (.int v)) st) : V x cs sl T Mi Ml pc lv st := by
  obtain ⟨g, p, l, e, R, s, m, args, below, meth, c, nL, Q⟩ := x
  obtain ⟨hx, hb, hml, hown, hts, hlk, hK, hSt, hz, hfr, hlo⟩ := h
  intro H locs ls hR hS hl
  obtain ⟨j, hj⟩ := List.getElem?_of_mem ((lpr_mem lv (i, .int a)).mpr hv)
  exact lv_iinc hx hb dc (lh_has hl) hj he hn rfl (fun ls' hl' => k H locs ls' hR hS (lh_st1 hl'))
theorem jv_goto {x : CX} {cs sl : Nat} {T : TT} {Mi : MI} {Ml : ML} {pc : Nat} {lv : List (Option Value)} {st : List Value} {own : String} {cc : ByteArray} {d : Nat} {off : Int} (tgt : Nat) (h : Ok x own cc d) (dc : decode cc pc = .ok (.goto off, 3)) (ht : (pc : Int) + off = (tgt : Int)) (k : V x cs sl T Mi Ml tgt lv st) : V x cs sl T Mi Ml pc lv st := by
  obtain ⟨g, p, l, e, R, s, m, args, below, meth, c, nL, Q⟩ := x
  obtain ⟨hx, hb, hml, hown, hts, hlk, hK, hSt, hz, hfr, hlo⟩ := h
  intro H locs ls hR hS hl
  exact lv_goto hx hb dc ht (k H locs ls hR hS hl)
theorem jv_icmp_eq {x : CX} {cs sl : Nat} {T : TT} {Mi : MI} {Ml : ML} {pc : Nat} {lv : List (Option Value)} {st : List Value} {own : String} {cc : ByteArray} {d : Nat} {off : Int} {a b : Int32} (tgt : Nat) (h : Ok x own cc d) (dc : decode cc pc = .ok (.if_icmp .eq off, 3)) (ht : (pc : Int) + off = (tgt : Int)) (kt : a = b → V x cs sl T Mi Ml tgt lv st) (kf : ¬ a = b → V x cs sl T Mi Ml (pc + 3) lv st) : V x cs sl T Mi Ml pc lv (.int b :: .int a :: st) := by
  obtain ⟨g, p, l, e, R, s, m, args, below, meth, c, nL, Q⟩ := x
  obtain ⟨hx, hb, hml, hown, hts, hlk, hK, hSt, hz, hfr, hlo⟩ := h
  intro H locs ls hR hS hl
  exact lv_icmp_eq hx hb dc ht (fun q => kt q H locs ls hR hS hl) (fun q => kf q H locs ls hR hS hl)
theorem jv_if_eq {x : CX} {cs sl : Nat} {T : TT} {Mi : MI} {Ml : ML} {pc : Nat} {lv : List (Option Value)} {st : List Value} {own : String} {cc : ByteArray} {d : Nat} {off : Int} {a : Int32} (tgt : Nat) (h : Ok x own cc d) (dc : decode cc pc = .ok (.ifCond .eq off, 3)) (ht : (pc : Int) + off = (tgt : Int)) (kt : a = 0 → V x cs sl T Mi Ml tgt lv st) (kf : ¬ a = 0 → V x cs sl T Mi Ml (pc + 3) lv st) : V x cs sl T Mi Ml pc lv (.int a :: st) := by
  obtain ⟨g, p, l, e, R, s, m, args, below, meth, c, nL, Q⟩ := x
  obtain ⟨hx, hb, hml, hown, hts, hlk, hK, hSt, hz, hfr, hlo⟩ := h
  intro H locs ls hR hS hl
  exact lv_if_eq hx hb dc ht (fun q => kt q H locs ls hR hS hl) (fun q => kf q H locs ls hR hS hl)
theorem jv_icmp_ne {x : CX} {cs sl : Nat} {T : TT} {Mi : MI} {Ml : ML} {pc : Nat} {lv : List (Option Value)} {st : List Value} {own : String} {cc : ByteArray} {d : Nat} {off : Int} {a b : Int32} (tgt : Nat) (h : Ok x own cc d) (dc : decode cc pc = .ok (.if_icmp .ne off, 3)) (ht : (pc : Int) + off = (tgt : Int)) (kt : ¬ a = b → V x cs sl T Mi Ml tgt lv st) (kf : a = b → V x cs sl T Mi Ml (pc + 3) lv st) : V x cs sl T Mi Ml pc lv (.int b :: .int a :: st) := by
  obtain ⟨g, p, l, e, R, s, m, args, below, meth, c, nL, Q⟩ := x
  obtain ⟨hx, hb, hml, hown, hts, hlk, hK, hSt, hz, hfr, hlo⟩ := h
  intro H locs ls hR hS hl
  exact lv_icmp_ne hx hb dc ht (fun q => kt q H locs ls hR hS hl) (fun q => kf q H locs ls hR hS hl)
theorem jv_if_ne {x : CX} {cs sl : Nat} {T : TT} {Mi : MI} {Ml : ML} {pc : Nat} {lv : List (Option Value)} {st : List Value} {own : String} {cc : ByteArray} {d : Nat} {off : Int} {a : Int32} (tgt : Nat) (h : Ok x own cc d) (dc : decode cc pc = .ok (.ifCond .ne off, 3)) (ht : (pc : Int) + off = (tgt : Int)) (kt : ¬ a = 0 → V x cs sl T Mi Ml tgt lv st) (kf : a = 0 → V x cs sl T Mi Ml (pc + 3) lv st) : V x cs sl T Mi Ml pc lv (.int a :: st) := by
  obtain ⟨g, p, l, e, R, s, m, args, below, meth, c, nL, Q⟩ := x
  obtain ⟨hx, hb, hml, hown, hts, hlk, hK, hSt, hz, hfr, hlo⟩ := h
  intro H locs ls hR hS hl
  exact lv_if_ne hx hb dc ht (fun q => kt q H locs ls hR hS hl) (fun q => kf q H locs ls hR hS hl)
theorem jv_icmp_lt {x : CX} {cs sl : Nat} {T : TT} {Mi : MI} {Ml : ML} {pc : Nat} {lv : List (Option Value)} {st : List Value} {own : String} {cc : ByteArray} {d : Nat} {off : Int} {a b : Int32} (tgt : Nat) (h : Ok x own cc d) (dc : decode cc pc = .ok (.if_icmp .lt off, 3)) (ht : (pc : Int) + off = (tgt : Int)) (kt : a < b → V x cs sl T Mi Ml tgt lv st) (kf : ¬ a < b → V x cs sl T Mi Ml (pc + 3) lv st) : V x cs sl T Mi Ml pc lv (.int b :: .int a :: st) := by
  obtain ⟨g, p, l, e, R, s, m, args, below, meth, c, nL, Q⟩ := x
  obtain ⟨hx, hb, hml, hown, hts, hlk, hK, hSt, hz, hfr, hlo⟩ := h
  intro H locs ls hR hS hl
  exact lv_icmp_lt hx hb dc ht (fun q => kt q H locs ls hR hS hl) (fun q => kf q H locs ls hR hS hl)
theorem jv_if_lt {x : CX} {cs sl : Nat} {T : TT} {Mi : MI} {Ml : ML} {pc : Nat} {lv : List (Option Value)} {st : List Value} {own : String} {cc : ByteArray} {d : Nat} {off : Int} {a : Int32} (tgt : Nat) (h : Ok x own cc d) (dc : decode cc pc = .ok (.ifCond .lt off, 3)) (ht : (pc : Int) + off = (tgt : Int)) (kt : a < 0 → V x cs sl T Mi Ml tgt lv st) (kf : ¬ a < 0 → V x cs sl T Mi Ml (pc + 3) lv st) : V x cs sl T Mi Ml pc lv (.int a :: st) := by
  obtain ⟨g, p, l, e, R, s, m, args, below, meth, c, nL, Q⟩ := x
  obtain ⟨hx, hb, hml, hown, hts, hlk, hK, hSt, hz, hfr, hlo⟩ := h
  intro H locs ls hR hS hl
  exact lv_if_lt hx hb dc ht (fun q => kt q H locs ls hR hS hl) (fun q => kf q H locs ls hR hS hl)
theorem jv_icmp_ge {x : CX} {cs sl : Nat} {T : TT} {Mi : MI} {Ml : ML} {pc : Nat} {lv : List (Option Value)} {st : List Value} {own : String} {cc : ByteArray} {d : Nat} {off : Int} {a b : Int32} (tgt : Nat) (h : Ok x own cc d) (dc : decode cc pc = .ok (.if_icmp .ge off, 3)) (ht : (pc : Int) + off = (tgt : Int)) (kt : b ≤ a → V x cs sl T Mi Ml tgt lv st) (kf : ¬ b ≤ a → V x cs sl T Mi Ml (pc + 3) lv st) : V x cs sl T Mi Ml pc lv (.int b :: .int a :: st) := by
  obtain ⟨g, p, l, e, R, s, m, args, below, meth, c, nL, Q⟩ := x
  obtain ⟨hx, hb, hml, hown, hts, hlk, hK, hSt, hz, hfr, hlo⟩ := h
  intro H locs ls hR hS hl
  exact lv_icmp_ge hx hb dc ht (fun q => kt q H locs ls hR hS hl) (fun q => kf q H locs ls hR hS hl)
theorem jv_if_ge {x : CX} {cs sl : Nat} {T : TT} {Mi : MI} {Ml : ML} {pc : Nat} {lv : List (Option Value)} {st : List Value} {own : String} {cc : ByteArray} {d : Nat} {off : Int} {a : Int32} (tgt : Nat) (h : Ok x own cc d) (dc : decode cc pc = .ok (.ifCond .ge off, 3)) (ht : (pc : Int) + off = (tgt : Int)) (kt : 0 ≤ a → V x cs sl T Mi Ml tgt lv st) (kf : ¬ 0 ≤ a → V x cs sl T Mi Ml (pc + 3) lv st) : V x cs sl T Mi Ml pc lv (.int a :: st) := by
  obtain ⟨g, p, l, e, R, s, m, args, below, meth, c, nL, Q⟩ := x
  obtain ⟨hx, hb, hml, hown, hts, hlk, hK, hSt, hz, hfr, hlo⟩ := h
  intro H locs ls hR hS hl
  exact lv_if_ge hx hb dc ht (fun q => kt q H locs ls hR hS hl) (fun q => kf q H locs ls hR hS hl)
theorem jv_icmp_gt {x : CX} {cs sl : Nat} {T : TT} {Mi : MI} {Ml : ML} {pc : Nat} {lv : List (Option Value)} {st : List Value} {own : String} {cc : ByteArray} {d : Nat} {off : Int} {a b : Int32} (tgt : Nat) (h : Ok x own cc d) (dc : decode cc pc = .ok (.if_icmp .gt off, 3)) (ht : (pc : Int) + off = (tgt : Int)) (kt : b < a → V x cs sl T Mi Ml tgt lv st) (kf : ¬ b < a → V x cs sl T Mi Ml (pc + 3) lv st) : V x cs sl T Mi Ml pc lv (.int b :: .int a :: st) := by
  obtain ⟨g, p, l, e, R, s, m, args, below, meth, c, nL, Q⟩ := x
  obtain ⟨hx, hb, hml, hown, hts, hlk, hK, hSt, hz, hfr, hlo⟩ := h
  intro H locs ls hR hS hl
  exact lv_icmp_gt hx hb dc ht (fun q => kt q H locs ls hR hS hl) (fun q => kf q H locs ls hR hS hl)
theorem jv_if_gt {x : CX} {cs sl : Nat} {T : TT} {Mi : MI} {Ml : ML} {pc : Nat} {lv : List (Option Value)} {st : List Value} {own : String} {cc : ByteArray} {d : Nat} {off : Int} {a : Int32} (tgt : Nat) (h : Ok x own cc d) (dc : decode cc pc = .ok (.ifCond .gt off, 3)) (ht : (pc : Int) + off = (tgt : Int)) (kt : 0 < a → V x cs sl T Mi Ml tgt lv st) (kf : ¬ 0 < a → V x cs sl T Mi Ml (pc + 3) lv st) : V x cs sl T Mi Ml pc lv (.int a :: st) := by
  obtain ⟨g, p, l, e, R, s, m, args, below, meth, c, nL, Q⟩ := x
  obtain ⟨hx, hb, hml, hown, hts, hlk, hK, hSt, hz, hfr, hlo⟩ := h
  intro H locs ls hR hS hl
  exact lv_if_gt hx hb dc ht (fun q => kt q H locs ls hR hS hl) (fun q => kf q H locs ls hR hS hl)
theorem jv_icmp_le {x : CX} {cs sl : Nat} {T : TT} {Mi : MI} {Ml : ML} {pc : Nat} {lv : List (Option Value)} {st : List Value} {own : String} {cc : ByteArray} {d : Nat} {off : Int} {a b : Int32} (tgt : Nat) (h : Ok x own cc d) (dc : decode cc pc = .ok (.if_icmp .le off, 3)) (ht : (pc : Int) + off = (tgt : Int)) (kt : a ≤ b → V x cs sl T Mi Ml tgt lv st) (kf : ¬ a ≤ b → V x cs sl T Mi Ml (pc + 3) lv st) : V x cs sl T Mi Ml pc lv (.int b :: .int a :: st) := by
  obtain ⟨g, p, l, e, R, s, m, args, below, meth, c, nL, Q⟩ := x
  obtain ⟨hx, hb, hml, hown, hts, hlk, hK, hSt, hz, hfr, hlo⟩ := h
  intro H locs ls hR hS hl
  exact lv_icmp_le hx hb dc ht (fun q => kt q H locs ls hR hS hl) (fun q => kf q H locs ls hR hS hl)
theorem jv_if_le {x : CX} {cs sl : Nat} {T : TT} {Mi : MI} {Ml : ML} {pc : Nat} {lv : List (Option Value)} {st : List Value} {own : String} {cc : ByteArray} {d : Nat} {off : Int} {a : Int32} (tgt : Nat) (h : Ok x own cc d) (dc : decode cc pc = .ok (.ifCond .le off, 3)) (ht : (pc : Int) + off = (tgt : Int)) (kt : a ≤ 0 → V x cs sl T Mi Ml tgt lv st) (kf : ¬ a ≤ 0 → V x cs sl T Mi Ml (pc + 3) lv st) : V x cs sl T Mi Ml pc lv (.int a :: st) := by
  obtain ⟨g, p, l, e, R, s, m, args, below, meth, c, nL, Q⟩ := x
  obtain ⟨hx, hb, hml, hown, hts, hlk, hK, hSt, hz, hfr, hlo⟩ := h
  intro H locs ls hR hS hl
  exact lv_if_le hx hb dc ht (fun q => kt q H locs ls hR hS hl) (fun q => kf q H locs ls hR hS hl)
theorem jv_tabIn {x : CX} {cs sl : Nat} {T : TT} {Mi : MI} {Ml : ML} {pc : Nat} {lv : List (Option Value)} {st : List Value} {own : String} {cc : ByteArray} {d : Nat} {dflt lo hi : Int} {offs : Array Int} {len : Nat} {a : Int32} {off : Int} (tgt : Nat) (h : Ok x own cc d) (dc : decode cc pc = .ok (.tableswitch dflt lo hi offs, len)) (h1 : ¬ a.toInt < lo) (h2 : ¬ hi < a.toInt) (ho : offs[(a.toInt - lo).toNat]? = some off) (ht : (pc : Int) + off = (tgt : Int)) (k : V x cs sl T Mi Ml tgt lv st) : V x cs sl T Mi Ml pc lv (.int a :: st) := by
  obtain ⟨g, p, l, e, R, s, m, args, below, meth, c, nL, Q⟩ := x
  obtain ⟨hx, hb, hml, hown, hts, hlk, hK, hSt, hz, hfr, hlo⟩ := h
  intro H locs ls hR hS hl
  exact lv_tableIn hx hb dc h1 h2 ho ht (k H locs ls hR hS hl)
theorem jv_tabOut {x : CX} {cs sl : Nat} {T : TT} {Mi : MI} {Ml : ML} {pc : Nat} {lv : List (Option Value)} {st : List Value} {own : String} {cc : ByteArray} {d : Nat} {dflt lo hi : Int} {offs : Array Int} {len : Nat} {a : Int32} (tgt : Nat) (h : Ok x own cc d) (dc : decode cc pc = .ok (.tableswitch dflt lo hi offs, len)) (h1 : a.toInt < lo ∨ hi < a.toInt) (ht : (pc : Int) + dflt = (tgt : Int)) (k : V x cs sl T Mi Ml tgt lv st) : V x cs sl T Mi Ml pc lv (.int a :: st) := by
  obtain ⟨g, p, l, e, R, s, m, args, below, meth, c, nL, Q⟩ := x
  obtain ⟨hx, hb, hml, hown, hts, hlk, hK, hSt, hz, hfr, hlo⟩ := h
  intro H locs ls hR hS hl
  exact lv_tableOut hx hb dc h1 ht (k H locs ls hR hS hl)
theorem Qp_end {g : GT} {T : TT} {Mi : MI} {Ml : ML} {s t : State} {H : Heap} {locs : List Loc} {post : Option Value → TT → MI → ML → Prop} {r : Option Value} {args : Array Value} (hR : RepH g T Mi Ml H) (hS : va_S (gO g) s.heap H locs) (hK : va_K (gD g) vwCl (gT g) s) (hSt : St g s s.heap) (hp : post r T Mi Ml) (ht : t.heap = H) (hW : s.WarmedH t.vm) : Qp g post args s (.returned r) t :=
  ⟨⟨r, T, Mi, Ml, rfl, hp, by rw [ht]; exact hR, va_K.moved hW.alike hK, (hSt.warm hW).kept (by rw [ht]; exact hS.2.1)⟩, hS.F ht⟩
theorem jv_iret {x : CX} {cs sl : Nat} {T : TT} {Mi : MI} {Ml : ML} {pc : Nat} {lv : List (Option Value)} {own : String} {cc : ByteArray} {d : Nat} {post : Option Value → TT → MI → ML → Prop} {v : Int32} (h : Ok x own cc d) (hr : Rt x cs sl (some .int) post) (dc : decode cc pc = .ok (.ireturn, 1)) (hp : post (some (.int v)) T Mi Ml) : V x cs sl T Mi Ml pc lv [(.int v)] := by
  obtain ⟨g, p, l, e, R, s, m, args, below, meth, c, nL, Q⟩ := x
  obtain ⟨hx, hb, hml, hown, hts, hlk, hK, hSt, hz, hfr, hlo⟩ := h
  intro H locs ls hR hS hl
  obtain ⟨hr1, rfl⟩ := hr
  exact W.iret hx hb hr1 (fun t ht hW => Qp_end hR hS hK hSt hp ht hW) (fun q hq => hS.2.2 q hq) dc
theorem jv_lret {x : CX} {cs sl : Nat} {T : TT} {Mi : MI} {Ml : ML} {pc : Nat} {lv : List (Option Value)} {own : String} {cc : ByteArray} {d : Nat} {post : Option Value → TT → MI → ML → Prop} {v : Int64} (h : Ok x own cc d) (hr : Rt x cs sl (some .long) post) (dc : decode cc pc = .ok (.lreturn, 1)) (hp : post (some (.long v)) T Mi Ml) : V x cs sl T Mi Ml pc lv [(.long v)] := by
  obtain ⟨g, p, l, e, R, s, m, args, below, meth, c, nL, Q⟩ := x
  obtain ⟨hx, hb, hml, hown, hts, hlk, hK, hSt, hz, hfr, hlo⟩ := h
  intro H locs ls hR hS hl
  obtain ⟨hr1, rfl⟩ := hr
  exact W.lret hx hb hr1 (fun t ht hW => Qp_end hR hS hK hSt hp ht hW) (fun q hq => hS.2.2 q hq) dc
theorem jv_zret {x : CX} {cs sl : Nat} {T : TT} {Mi : MI} {Ml : ML} {pc : Nat} {lv : List (Option Value)} {own : String} {cc : ByteArray} {d : Nat} {post : Option Value → TT → MI → ML → Prop} {v : Int32} {ty : FieldType} (h : Ok x own cc d) (hr : Rt x cs sl (some ty) post) (dc : decode cc pc = .ok (.ireturn, 1)) (hn : narrow ty (.int v) = .int v) (hp : post (some (.int v)) T Mi Ml) : V x cs sl T Mi Ml pc lv [.int v] := by
  obtain ⟨g, p, l, e, R, s, m, args, below, meth, c, nL, Q⟩ := x
  obtain ⟨hx, hb, hml, hown, hts, hlk, hK, hSt, hz, hfr, hlo⟩ := h
  intro H locs ls hR hS hl
  obtain ⟨hr1, rfl⟩ := hr
  exact W.zret hx hb hr1 hn (fun t ht hW => Qp_end hR hS hK hSt hp ht hW) (fun q hq => hS.2.2 q hq) dc
theorem jv_vret {x : CX} {cs sl : Nat} {T : TT} {Mi : MI} {Ml : ML} {pc : Nat} {lv : List (Option Value)} {own : String} {cc : ByteArray} {d : Nat} {post : Option Value → TT → MI → ML → Prop} (h : Ok x own cc d) (hr : Rt x cs sl none post) (dc : decode cc pc = .ok (.return_, 1)) (hp : post none T Mi Ml) : V x cs sl T Mi Ml pc lv [] := by
  obtain ⟨g, p, l, e, R, s, m, args, below, meth, c, nL, Q⟩ := x
  obtain ⟨hx, hb, hml, hown, hts, hlk, hK, hSt, hz, hfr, hlo⟩ := h
  intro H locs ls hR hS hl
  obtain ⟨hr1, rfl⟩ := hr
  exact W.vret hx hb hr1 (fun t ht hW => Qp_end hR hS hK hSt hp ht hW) (fun q hq => hS.2.2 q hq) dc
theorem jv_widen {x : CX} {cs sl : Nat} {T : TT} {Mi : MI} {Ml : ML} {pc : Nat} {lv : List (Option Value)} {st : List Value}  {cs' sl' : Nat} (h1 : cs ≤ cs') (h2 : sl ≤ sl') (k : V x cs' sl' T Mi Ml pc lv st) : V x cs sl T Mi Ml pc lv st := by
  obtain ⟨g, p, l, e, R, s, m, args, below, meth, c, nL, Q⟩ := x
  intro H locs ls hR hS hl
  exact W.widen h1 h2 (k H locs ls hR hS hl)
