/-! WHAT IS STATIC: the kinds -/
section SV
variable {x : CX} {cs sl : Nat} {T : TT} {Mi : MI} {Ml : ML} {pc : Nat} {lv : List (Option Value)} {st : List Value} {own : String} {cc : ByteArray} {d idx : Nat}
theorem jv_plain (h : Ok x own cc d) (dc : decode cc pc = .ok (.getstatic idx, 3)) (hw : Cond.fieldLink own idx "DayBelt$Kind" "PLAIN" "LDayBelt$Kind;" ∈ lw_good) (kk : V x cs sl T Mi Ml (pc + 3) lv (.ref (gE x.1 0) :: st)) : V x cs sl T Mi Ml pc lv st := by
  obtain ⟨g, p, l, e, R, s, m, args, below, meth, c, nL, Q⟩ := x
  obtain ⟨hx, hb, hml, hown, hts, hlk, hK, hSt, hz, hfr, hlo⟩ := h
  intro H locs ls hR hS hl
  exact va_gets hx hb (hSt.1.1 0 (by decide)).1 hS hown (hts _ hw) (fun _ q => q) dc (kk H locs ls hR hS hl)
theorem jv_kinds (h : Ok x own cc d) (dc : decode cc pc = .ok (.getstatic idx, 3)) (hw : Cond.fieldLink own idx "DayBelt" "KINDS" "[LDayBelt$Kind;" ∈ lw_good) (kk : V x cs sl T Mi Ml (pc + 3) lv (.ref (gK x.1) :: st)) : V x cs sl T Mi Ml pc lv st := by
  obtain ⟨g, p, l, e, R, s, m, args, below, meth, c, nL, Q⟩ := x
  obtain ⟨hx, hb, hml, hown, hts, hlk, hK, hSt, hz, hfr, hlo⟩ := h
  intro H locs ls hR hS hl
  exact va_gets hx hb hSt.2.1 hS hown (hts _ hw) (fun _ q => q) dc (kk H locs ls hR hS hl)
theorem jv_kindsN (h : Ok x own cc d) (dc : decode cc pc = .ok (.getstatic idx, 3)) (hw : Cond.fieldLinkNest own idx "DayBelt" "KINDS" "[LDayBelt$Kind;" "DayBelt" ∈ lw_nest) (kk : V x cs sl T Mi Ml (pc + 3) lv (.ref (gK x.1) :: st)) : V x cs sl T Mi Ml pc lv st := by
  obtain ⟨g, p, l, e, R, s, m, args, below, meth, c, nL, Q⟩ := x
  obtain ⟨hx, hb, hml, hown, hts, hlk, hK, hSt, hz, hfr, hlo⟩ := h
  intro H locs ls hR hS hl
  exact va_getsN hx hb hSt.2.1 hS hown (va_Nw.use rfl (hSt.2.2.2.2.2.2.1 _ hw)) (fun _ q => q) dc (kk H locs ls hR hS hl)
theorem jv_klen (h : Ok x own cc d) (dc : decode cc pc = .ok (.arraylength, 1)) (kk : V x cs sl T Mi Ml (pc + 1) lv (.int (nI 5) :: st)) : V x cs sl T Mi Ml pc lv (.ref (gK x.1) :: st) := by
  obtain ⟨g, p, l, e, R, s, m, args, below, meth, c, nL, Q⟩ := x
  obtain ⟨hx, hb, hml, hown, hts, hlk, hK, hSt, hz, hfr, hlo⟩ := h
  intro H locs ls hR hS hl
  exact va_tlen hx hb hSt.2.2.1 hS rfl dc (kk H locs ls hR hS hl)
theorem jv_kald {i : Int32} {j : Nat} (h : Ok x own cc d) (dc : decode cc pc = .ok (.aaload, 1)) (hi : NF i j) (hj : j < 5) (kk : V x cs sl T Mi Ml (pc + 1) lv (.ref (gE x.1 j) :: st)) : V x cs sl T Mi Ml pc lv (.int i :: .ref (gK x.1) :: st) := by
  obtain ⟨g, p, l, e, R, s, m, args, below, meth, c, nL, Q⟩ := x
  obtain ⟨hx, hb, hml, hown, hts, hlk, hK, hSt, hz, hfr, hlo⟩ := h
  intro H locs ls hR hS hl
  obtain ⟨cell, h1, h2, h3, h4, h5, h6, h7⟩ := hSt.2.2.1
  have hlt : (gK g) < s.heap.size := (Array.getElem?_eq_some_iff.mp h1).1
  rw [hi]
  refine W.aald (v := .ref (gE g j)) (ty := .object "DayBelt$Kind") hx hb (cell := cell) (by rw [hS.2.1 _ hlt h7]; exact h1) h2 rfl h3 ?_ ?_ rfl rfl dc (kk H locs ls hR hS hl)
  · rw [nI_clamp (by omega)]
    intro q
    rcases q with q | q
    · exact nI_pos (show j < 2 ^ 31 by omega) q
    · omega
  · rw [nI_clamp (by omega)]
    exact h6 j hj
end SV
