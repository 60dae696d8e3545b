/-! THE LETTERS OF THE KINDS: rows for the string -/
def kb (j : Nat) : Nat := if j = 0 then 112 else if j = 1 then 115 else if j = 2 then 104 else if j = 3 then 107 else 97
def kiN (k : Nat) : Nat := if k = 112 then 0 else if k = 115 then 1 else if k = 104 then 2 else if k = 107 then 3 else if k = 97 then 4 else 5
theorem kb_ki {j k : Nat} (hj : j < 5) (h : kb j = k) : kiN k = j := by
  subst h
  rcases (show j = 0 ∨ j = 1 ∨ j = 2 ∨ j = 3 ∨ j = 4 by omega) with rfl | rfl | rfl | rfl | rfl <;> decide
theorem kb_no {k : Nat} (h : ∀ j, j < 5 → kb j ≠ k) : kiN k = 5 := by
  have h0 : (112 : Nat) ≠ k := h 0 (by decide)
  have h1 : (115 : Nat) ≠ k := h 1 (by decide)
  have h2 : (104 : Nat) ≠ k := h 2 (by decide)
  have h3 : (107 : Nat) ≠ k := h 3 (by decide)
  have h4 : (97 : Nat) ≠ k := h 4 (by decide)
  unfold kiN
  rw [if_neg (Ne.symm h0), if_neg (Ne.symm h1), if_neg (Ne.symm h2), if_neg (Ne.symm h3), if_neg (Ne.symm h4)]
theorem i2b_id {k : Nat} (hk : k < 128) : (nI k).toInt8.toInt32 = nI k := by
  have key : ∀ k : Fin 128, (nI k.val).toInt8.toInt32 = nI k.val := by decide +kernel
  exact key ⟨k, hk⟩
theorem i2c_id {k : Nat} (hk : k < 128) : ((nI k).toUInt32 % 65536).toInt32 = nI k := by
  have key : ∀ k : Fin 128, ((nI k.val).toUInt32 % 65536).toInt32 = nI k.val := by decide +kernel
  exact key ⟨k, hk⟩
section SR
variable {x : CX} {cs sl : Nat} {T : TT} {Mi : MI} {Ml : ML} {pc : Nat} {lv : List (Option Value)} {st : List Value} {own : String} {cc : ByteArray} {d idx : Nat}
theorem jv_ldcS (h : Ok x "DayBelt$Tape" cc d) (dc : decode cc pc = .ok (.ldc kS_idx, 2)) (kk : V x cs sl T Mi Ml (pc + 2) lv (.ref (gS x.1) :: st)) : V x cs sl T Mi Ml pc lv st := by
  obtain ⟨g, p, l, e, R, s, m, args, below, meth, c, nL, Q⟩ := x
  obtain ⟨hx, hb, hml, hown, hts, hlk, hK, hSt, hz, hfr, hlo⟩ := h
  intro H locs ls hR hS hl
  exact va_ldcS hx hb hown hSt.2.2.2.2.2.1 dc (kk H locs ls hR hS hl)
theorem jv_sval (h : Ok x own cc d) (dc : decode cc pc = .ok (.getfield idx, 3)) (hw : Cond.fieldLink own idx "java/lang/String" "value" "[B" ∈ lw_good) (kk : V x cs sl T Mi Ml (pc + 3) lv (.ref (gB x.1) :: st)) : V x cs sl T Mi Ml pc lv (.ref (gS x.1) :: st) := by
  obtain ⟨g, p, l, e, R, s, m, args, below, meth, c, nL, Q⟩ := x
  obtain ⟨hx, hb, hml, hown, hts, hlk, hK, hSt, hz, hfr, hlo⟩ := h
  intro H locs ls hR hS hl
  exact vk_getf hx hb (hSt.2.2.2.1.1 0 (by decide)).2.2.1 hS hown (hts _ hw) (fun _ q => q) dc (kk H locs ls hR hS hl)
theorem jv_scod (h : Ok x own cc d) (dc : decode cc pc = .ok (.getfield idx, 3)) (hw : Cond.fieldLink own idx "java/lang/String" "coder" "B" ∈ lw_good) (kk : V x cs sl T Mi Ml (pc + 3) lv (.int 0 :: st)) : V x cs sl T Mi Ml pc lv (.ref (gS x.1) :: st) := by
  obtain ⟨g, p, l, e, R, s, m, args, below, meth, c, nL, Q⟩ := x
  obtain ⟨hx, hb, hml, hown, hts, hlk, hK, hSt, hz, hfr, hlo⟩ := h
  intro H locs ls hR hS hl
  exact vk_getf hx hb (hSt.2.2.2.1.1 0 (by decide)).2.1 hS hown (hts _ hw) (fun _ q => q) dc (kk H locs ls hR hS hl)
theorem jv_comp (h : Ok x own cc d) (dc : decode cc pc = .ok (.getstatic idx, 3)) (hw : Cond.fieldLink own idx "java/lang/String" "COMPACT_STRINGS" "Z" ∈ lw_good) (kk : V x cs sl T Mi Ml (pc + 3) lv (.int 1 :: st)) : V x cs sl T Mi Ml pc lv st := by
  obtain ⟨g, p, l, e, R, s, m, args, below, meth, c, nL, Q⟩ := x
  obtain ⟨hx, hb, hml, hown, hts, hlk, hK, hSt, hz, hfr, hlo⟩ := h
  intro H locs ls hR hS hl
  exact va_gets hx hb hSt.2.2.2.2.1 hS hown (hts _ hw) (fun _ q => q) dc (kk H locs ls hR hS hl)
theorem jv_blen (h : Ok x own cc d) (dc : decode cc pc = .ok (.arraylength, 1)) (kk : V x cs sl T Mi Ml (pc + 1) lv (.int (nI 5) :: st)) : V x cs sl T Mi Ml pc lv (.ref (gB x.1) :: st) := by
  obtain ⟨g, p, l, e, R, s, m, args, below, meth, c, nL, Q⟩ := x
  obtain ⟨hx, hb, hml, hown, hts, hlk, hK, hSt, hz, hfr, hlo⟩ := h
  intro H locs ls hR hS hl
  exact va_tlen hx hb (hSt.2.2.2.1.1 0 (by decide)).2.2.2 hS rfl dc (kk H locs ls hR hS hl)
theorem jv_bald {i : Int32} {j : Nat} (h : Ok x own cc d) (dc : decode cc pc = .ok (.baload, 1)) (hi : NF i j) (hj : j < 5) (kk : V x cs sl T Mi Ml (pc + 1) lv (.int (nI (kb j)) :: st)) : V x cs sl T Mi Ml pc lv (.int i :: .ref (gB x.1) :: st) := by
  obtain ⟨g, p, l, e, R, s, m, args, below, meth, c, nL, Q⟩ := x
  obtain ⟨hx, hb, hml, hown, hts, hlk, hK, hSt, hz, hfr, hlo⟩ := h
  intro H locs ls hR hS hl
  refine va_tb hx hb (hSt.2.2.2.1.1 0 (by decide)).2.2.2 hS (NF_in hi (show j < 5 from hj) (by decide)) (v := .int (nI (kb j))) ?_ dc (kk H locs ls hR hS hl)
  rw [hi, nI_clamp (by omega)]
  rcases (show j = 0 ∨ j = 1 ∨ j = 2 ∨ j = 3 ∨ j = 4 by omega) with rfl | rfl | rfl | rfl | rfl <;> rfl
theorem jv_VSRi {f : Int32} {y : MethodName} {bytes : ByteArray} {maxL n d' : Nat} {ret : Option FieldType} {rest : List Value} (As : List Value) (h : Ok x own cc d) (dc : decode cc pc = .ok (.invokevirtual idx, 3)) (hw : CVw own idx y bytes maxL ret n) (hy : y.cls = "java/lang/String") (hM : Ct x.1 y bytes maxL ret d' 0 0 (.ref (gS x.1) :: As) T Mi Ml (Ri T Mi Ml f)) (hd : d' < d) (hn : As.length = n) (hst : st = As.reverse ++ .ref (gS x.1) :: rest) (hre : (rest.map fun v => v.category).sum ≤ 8) (hcap : cs ≤ x.2.2.2.2.1.cells ∧ sl ≤ x.2.2.2.2.1.slots) (kk : V x cs sl T Mi Ml (pc + 3) lv (.int f :: rest)) : V x cs sl T Mi Ml pc lv st := by
  obtain ⟨g, p, l, e, R, s, m, args, below, meth, c, nL, Q⟩ := x
  obtain ⟨hx, hb, hml, hown, hts, hlk, hK, hSt, hz, hfr, hlo⟩ := h
  intro H locs ls hR hS hl
  subst hst
  obtain ⟨hw, hk, hi, hs⟩ := hw
  have hmx : maxL ≤ 20 := hw.2.2.2.2
  exact jv_after (av := .ref (gS g) :: As) (va_runV ⟨hx, hb, hml, hown, hts⟩ (hM l) ⟨⟨rfl, rfl, by show d' + 1 ≤ R.frames; omega, by show 8 + (maxL + 11) + 39 * d' ≤ R.locals; omega, wd_warm hts hw, List.mem_cons_self, hts _ hw.1, hts _ hw.2.1, hw.2.2.1, par_len hw.2.2.2.1, hts _ hk⟩, hts _ hi, hts _ hs⟩ ⟨Ct.blind, by rw [hy]; exact vk_recv hSt.2.2.2.1 (i := 0) (by decide) hS, fun U hU hW => ⟨rfl, pre_U hK hSt hR hS U hU hW⟩⟩ rfl hn hl.1 rfl (lv_room hre) dc hcap) hR hS hl (fun r T' Mi' Ml' hp => by
    obtain ⟨rfl, rfl, rfl, rfl⟩ := hp
    exact kk)
end SR
