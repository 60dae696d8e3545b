theorem jv_copyi {x : CX} {cs sl : Nat} {T : TT} {Mi : MI} {Ml : ML} {pc : Nat} {lv : List (Option Value)} {st : List Value} {own : String} {cc : ByteArray} {d : Nat} {idx a0 a n0 n1 sp dp n : Nat} {u v w : Int32} (h : Ok x own cc d) (hd : 0 < d) (dc : decode cc pc = .ok (.invokestatic idx, 3)) (hw : Cond.methodLink own idx arraycopyName ∈ lw_good) (hwn : Cond.native arraycopyName ∈ lw_good) (hws : Cond.static arraycopyName ∈ lw_good) (hwi : Cond.initialized "java/lang/System" ∈ lw_good)
    (m0 : AR x.1 T a0 12 n0) (m1 : AR x.1 T a 12 n1) (hu : NF u sp) (hv : NF v dp) (hn : NF w n) (hb : sp + n ≤ n0 ∧ dp + n ≤ n1 ∧ n0 < 2 ^ 31 ∧ n1 < 2 ^ 31) (hre : (st.map fun v => v.category).sum ≤ 8) (kk : V x cs sl T (fun b j => if b = a then va_cpy (Mi a0) (Mi a) sp dp n j else Mi b j) Ml (pc + 3) lv st) : V x cs sl T Mi Ml pc lv (.int w :: .int v :: .ref a :: .int u :: .ref a0 :: st) := by
  obtain ⟨g, p, l, e, R, s, m, args, below, meth, c, nL, Q⟩ := x
  obtain ⟨hx, hb', hml, hown, hts, hlk, hK, hSt, hz, hfr, hlo⟩ := h
  intro H locs ls hR hS hl
  have nn : ∀ z : Nat, z < 2 ^ 31 → (nI z).toInt = ((nI z).toNatClampNeg : Int) := fun z hz => by rw [nI_toInt hz, nI_clamp hz]
  obtain ⟨x1, x2, x3⟩ := m0
  obtain ⟨y1, y2, y3⟩ := m1
  have hc0 := hR.2.2 a0 x1 x2
  have hc1 := hR.2.2 a y1 y2
  rw [ce_int x3] at hc0
  rw [ce_int y3] at hc1
  rw [hu, hv, hn]
  intro T0 hT X
  obtain ⟨-, k0, hk0, cm0, hkk0⟩ := (hK.2 0 (gA g 12, .int) rfl).1 n0 (fun j => .int (Mi a0 j))
  obtain ⟨vm', X', step⟩ := X.arraycopy hx hown (hts _ hw) (hts _ hwn) (hts _ hws) (hts _ hwi) (src := a0) (dst := a) (cs := vp_cell (gA g 12) (n0, .inl  (Mi a0))) (cd := vp_cell (gA g 12) (n1, .inl (Mi a))) (srcPos := nI sp) (destPos := nI dp) (n := nI n) (by rw [hT]; exact hc0) (by rw [hT]; exact hc1)
    (fun _ h => by cases h) (fun _ h => by cases h) (fun h => by cases h) (fun h => by cases h) hk0 hk0 hkk0 hkk0 (by simp [refKind]) (nI_pos (by omega)) (nI_pos (by omega)) (nI_pos (by omega))
    (by rw [nI_toInt (by omega), nI_toInt (by omega)]; show ¬ _ > ((arrV (gA g 12) n0 (fun j => .int (Mi a0 j))).slots.size : Int); rw [arrV_size]; omega)
    (by rw [nI_toInt (by omega), nI_toInt (by omega)]; show ¬ _ > ((arrV (gA g 12) n1 (fun j => .int (Mi a j))).slots.size : Int); rw [arrV_size]; omega)
    (fun vm₁ _ i hi => by
      rw [nI_clamp (by omega)] at hi ⊢
      have e : (vp_cell (gA g 12) (n0, .inl (Mi a0))).slots.getD (sp + i) .null = .int (Mi a0 (sp + i)) := by
        show (arrV (gA g 12) n0 (fun j => .int (Mi a0 j))).slots.getD _ _ = _
        rw [Array.getD_eq_getD_getElem?, arrV_read _ _ (by omega)]
        rfl
      exact ⟨by rw [e]; rfl, by rw [e]; exact trivial⟩)
    (g := F0 m pc ls (.int (nI n) :: .int (nI dp) :: .ref a :: .int (nI sp) :: .ref a0 :: st)) rfl (by rw [hml]; exact hl.1) (rest := st) rfl (by rw [hb']; exact dc) (by omega) (by
      have h5 : nativeFrameWords "java/lang/System" "arraycopy" 5 ≤ 12 := by decide
      show 2 * 0 + _ + _ ≤ _
      omega)
  have e1 : copied (vp_cell (gA g 12) (n0, .inl (Mi a0))) (vp_cell (gA g 12) (n1, .inl (Mi a))) (nI sp) (nI dp) (nI n) = vp_cell (gA g 12) (n1, .inl (va_cpy (Mi a0) (Mi a) sp dp n)) := by
    have := va_copied (fun z => .int z) (gA g 12) (gA g 12) (n1 := n1) (dp := dp) (Mi a0) (Mi a) (show sp + n ≤ n0 from hb.1)
    unfold copied
    rw [nI_clamp (by omega), nI_clamp (by omega), nI_clamp (by omega)]
    exact this
  rw [e1] at X' step
  have hla : a < H.size := (Array.getElem?_eq_some_iff.mp hc1).1
  have hheap : ((T0.setVm vm').setCell a (vp_cell (gA g 12) (n1, .inl (va_cpy (Mi a0) (Mi a) sp dp n)))).heap = H.setIfInBounds a (vp_cell (gA g 12) (n1, .inl (va_cpy (Mi a0) (Mi a) sp dp n))) := by rw [← hT]; rfl
  have oq : ∀ q : Nat, q ≠ a → (H.setIfInBounds a (vp_cell (gA g 12) (n1, .inl (va_cpy (Mi a0) (Mi a) sp dp n))))[q]? = H[q]? := fun q hq => by simp [Array.getElem?_setIfInBounds, Ne.symm hq]
  obtain ⟨t, a1, b1⟩ := kk _ _ ls (hR.put rfl (by simp) oq (fun b q => ⟨rfl, rfl, by funext j; simp [q], rfl⟩) (by
      rw [ce_int y3]
      simp only [if_true]
      show (H.setIfInBounds a _)[a]? = some _
      simp [Array.getElem?_setIfInBounds, hla])) ⟨by simp; exact hS.1, fun q g1 g2 => by
      rw [oq q (fun e => g2 (by rw [e]; exact y1))]
      exact hS.2.1 q g1 g2, fun q hq => by
      rcases List.mem_append.mp hq with h | h
      · exact hS.2.2 q h
      · obtain ⟨z, -, hz⟩ := List.mem_map.mp h
        rw [← hz]
        exact y1⟩ hl _ hheap X'
  exact ⟨t, step t a1, b1⟩
theorem jv_copyl {x : CX} {cs sl : Nat} {T : TT} {Mi : MI} {Ml : ML} {pc : Nat} {lv : List (Option Value)} {st : List Value} {own : String} {cc : ByteArray} {d : Nat} {idx a0 a n0 n1 sp dp n : Nat} {u v w : Int32} (h : Ok x own cc d) (hd : 0 < d) (dc : decode cc pc = .ok (.invokestatic idx, 3)) (hw : Cond.methodLink own idx arraycopyName ∈ lw_good) (hwn : Cond.native arraycopyName ∈ lw_good) (hws : Cond.static arraycopyName ∈ lw_good) (hwi : Cond.initialized "java/lang/System" ∈ lw_good)
    (m0 : AR x.1 T a0 13 n0) (m1 : AR x.1 T a 13 n1) (hu : NF u sp) (hv : NF v dp) (hn : NF w n) (hb : sp + n ≤ n0 ∧ dp + n ≤ n1 ∧ n0 < 2 ^ 31 ∧ n1 < 2 ^ 31) (hre : (st.map fun v => v.category).sum ≤ 8) (kk : V x cs sl T Mi (fun b j => if b = a then va_cpy (Ml a0) (Ml a) sp dp n j else Ml b j) (pc + 3) lv st) : V x cs sl T Mi Ml pc lv (.int w :: .int v :: .ref a :: .int u :: .ref a0 :: st) := by
  obtain ⟨g, p, l, e, R, s, m, args, below, meth, c, nL, Q⟩ := x
  obtain ⟨hx, hb', hml, hown, hts, hlk, hK, hSt, hz, hfr, hlo⟩ := h
  intro H locs ls hR hS hl
  have nn : ∀ z : Nat, z < 2 ^ 31 → (nI z).toInt = ((nI z).toNatClampNeg : Int) := fun z hz => by rw [nI_toInt hz, nI_clamp hz]
  obtain ⟨x1, x2, x3⟩ := m0
  obtain ⟨y1, y2, y3⟩ := m1
  have hc0 := hR.2.2 a0 x1 x2
  have hc1 := hR.2.2 a y1 y2
  rw [ce_long x3] at hc0
  rw [ce_long y3] at hc1
  rw [hu, hv, hn]
  intro T0 hT X
  obtain ⟨-, k0, hk0, cm0, hkk0⟩ := (hK.2 1 (gA g 13, .long) rfl).1 n0 (fun j => .long (Ml a0 j))
  obtain ⟨vm', X', step⟩ := X.arraycopy hx hown (hts _ hw) (hts _ hwn) (hts _ hws) (hts _ hwi) (src := a0) (dst := a) (cs := vp_cell (gA g 13) (n0, .inr (.inl (Ml a0)))) (cd := vp_cell (gA g 13) (n1, .inr (.inl (Ml a)))) (srcPos := nI sp) (destPos := nI dp) (n := nI n) (by rw [hT]; exact hc0) (by rw [hT]; exact hc1)
    (fun _ h => by cases h) (fun _ h => by cases h) (fun h => by cases h) (fun h => by cases h) hk0 hk0 hkk0 hkk0 (by simp [refKind]) (nI_pos (by omega)) (nI_pos (by omega)) (nI_pos (by omega))
    (by rw [nI_toInt (by omega), nI_toInt (by omega)]; show ¬ _ > ((arrV (gA g 13) n0 (fun j => .long (Ml a0 j))).slots.size : Int); rw [arrV_size]; omega)
    (by rw [nI_toInt (by omega), nI_toInt (by omega)]; show ¬ _ > ((arrV (gA g 13) n1 (fun j => .long (Ml a j))).slots.size : Int); rw [arrV_size]; omega)
    (fun vm₁ _ i hi => by
      rw [nI_clamp (by omega)] at hi ⊢
      have e : (vp_cell (gA g 13) (n0, .inr (.inl (Ml a0)))).slots.getD (sp + i) .null = .long (Ml a0 (sp + i)) := by
        show (arrV (gA g 13) n0 (fun j => .long (Ml a0 j))).slots.getD _ _ = _
        rw [Array.getD_eq_getD_getElem?, arrV_read _ _ (by omega)]
        rfl
      exact ⟨by rw [e]; rfl, by rw [e]; exact trivial⟩)
    (g := F0 m pc ls (.int (nI n) :: .int (nI dp) :: .ref a :: .int (nI sp) :: .ref a0 :: st)) rfl (by rw [hml]; exact hl.1) (rest := st) rfl (by rw [hb']; exact dc) (by omega) (by
      have h5 : nativeFrameWords "java/lang/System" "arraycopy" 5 ≤ 12 := by decide
      show 2 * 0 + _ + _ ≤ _
      omega)
  have e1 : copied (vp_cell (gA g 13) (n0, .inr (.inl (Ml a0)))) (vp_cell (gA g 13) (n1, .inr (.inl (Ml a)))) (nI sp) (nI dp) (nI n) = vp_cell (gA g 13) (n1, .inr (.inl (va_cpy (Ml a0) (Ml a) sp dp n))) := by
    have := va_copied (fun z => .long z) (gA g 13) (gA g 13) (n1 := n1) (dp := dp) (Ml a0) (Ml a) (show sp + n ≤ n0 from hb.1)
    unfold copied
    rw [nI_clamp (by omega), nI_clamp (by omega), nI_clamp (by omega)]
    exact this
  rw [e1] at X' step
  have hla : a < H.size := (Array.getElem?_eq_some_iff.mp hc1).1
  have hheap : ((T0.setVm vm').setCell a (vp_cell (gA g 13) (n1, .inr (.inl (va_cpy (Ml a0) (Ml a) sp dp n))))).heap = H.setIfInBounds a (vp_cell (gA g 13) (n1, .inr (.inl (va_cpy (Ml a0) (Ml a) sp dp n)))) := by rw [← hT]; rfl
  have oq : ∀ q : Nat, q ≠ a → (H.setIfInBounds a (vp_cell (gA g 13) (n1, .inr (.inl (va_cpy (Ml a0) (Ml a) sp dp n)))))[q]? = H[q]? := fun q hq => by simp [Array.getElem?_setIfInBounds, Ne.symm hq]
  obtain ⟨t, a1, b1⟩ := kk _ _ ls (hR.put rfl (by simp) oq (fun b q => ⟨rfl, rfl, rfl, by funext j; simp [q]⟩) (by
      rw [ce_long y3]
      simp only [if_true]
      show (H.setIfInBounds a _)[a]? = some _
      simp [Array.getElem?_setIfInBounds, hla])) ⟨by simp; exact hS.1, fun q g1 g2 => by
      rw [oq q (fun e => g2 (by rw [e]; exact y1))]
      exact hS.2.1 q g1 g2, fun q hq => by
      rcases List.mem_append.mp hq with h | h
      · exact hS.2.2 q h
      · obtain ⟨z, -, hz⟩ := List.mem_map.mp h
        rw [← hz]
        exact y1⟩ hl _ hheap X'
  exact ⟨t, step t a1, b1⟩
