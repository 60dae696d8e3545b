/-! WHAT HOLDS BETWEEN CALLS -/
/-- state, what may be undone; the tape; the sheets; the image -/
abbrev ST : Type := SU × ((Nat → Nat) × Nat) × SH × (Bool × SU)
def KepC (Mi : MI) (X : Nat) (k : SU) : Prop := ∃ (R : Nat → Nat → Nat) (nx : Nat), BltR Mi (X + 78) k.1 R k.2.2 nx ∧ UR R k.2.1 k.2.2 nx
def CInv (g : GT) (T : TT) (Mi : MI) (Ml : ML) (X : Nat) (σ : ST) : Prop := DayS g T X ∧ NowC Mi X σ.1.1 σ.1.2.1 σ.1.2.2 ∧ TapR Mi (X + 155) σ.2.1.1 σ.2.1.2 0 ∧ (Mi (X + 160) 2 = nI 0 ∧ Mi (X + 160) 3 = nI 1) ∧ ShC Mi Ml X σ.2.2.1 ∧ Mi X 2 = bI σ.2.2.2.1 ∧ (σ.2.2.2.1 = true → KepC Mi X σ.2.2.2.2)
def MInv (g : GT) (T : TT) (Mi : MI) (Ml : ML) (Y : Nat) (σ : ST) : Prop := ModS g T Y ∧ NowR Mi (Y + 1) σ.1.1 ∧ UndR Mi Y σ.1.2.1 σ.1.2.2 ∧ MTR Mi Y σ.2.1.1 σ.2.1.2 ∧ ShM Mi Ml Y σ.2.2.1 ∧ MKep Mi Y σ.2.2.2.2.1 σ.2.2.2.2.2.1 σ.2.2.2.2.2.2 σ.2.2.2.1
def LW (z : SU) : Prop := WFU z ∧ z.1 1 ≤ 9999 ∧ ∀ j, j < z.2.2 → z.2.1 j 1 ≤ 9999
def PInv (σ : ST) : Prop := LW σ.1 ∧ TA σ.2.1.1 σ.2.1.2 ∧ (σ.2.2.2.1 = true → LW σ.2.2.2.2)
def FZ (Mi : MI) (Ml : ML) (Mi' : MI) (Ml' : ML) (lo hi : Nat) : Prop := ∀ b, (b < lo ∨ hi ≤ b) → Mi' b = Mi b ∧ Ml' b = Ml b
theorem FZ.rf (Mi : MI) (Ml : ML) (lo hi : Nat) : FZ Mi Ml Mi Ml lo hi := fun _ _ => ⟨rfl, rfl⟩
section FRS
variable {Mi Mi' : MI} {Ml Ml' : ML} {X Y : Nat}
theorem TapR.fz {Z ln p : Nat} {t : Nat → Nat} (h : TapR Mi Z t ln p) (e : Mi' Z = Mi Z) (e1 : Mi' (Z + 1) = Mi (Z + 1)) : TapR Mi' Z t ln p := by unfold TapR; rw [e, e1]; exact h
theorem ShC.fz {q : SH} (h : ShC Mi Ml X q) (e : ∀ b, X + 186 ≤ b → b < X + 194 → Mi' b = Mi b ∧ Ml' b = Ml b) : ShC Mi' Ml' X q := fun s hs => by
  have h1 := h s hs
  unfold ShtR at h1 ⊢
  rw [(e (X + 186 + 2 * s) (by omega) (by omega)).1, (e (X + 186 + 2 * s + 1) (by omega) (by omega)).2]
  exact h1
theorem KepC.fz {k : SU} (h : KepC Mi X k) (h6 : k.1 0 ≤ 6) (e : ∀ b, X + 78 ≤ b → b < X + 155 → Mi' b = Mi b) : KepC Mi' X k := by
  obtain ⟨R, nx, h1, h2⟩ := h
  exact ⟨R, nx, h1.fr h6 (fun a q1 q2 => e a (by omega) (by omega)), h2⟩
theorem MTR.fz {ln : Nat} {t : Nat → Nat} (h : MTR Mi Y t ln) (e : Mi' Y 2 = Mi Y 2) (e1 : Mi' (Y + 2) = Mi (Y + 2)) : MTR Mi' Y t ln := by unfold MTR; rw [e, e1]; exact h
theorem UndR.fz {u : Nat} {U : Nat → Nat → Nat} (h : UndR Mi Y U u) (e : Mi' Y 8 = Mi Y 8) (e1 : Mi' (Y + 5) = Mi (Y + 5)) : UndR Mi' Y U u := by unfold UndR; rw [e, e1]; exact h
theorem NowR.fz {S : Nat → Nat} (h : NowR Mi Y S) (e : Mi' Y = Mi Y) : NowR Mi' Y S := by unfold NowR; rw [e]; exact h
theorem ShM.fz {q : SH} (h : ShM Mi Ml Y q) (e : Mi' (Y + 7) = Mi (Y + 7)) (e1 : Mi' (Y + 8) = Mi (Y + 8)) (e2 : Ml' (Y + 9) = Ml (Y + 9)) : ShM Mi' Ml' Y q := by unfold ShM; rw [e, e1, e2]; exact h
theorem MKep.fz {ku : Nat} {kS : Nat → Nat} {kU : Nat → Nat → Nat} {ik : Bool} (h : MKep Mi Y kS kU ku ik) (e : Mi' Y 10 = Mi Y 10) (e0 : Mi' Y 11 = Mi Y 11) (e1 : Mi' (Y + 6) = Mi (Y + 6)) : MKep Mi' Y kS kU ku ik := by unfold MKep; rw [e, e0, e1]; exact h
end FRS
section CIV
variable {g : GT} {T : TT} {Mi Mi' : MI} {Ml Ml' : ML} {X Y : Nat} {σ : ST}
theorem PInv.w (h : PInv σ) : WF σ.1.1 := h.1.1.1
theorem PInv.k (h : PInv σ) : σ.2.2.2.1 = true → σ.2.2.2.2.1 0 ≤ 6 := fun q => (h.2.2 q).1.1.1
theorem CInv.fr (h : CInv g T Mi Ml X σ) (hP : PInv σ) (e : ∀ b, X ≤ b → b < X + 194 → Mi' b = Mi b ∧ Ml' b = Ml b) : CInv g T Mi' Ml' X σ := by
  obtain ⟨h1, h2, h3, h4, h5, h6, h7⟩ := h
  exact ⟨h1, h2.fr hP.w.1 (fun a q1 q2 => (e a (by omega) (by omega)).1), h3.fz (e _ (by omega) (by omega)).1 (e _ (by omega) (by omega)).1, by rw [(e (X + 160) (by omega) (by omega)).1]; exact h4, h5.fz (fun b q1 q2 => e b (by omega) (by omega)), by rw [(e X (by omega) (by omega)).1]; exact h6, fun q => (h7 q).fz (hP.k q) (fun b q1 q2 => (e b (by omega) (by omega)).1)⟩
theorem MInv.fr (h : MInv g T Mi Ml Y σ) (e : ∀ b, Y ≤ b → b < Y + 12 → Mi' b = Mi b ∧ Ml' b = Ml b) : MInv g T Mi' Ml' Y σ := by
  obtain ⟨h1, h2, h3, h4, h5, h6⟩ := h
  have e0 := (e Y (by omega) (by omega)).1
  exact ⟨h1, h2.fz (e _ (by omega) (by omega)).1, h3.fz (by rw [e0]) (e _ (by omega) (by omega)).1, h4.fz (by rw [e0]) (e _ (by omega) (by omega)).1, h5.fz (e _ (by omega) (by omega)).1 (e _ (by omega) (by omega)).1 (e _ (by omega) (by omega)).2, h6.fz (by rw [e0]) (by rw [e0]) (e _ (by omega) (by omega)).1⟩
/-- the state alone has changed -/
theorem CInv.now {z' : SU} (h : CInv g T Mi Ml X σ) (hP : PInv σ) (f : Fr Mi Mi' (X + 1) (X + 78)) (hn : NowC Mi' X z'.1 z'.2.1 z'.2.2) : CInv g T Mi' Ml X (z', σ.2) := by
  obtain ⟨h1, h2, h3, h4, h5, h6, h7⟩ := h
  exact ⟨h1, hn, h3.fz (f _ (by omega)) (f _ (by omega)), by rw [f (X + 160) (by omega)]; exact h4, h5.fz (fun b q1 q2 => ⟨f b (by omega), rfl⟩), by rw [f X (by omega)]; exact h6, fun q => (h7 q).fz (hP.k q) (fun b q1 q2 => f b (by omega))⟩
theorem FZ.now (f : Fr Mi Mi' (X + 1) (X + 78)) : FZ Mi Ml Mi' Ml X (X + 194) := fun b hb => ⟨f b (by omega), rfl⟩
/-- what is outside of the state, the tape, the reader, the sheets has changed -/
theorem CInv.oth (h : CInv g T Mi Ml X σ) (hP : PInv σ) (e : ∀ b, (b < X + 160 ∨ (b = X + 160) ∨ X + 186 ≤ b) → Mi' b = Mi b ∧ Ml' b = Ml b) : CInv g T Mi' Ml' X σ := by
  obtain ⟨h1, h2, h3, h4, h5, h6, h7⟩ := h
  exact ⟨h1, h2.fr hP.w.1 (fun a q1 q2 => (e a (by omega)).1), h3.fz (e _ (by omega)).1 (e _ (by omega)).1, by rw [(e (X + 160) (by omega)).1]; exact h4, h5.fz (fun b q1 q2 => e b (by omega)), by rw [(e X (by omega)).1]; exact h6, fun q => (h7 q).fz (hP.k q) (fun b q1 q2 => (e b (by omega)).1)⟩
/-- the sheets have changed -/
theorem CInv.sht {q' : SH} (h : CInv g T Mi Ml X σ) (hP : PInv σ) (e : ∀ b, b < X + 168 → Mi' b = Mi b) (hs : ShC Mi' Ml' X q') : CInv g T Mi' Ml' X (σ.1, σ.2.1, q', σ.2.2.2) := by
  obtain ⟨h1, h2, h3, h4, h5, h6, h7⟩ := h
  exact ⟨h1, h2.fr hP.w.1 (fun a q1 q2 => e a (by omega)), h3.fz (e _ (by omega)) (e _ (by omega)), by rw [e (X + 160) (by omega)]; exact h4, hs, by rw [e X (by omega)]; exact h6, fun q => (h7 q).fz (hP.k q) (fun b q1 q2 => e b (by omega))⟩
theorem MInv.now {z' : SU} (h : MInv g T Mi Ml Y σ) (f : MFr Mi Mi' Y) (hn : NowR Mi' (Y + 1) z'.1) (hu : UndR Mi' Y z'.2.1 z'.2.2) : MInv g T Mi' Ml Y (z', σ.2) := by
  obtain ⟨h1, h2, h3, h4, h5, h6⟩ := h
  exact ⟨h1, hn, hu, h4.fz (f.2 _ (by omega)) (f.1 _ (by omega) (by omega) (by omega)), h5.fz (f.1 _ (by omega) (by omega) (by omega)) (f.1 _ (by omega) (by omega) (by omega)) rfl, h6.fz (f.2 _ (by omega)) (f.2 _ (by omega)) (f.1 _ (by omega) (by omega) (by omega))⟩
theorem FZ.mnow (f : MFr Mi Mi' Y) : FZ Mi Ml Mi' Ml Y (Y + 12) := fun b hb => ⟨f.1 b (by omega) (by omega) (by omega), rfl⟩
theorem MInv.sht {q' : SH} (h : MInv g T Mi Ml Y σ) (e : ∀ b, b ≠ Y + 1 → b ≠ Y + 7 → b ≠ Y + 8 → b ≠ Y + 11 → Mi' b = Mi b) (hn : NowR Mi' (Y + 1) σ.1.1) (hs : ShM Mi' Ml' Y q') : MInv g T Mi' Ml' Y (σ.1, σ.2.1, q', σ.2.2.2) := by
  obtain ⟨h1, h2, h3, h4, h5, h6⟩ := h
  have e0 := e Y (by omega) (by omega) (by omega) (by omega)
  exact ⟨h1, hn, h3.fz (by rw [e0]) (e _ (by omega) (by omega) (by omega) (by omega)), h4.fz (by rw [e0]) (e _ (by omega) (by omega) (by omega) (by omega)), hs, h6.fz (by rw [e0]) (by rw [e0]) (e _ (by omega) (by omega) (by omega) (by omega))⟩
end CIV
/-! the state stays sound -/
def oz (z : SU) (o : Option (Nat → Nat)) (f : (Nat → Nat) → SU) : SU := match o with
  | none => z
  | some S' => f S'
theorem LW.put {z : SU} {S' : Nat → Nat} (h : LW z) (h1 : WF S') (h0 : S' 0 = z.1 0) (h2 : S' 2 = z.1 2) (h9 : S' 1 ≤ 9999) : LW (puT z S') := by
  refine ⟨h.1.put h1 h0 h2, h9, fun j hj => ?_⟩
  have hj : j < min (z.2.2 + 1) 8 := hj
  show puU z.2.1 z.2.2 z.1 j 1 ≤ 9999
  unfold puU
  split
  · split
    · exact h.2.2 _ (by omega)
    · exact h.2.1
  · split
    · exact h.2.2 _ (by omega)
    · exact h.2.1
theorem LW.fresh {z : SU} {S' : Nat → Nat} {U : Nat → Nat → Nat} (h1 : WF S') (h9 : S' 1 ≤ 9999) : LW (S', U, 0) := ⟨⟨h1, Nat.zero_le _, fun j hj => absurd hj (Nat.not_lt_zero _)⟩, h9, fun j hj => absurd hj (Nat.not_lt_zero _)⟩
theorem LW.set {z : SU} {S' : Nat → Nat} (h : LW z) (h1 : WF S') (h0 : S' 0 = z.1 0) (h2 : S' 2 = z.1 2) (h9 : S' 1 = z.1 1) : LW (S', z.2.1, z.2.2) :=
  ⟨⟨h1, h.1.2.1, fun j hj => ⟨(h.1.2.2 j hj).1, (h.1.2.2 j hj).2.1.trans h0.symm, (h.1.2.2 j hj).2.2.trans h2.symm⟩⟩, by show S' 1 ≤ 9999; rw [h9]; exact h.2.1, h.2.2⟩
theorem lw_person {z : SU} {k w f d : Int32} (h : LW z) : LW (oz z (sp_person z.1 k w f d).2 (fun S' => (S', z.2.1, 0))) := by
  unfold sp_person
  split
  · rename_i hc
    split
    · exact h
    · rename_i h6
      obtain ⟨c1, c2, c3, c4⟩ := hc
      obtain ⟨k', rfl, -, hk⟩ := isB_t c1
      obtain ⟨w', rfl, hw1, hw2⟩ := isB_t c2
      obtain ⟨f', rfl, -, hf⟩ := isB_t c3
      obtain ⟨d', rfl, -, hd⟩ := isB_t c4
      have h0 := h.1.1.1
      have hh := h.1.1.2.2.1
      rw [pn_nI (by omega), pn_nI (by omega), pn_nI (by omega), pn_nI (by omega)]
      refine LW.fresh (z := z) (addS_WF h.1.1 (by omega) hk ⟨hw1, by omega⟩ hf hd) ?_
      rw [addS_o (by omega) (by omega)]
      exact h.2.1
  · exact h
theorem WF.set {S : Nat → Nat} {j v : Nat} (h : WF S) (h0 : j ≠ 0 ∧ j ≠ 1 ∧ j ≠ 2 ∧ j < 18) (h3 : j = 3 → 1 ≤ v ∧ v ≤ 60) (h4 : j = 4 → 2 ≤ v ∧ v ≤ 24) (h5 : j = 5 → v < 2147483648) (h6 : 6 ≤ j → v < 7) : WF (setS S j v) := by
  obtain ⟨w0, w1, w2, w3, w4, w5, w6, w7⟩ := h
  unfold WF
  rw [setS_o (k := 0) (by omega), setS_o (k := 1) (by omega), setS_o (k := 2) (by omega)]
  refine ⟨w0, w1, w2, ?_, ?_, ?_, fun k hk => ?_, fun p hp => ?_⟩
  · by_cases e : j = 3
    · subst e; rw [setS_s]; exact h3 rfl
    · rw [setS_o (by omega)]; exact w3
  · by_cases e : j = 4
    · subst e; rw [setS_s]; exact h4 rfl
    · rw [setS_o (by omega)]; exact w4
  · by_cases e : j = 5
    · subst e; rw [setS_s]; exact h5 rfl
    · rw [setS_o (by omega)]; exact w5
  · by_cases e : j = 6 + k
    · subst e; rw [setS_s]; exact h6 (by omega)
    · rw [setS_o (by omega)]; exact w6 k hk
  · rw [setS_o (by omega), setS_o (by omega), setS_o (by omega), setS_o (by omega), setS_o (by omega), setS_o (by omega)]; exact w7 p hp
theorem lw_day {z : SU} {c v : Int32} (h : LW z) : LW ((sp_day z.1 c v).2, z.2.1, z.2.2) := by
  unfold sp_day
  split
  · rename_i hc
    obtain ⟨c', rfl, -, hk⟩ := isB_t hc.1
    obtain ⟨v', rfl, -, hv⟩ := isB_t hc.2
    have hh := h.1.1.2.2.1
    rw [pn_nI (by omega), pn_nI (by omega)]
    exact h.set (h.1.1.set (by omega) (by omega) (by omega) (by omega) (by omega)) (setS_o (by omega)) (setS_o (by omega)) (setS_o (by omega))
  · exact h
theorem lw_rule {z : SU} {w v : Int32} (h : LW z) : LW ((sp_rule z.1 w v).2, z.2.1, z.2.2) := by
  unfold sp_rule
  split
  · rename_i hc
    obtain ⟨v', rfl, hv1, hv2⟩ := isB_t hc.2
    rw [pn_nI (by omega)]
    exact h.set (S' := setS z.1 3 v') (h.1.1.set (by omega) (by omega) (by omega) (by omega) (by omega)) (setS_o (by omega)) (setS_o (by omega)) (setS_o (by omega))
  · split
    · rename_i hc
      obtain ⟨v', rfl, hv1, hv2⟩ := isB_t hc.2
      rw [pn_nI (by omega)]
      exact h.set (S' := setS z.1 4 v') (h.1.1.set (by omega) (by omega) (by omega) (by omega) (by omega)) (setS_o (by omega)) (setS_o (by omega)) (setS_o (by omega))
    · exact h
theorem lw_seed {z : SU} {v : Int32} (h : LW z) : LW ((sp_seed z.1 v).2, z.2.1, z.2.2) := by
  unfold sp_seed
  split
  · exact h
  · rename_i hc
    have hb := Int32.toInt_lt v
    have hv : pn v < 2147483648 := by
      have e : v.toInt = ((v.toNatClampNeg : Nat) : Int) := by
        rw [Int32.lt_iff_toInt_lt] at hc
        have h0 : (0 : Int32).toInt = 0 := by decide
        show v.toInt = ((v.toInt.toNat : Nat) : Int)
        omega
      show v.toNatClampNeg < _
      omega
    exact h.set (S' := setS z.1 5 (pn v)) (h.1.1.set (by omega) (by omega) (by omega) (fun _ => hv) (by omega)) (setS_o (by omega)) (setS_o (by omega)) (setS_o (by omega))
theorem lw_block {z : SU} {t : Nat → Nat} {ln : Nat} (h : LW z) : LW (oz z (sp_block t ln z.1).2 (fun S' => (S', z.2.1, 0))) := by
  unfold sp_block
  split
  · rename_i hc
    obtain ⟨b1, b2, b3, b4, b5⟩ := blP_t hc
    exact LW.fresh (z := z) (rbS_WF h.1.1 b1 b2 b3) (by show rbS _ _ _ _ 1 ≤ 9999; exact Nat.zero_le _)
  · exact h
theorem WF.car {S : Nat → Nat} {i v : Nat} (h : WF S) (hi : i < S 0) (hv : v ≤ 2 * S 2) : WF (setS S (21 + 6 * i) v) := by
  obtain ⟨w0, w1, w2, w3, w4, w5, w6, w7⟩ := h
  unfold WF
  rw [setS_o (k := 0) (by omega), setS_o (k := 1) (by omega), setS_o (k := 2) (by omega), setS_o (k := 3) (by omega), setS_o (k := 4) (by omega), setS_o (k := 5) (by omega)]
  refine ⟨w0, w1, w2, w3, w4, w5, fun k hk => by rw [setS_o (by omega)]; exact w6 k hk, fun p hp => ?_⟩
  obtain ⟨p1, p2, p3, p4, p5, p6⟩ := w7 p hp
  rw [setS_o (k := 18 + 6 * p) (by omega), setS_o (k := 19 + 6 * p) (by omega), setS_o (k := 20 + 6 * p) (by omega), setS_o (k := 22 + 6 * p) (by omega), setS_o (k := 23 + 6 * p) (by omega)]
  refine ⟨p1, p2, p3, ?_, p5, p6⟩
  by_cases e : p = i
  · subst e; rw [setS_s]; exact hv
  · rw [setS_o (by omega)]; exact p4
theorem lw_in {z : SU} {p s : Int32} (h : LW z) : LW (oz z (sp_in z.1 p s).2 (puT z)) := by
  unfold sp_in
  split
  · rename_i hc
    split
    · exact h
    · split
      · exact h
      · obtain ⟨i, rfl, -, hi⟩ := isB_t hc.1
        have h0 := h.1.1.1
        have hh := h.1.1.2.2.1
        have hc := ciN_lt (h := z.1 2) (c := pbN (z.1 2) (z.1 (20 + 6 * i)) (pn s)) (s := z.1 1) (by omega)
        show LW (puT z _)
        rw [pn_nI (by omega)]
        exact h.put (h.1.1.car hi (by omega)) (setS_o (by omega)) (setS_o (by omega)) (by rw [setS_o (by omega)]; exact h.2.1)
  · exact h
theorem ouS_WF {S : Nat → Nat} {i : Nat} (h : WF S) (hi : i < S 0) (hc : S (21 + 6 * i) ≠ 0) : WF (ouS S i) := by
  obtain ⟨w0, w1, w2, w3, w4, w5, w6, w7⟩ := h
  have wi := w7 i hi
  have e : ∀ k, k ≠ 20 + 6 * i → k ≠ 21 + 6 * i → k ≠ 22 + 6 * i → ouS S i k = S k := fun k h1 h2 h3 => by unfold ouS; rw [setS_o h3, setS_o h2, setS_o h1]
  unfold WF
  rw [e 0 (by omega) (by omega) (by omega), e 1 (by omega) (by omega) (by omega), e 2 (by omega) (by omega) (by omega), e 3 (by omega) (by omega) (by omega), e 4 (by omega) (by omega) (by omega), e 5 (by omega) (by omega) (by omega)]
  refine ⟨w0, w1, w2, w3, w4, w5, fun k hk => by rw [e _ (by omega) (by omega) (by omega)]; exact w6 k hk, fun p hp => ?_⟩
  obtain ⟨p1, p2, p3, p4, p5, p6⟩ := w7 p hp
  rw [e (18 + 6 * p) (by omega) (by omega) (by omega), e (19 + 6 * p) (by omega) (by omega) (by omega), e (23 + 6 * p) (by omega) (by omega) (by omega)]
  by_cases ep : p = i
  · subst ep
    have g1 : ouS S p (20 + 6 * p) = flN (S 2) (plN (S 2) (S (21 + 6 * p) - 1) (S 1)) := by unfold ouS; rw [setS_o (by omega), setS_o (by omega), setS_s]
    have g2 : ouS S p (21 + 6 * p) = 0 := by unfold ouS; rw [setS_o (by omega), setS_s]
    have g3 : ouS S p (22 + 6 * p) = S (6 + (S (21 + 6 * p) - 1)) := by unfold ouS; rw [setS_s]
    rw [g1, g2, g3]
    exact ⟨p1, p2, flN_lt (plN_lt (by omega)), by omega, w6 _ (by omega), p6⟩
  · rw [e (20 + 6 * p) (by omega) (by omega) (by omega), e (21 + 6 * p) (by omega) (by omega) (by omega), e (22 + 6 * p) (by omega) (by omega) (by omega)]
    exact ⟨p1, p2, p3, p4, p5, p6⟩
theorem lw_out {z : SU} {p : Int32} (h : LW z) : LW (oz z (sp_out z.1 p).2 (puT z)) := by
  unfold sp_out
  split
  · rename_i hc
    split
    · exact h
    · rename_i hne
      obtain ⟨i, rfl, -, hi⟩ := isB_t hc
      have h0 := h.1.1.1
      rw [pn_nI (by omega)] at hne
      show LW (puT z _)
      rw [pn_nI (by omega)]
      have e : ∀ k, k < 18 → ouS z.1 i k = z.1 k := fun k hk => by unfold ouS; rw [setS_o (by omega), setS_o (by omega), setS_o (by omega)]
      exact h.put (ouS_WF h.1.1 hi hne) (e 0 (by omega)) (e 2 (by omega)) (by rw [e 1 (by omega)]; exact h.2.1)
  · exact h
theorem stT_LW {z : SU} (h : LW z) : ∀ n, z.1 1 + n ≤ 9999 → LW (stT z n)
  | 0, _ => h
  | n + 1, hn => by
    have h1 := stT_LW h n (by omega)
    have h2 := (stT_WF h.1 n (by omega)).2
    exact h1.put (goS_WF h1.1.1 (by omega)) goS_0 goS_2 (by rw [goS_1, h2]; omega)
theorem drT_LW {z : SU} (h : LW z) : ∀ n, z.1 1 + n ≤ 9999 → LW (drT z n)
  | 0, _ => h
  | n + 1, hn => by
    have h1 := drT_LW h n (by omega)
    have h2 := (drT_WF h.1 n (by omega)).2
    have h3 := dS_1 (S := (drT z n).1)
    exact h1.put (dS_WF h1.1.1 (by omega)) dS_0 dS_2 (by omega)
theorem lw_steps {z : SU} {n : Int32} (h : LW z) : LW (sp_steps z n).2 := by
  unfold sp_steps
  split
  · split
    · exact h
    · exact stT_LW h _ (by omega)
  · exact h
theorem lw_drift {z : SU} {n : Int32} (h : LW z) : LW (sp_drift z n).2 := by
  unfold sp_drift
  split
  · split
    · exact h
    · exact drT_LW h _ (by omega)
  · exact h
theorem lw_undo {z : SU} (h : LW z) : LW (sp_undo z).2 := by
  unfold sp_undo
  split
  · exact h
  · rename_i hu
    obtain ⟨⟨w, hu8, hj⟩, h9, hj9⟩ := h
    obtain ⟨wv, e0, e2⟩ := hj (z.2.2 - 1) (by omega)
    have lo : ∀ k, k ≠ 1 → k ≠ 5 → k < 18 → unS z.1 (z.2.1 (z.2.2 - 1)) k = z.1 k := fun k h1 h2 h3 => by unfold unS; rw [if_neg (by omega)]
    have hi : ∀ k, (k = 1 ∨ k = 5 ∨ 18 ≤ k) → unS z.1 (z.2.1 (z.2.2 - 1)) k = z.2.1 (z.2.2 - 1) k := fun k h1 => by unfold unS; rw [if_pos h1]
    obtain ⟨w0, w1, w2, w3, w4, w5, w6, w7⟩ := w
    obtain ⟨v0, v1, v2, v3, v4, v5, v6, v7⟩ := wv
    refine ⟨⟨?_, by show z.2.2 - 1 ≤ 8; omega, fun j hjl => ?_⟩, ?_, fun j hjl => ?_⟩
    · show WF (unS z.1 (z.2.1 (z.2.2 - 1)))
      unfold WF
      rw [lo 0 (by omega) (by omega) (by omega), hi 1 (by omega), lo 2 (by omega) (by omega) (by omega), lo 3 (by omega) (by omega) (by omega), lo 4 (by omega) (by omega) (by omega), hi 5 (by omega)]
      refine ⟨w0, v1, w2, w3, w4, v5, fun k hk => by rw [lo _ (by omega) (by omega) (by omega)]; exact w6 k hk, fun p hp => ?_⟩
      rw [hi _ (by omega), hi _ (by omega), hi _ (by omega), hi _ (by omega), hi _ (by omega), hi _ (by omega)]
      rw [← e0] at hp
      have := v7 p hp
      rw [e2] at this
      exact this
    · have hjl : j < z.2.2 - 1 := hjl
      obtain ⟨a1, a2, a3⟩ := hj j (by omega)
      show WF (z.2.1 j) ∧ z.2.1 j 0 = unS z.1 (z.2.1 (z.2.2 - 1)) 0 ∧ z.2.1 j 2 = unS z.1 (z.2.1 (z.2.2 - 1)) 2
      rw [lo 0 (by omega) (by omega) (by omega), lo 2 (by omega) (by omega) (by omega)]
      exact ⟨a1, a2, a3⟩
    · show unS z.1 (z.2.1 (z.2.2 - 1)) 1 ≤ 9999
      rw [hi 1 (by omega)]
      exact hj9 _ (by omega)
    · have hjl : j < z.2.2 - 1 := hjl
      exact hj9 j (by omega)
theorem ta_type {t : Nat → Nat} {ln : Nat} {v : Int32} (h : TA t ln) : TA (sp_type t ln v).2.1 (sp_type t ln v).2.2 := by
  unfold sp_type
  split
  · rename_i hc
    obtain ⟨c, rfl, h1, h2⟩ := isB_t hc
    split
    · rename_i hl
      refine ⟨by show ln + 1 ≤ 60; omega, fun k hk => ?_⟩
      have hk : k < ln + 1 := hk
      show 32 ≤ (if k = ln then pn (nI c) else t k) ∧ (if k = ln then pn (nI c) else t k) ≤ 126
      rw [pn_nI (by omega)]
      by_cases e : k = ln
      · rw [if_pos e]; omega
      · rw [if_neg e]; exact h.2 k (by omega)
    · exact h
  · exact h
