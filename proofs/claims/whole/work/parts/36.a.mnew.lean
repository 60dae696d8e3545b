/-! THE REFERENCE'S NEW STATE -/
def FrB (Mi Mi' : MI) (Y : Nat) : Prop := (∀ a, a ≠ Y → a ≠ Y + 3 → a ≠ Y + 4 → Mi' a = Mi a) ∧ ∀ q, q ≠ 3 → q ≠ 4 → Mi' Y q = Mi Y q
theorem FrB.c {Mi Mi' Mi'' : MI} {Y : Nat} (h : FrB Mi Mi' Y) (h2 : FrC Mi' Mi'' Y) : FrB Mi Mi'' Y := ⟨fun a h1 h3 h4 => (h2.1 a h1).trans (h.1 a h1 h3 h4), fun q h3 h4 => (h2.2 q h3 h4).trans (h.2 q h3 h4)⟩
theorem MTR.frB {Mi Mi' : MI} {Y ln : Nat} {t : Nat → Nat} (h : MTR Mi Y t ln) (hf : FrB Mi Mi' Y) : MTR Mi' Y t ln := ⟨by rw [hf.2 2 (by decide) (by decide)]; exact h.1, fun k hk => by rw [hf.1 _ (by omega) (by omega) (by omega)]; exact h.2 k hk⟩
/-- what has been read of people -/
def RdP (Mi : MI) (Y : Nat) (Q : Nat → Nat) : Prop := ∀ i, i < Q 0 → Mi (Y + 4) (4 * i) = nI (Q (18 + 6 * i)) ∧ Mi (Y + 4) (4 * i + 1) = nI (Q (19 + 6 * i)) ∧ Mi (Y + 4) (4 * i + 2) = nI (Q (20 + 6 * i)) ∧ Mi (Y + 4) (4 * i + 3) = nI (Q (22 + 6 * i))
def dS0 (S : Nat → Nat) (hh i : Nat) (D : Nat → Nat) : Nat → Nat := fun j => if j = 0 then 0 else if j = 1 then 0 else if j = 2 then hh else if 6 ≤ j ∧ j < 6 + i then D (j - 6) else S j
theorem dS0_s {S D : Nat → Nat} {hh i j : Nat} (hj : j ≠ 6 + i) : dS0 S hh (i + 1) D j = dS0 S hh i D j := by
  unfold dS0
  by_cases h0 : j = 0
  · rw [if_pos h0, if_pos h0]
  · rw [if_neg h0, if_neg h0]
    by_cases h1 : j = 1
    · rw [if_pos h1, if_pos h1]
    · rw [if_neg h1, if_neg h1]
      by_cases h2 : j = 2
      · rw [if_pos h2, if_pos h2]
      · rw [if_neg h2, if_neg h2]
        by_cases h3 : 6 ≤ j ∧ j < 6 + i
        · rw [if_pos h3, if_pos (by omega)]
        · rw [if_neg h3, if_neg (by omega)]
theorem dS0_a {S D : Nat → Nat} {hh i : Nat} : dS0 S hh (i + 1) D (6 + i) = D i := by
  unfold dS0
  rw [if_neg (by omega), if_neg (by omega), if_neg (by omega), if_pos (by omega), show 6 + i - 6 = i by omega]
theorem dS0_0 {S D : Nat → Nat} {hh j : Nat} : dS0 S hh 0 D j = setS (setS (setS S 2 hh) 1 0) 0 0 j := by
  unfold dS0 setS
  by_cases h0 : j = 0
  · rw [if_pos h0, if_pos h0]
  · rw [if_neg h0, if_neg h0]
    by_cases h1 : j = 1
    · rw [if_pos h1, if_pos h1]
    · rw [if_neg h1, if_neg h1]
      by_cases h2 : j = 2
      · rw [if_pos h2, if_pos h2]
      · rw [if_neg h2, if_neg h2, if_neg (by omega)]
theorem dS0_r {S D Q : Nat → Nat} {hh j : Nat} (h6 : hh ≤ 6) : rbS S hh D (setS Q 0 0) j = dS0 S hh (2 * hh) D j := by
  unfold rbS dS0
  have e : setS Q 0 0 0 = 0 := setS_s
  rw [e]
  by_cases h0 : j = 0
  · rw [if_pos h0, if_pos h0]
  · rw [if_neg h0, if_neg h0]
    by_cases h1 : j = 1
    · rw [if_pos h1, if_pos h1]
    · rw [if_neg h1, if_neg h1]
      by_cases h2 : j = 2
      · rw [if_pos h2, if_pos h2]
      · rw [if_neg h2, if_neg h2]
        by_cases h3 : j < 6
        · rw [if_pos h3, if_neg (by omega)]
        · rw [if_neg h3]
          by_cases h4 : j < 18
          · rw [if_pos h4]
            by_cases h5 : j < 6 + 2 * hh
            · rw [if_pos h5, if_pos (by omega)]
            · rw [if_neg h5, if_neg (by omega)]
          · rw [if_neg h4, if_neg (by omega), if_neg (by omega)]
theorem PQ.cut {hh i : Nat} {Q : Nat → Nat} (h : PQ hh Q) (hi : i ≤ Q 0) : PQ hh (setS Q 0 i) := by
  have e : setS Q 0 i 0 = i := setS_s
  refine ⟨by rw [e]; have := h.1; omega, fun p hp => ?_⟩
  rw [e] at hp
  rw [setS_o (by omega), setS_o (by omega), setS_o (by omega), setS_o (by omega), setS_o (by omega), setS_o (by omega)]
  exact h.2 p (by omega)
theorem rbS_add {S D Q : Nat → Nat} {hh i : Nat} (hQ : PQ hh Q) (hi : i < Q 0) (j : Nat) : rbS S hh D (setS Q 0 (i + 1)) j = addS (rbS S hh D (setS Q 0 i)) (Q (18 + 6 * i)) (Q (19 + 6 * i)) (Q (20 + 6 * i)) (Q (22 + 6 * i)) j := by
  have e : ∀ k, setS Q 0 k 0 = k := fun k => setS_s
  have e0 : rbS S hh D (setS Q 0 i) 0 = i := by rw [rbS_0, e]
  obtain ⟨p1, p2, p3, p4, p5, p6⟩ := hQ.2 i hi
  unfold addS
  rw [e0]
  by_cases h0 : j = 0
  · rw [if_pos h0, h0, rbS_0, e]
  · rw [if_neg h0]
    have hlo : j < 18 + 6 * i → rbS S hh D (setS Q 0 (i + 1)) j = rbS S hh D (setS Q 0 i) j := fun hj => by
      by_cases h18 : 18 ≤ j
      · rw [rbS_p h18 (by rw [e]; omega), rbS_p h18 (by rw [e]; omega), setS_o h0, setS_o h0]
      · unfold rbS
        by_cases h1 : j = 1
        · rw [if_neg h0, if_pos h1, if_neg h0, if_pos h1]
        · by_cases h2 : j = 2
          · rw [if_neg h0, if_neg h1, if_pos h2, if_neg h0, if_neg h1, if_pos h2]
          · by_cases h6 : j < 6
            · rw [if_neg h0, if_neg h1, if_neg h2, if_pos h6, if_neg h0, if_neg h1, if_neg h2, if_pos h6]
            · have h18' : j < 18 := by omega
              rw [if_neg h0, if_neg h1, if_neg h2, if_neg h6, if_pos h18', if_neg h0, if_neg h1, if_neg h2, if_neg h6, if_pos h18']
    have hmid : 18 + 6 * i ≤ j → j < 24 + 6 * i → rbS S hh D (setS Q 0 (i + 1)) j = Q j := fun h1 h2 => by rw [rbS_p (by omega) (by rw [e]; omega), setS_o h0]
    by_cases a0 : j = 18 + 6 * i
    · rw [if_pos a0, hmid (by omega) (by omega), a0]
    · rw [if_neg a0]
      by_cases a1 : j = 19 + 6 * i
      · rw [if_pos a1, hmid (by omega) (by omega), a1]
      · rw [if_neg a1]
        by_cases a2 : j = 20 + 6 * i
        · rw [if_pos a2, hmid (by omega) (by omega), a2]
        · rw [if_neg a2]
          by_cases a3 : j = 21 + 6 * i
          · rw [if_pos a3, hmid (by omega) (by omega), a3]; exact p4
          · rw [if_neg a3]
            by_cases a4 : j = 22 + 6 * i
            · rw [if_pos a4, hmid (by omega) (by omega), a4]
            · rw [if_neg a4]
              by_cases a5 : j = 23 + 6 * i
              · rw [if_pos a5, hmid (by omega) (by omega), a5]; exact p6
              · rw [if_neg a5]
                by_cases hj : j < 18 + 6 * i
                · exact hlo hj
                · unfold rbS
                  rw [e, e, if_neg h0, if_neg (by omega), if_neg (by omega), if_neg (by omega), if_neg (by omega), if_neg (by omega), if_neg h0, if_neg (by omega), if_neg (by omega), if_neg (by omega), if_neg (by omega), if_neg (by omega)]
theorem setS_id {Q : Nat → Nat} : setS Q 0 (Q 0) = Q := by
  funext j
  by_cases h : j = 0
  · rw [h, setS_s]
  · rw [setS_o h]
