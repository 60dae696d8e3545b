/-- a person behind the turn, ahead of lunch -/
def PerT (M : MI) (P : Nat) (S : Nat → Nat) (i : Nat) : Prop := M P 0 = nI (S (18 + 6 * i)) ∧ M P 1 = nI (S (19 + 6 * i)) ∧ M P 2 = nI (goF S i) ∧ M P 3 = nI (goD S i) ∧ M P 4 = carI (goC S i) ∧ M P 5 = nI (S (23 + 6 * i))
theorem got_a {M : MI} {P i : Nat} {S : Nat → Nat} (h : PerR M P S i) (ht : tnB S i = false) : PerT M P S i := by
  obtain ⟨h0, h1, h2, h3, h4, h5⟩ := h
  exact ⟨h0, h1, by unfold goF; simp [ht, h2], by unfold goD; simp [ht, h3], by unfold goC; simp [ht, h4], h5⟩
theorem got_b {M M' : MI} {P i : Nat} {S : Nat → Nat} (h : PerR M P S i) (ht : tnB S i = true) (g2 : M' P 0 = M P 0) (g3 : M' P 1 = M P 1) (g4 : M' P 2 = nI (flN (S 2) (plN (S 2) (S (21 + 6 * i) - 1) (S 1 + 1)))) (g5 : M' P 3 = nI (S (6 + (S (21 + 6 * i) - 1)))) (g6 : M' P 4 = -1) (g7 : M' P 5 = M P 5) : PerT M' P S i := by
  obtain ⟨h0, h1, h2, h3, h4, h5⟩ := h
  exact ⟨by rw [g2, h0], by rw [g3, h1], by unfold goF; simp [ht, g4], by unfold goD; simp [ht, g5], by unfold goC; simp [ht, g6, carI], by rw [g7, h5]⟩
theorem gol_a {M : MI} {P i : Nat} {S : Nat → Nat} (h : PerT M P S i) (hi : i < S 0) (hno : ¬ ((S 1 + 1) % S 4 = 0 ∧ goC S i = 0 ∧ goF S i = 0)) : PerR M P (goS S) i := by
  obtain ⟨h0, h1, h2, h3, h4, h5⟩ := h
  unfold PerR
  rw [goS_k hi, goS_w hi, goS_f hi, goS_c hi, goS_d hi, goS_l hi]
  refine ⟨h0, h1, h2, h3, h4, ?_⟩
  unfold goL
  rw [if_neg hno]
  exact h5
theorem gol_b {M : MI} {P i : Nat} {S : Nat → Nat} (h : PerT M P S i) (hi : i < S 0) (hy : (S 1 + 1) % S 4 = 0 ∧ goC S i = 0 ∧ goF S i = 0) : PerR (upd2 M P 5 (nI (S (23 + 6 * i) + 1))) P (goS S) i := by
  obtain ⟨h0, h1, h2, h3, h4, h5⟩ := h
  unfold PerR
  rw [goS_k hi, goS_w hi, goS_f hi, goS_c hi, goS_d hi, goS_l hi]
  refine ⟨by rw [upd2_ne _ _ (by omega)]; exact h0, by rw [upd2_ne _ _ (by omega)]; exact h1, by rw [upd2_ne _ _ (by omega)]; exact h2, by rw [upd2_ne _ _ (by omega)]; exact h3, by rw [upd2_ne _ _ (by omega)]; exact h4, ?_⟩
  rw [upd2_same]
  unfold goL
  rw [if_pos hy]

set_option maxHeartbeats 4000000 in
set_option maxRecDepth 100000 in
theorem c_goOn {g : GT} {T : TT} {Mi : MI} {Ml : ML} {A B : Nat} {S : Nat → Nat} (hA : ScnS g T A) (hB : BlkS g T B) (hR9 : ScnR Mi A S) (hRB : BlkR Mi B S) (hW : WF S) (hne : A + 8 ≤ B ∨ B + 2 ≤ A) : Ct g yX6_goOn cX6_goOn 5 none 5 0 0 [.ref A, .ref B] T Mi Ml (Gv T (fun Mi' Ml' => Ml' = Ml ∧ Fr Mi Mi' A (A + 8) ∧ ScnR Mi' A (goS S))) := by
  refine Ct.of' (plainFor_of_name (by decide +kernel)) (by exact Nat.le_of_ble_eq_true rfl) ?_
  intro x hg hR h hr hnm hnl
  subst hg
  obtain ⟨s1, s2, s3, s4, s5⟩ := id hA
  obtain ⟨v1, v2, v3, v4⟩ := id hR9
  obtain ⟨b1, b2, b3⟩ := id hB
  obtain ⟨y0, y1, y2, y3⟩ := id hRB
  obtain ⟨w0, w1, w2, w3, w4, w5, w6, w7⟩ := id hW
  refine jv_aload_n h dX6_goOn_0 rfl ?_
  refine jv_dup h dX6_goOn_1 rfl ?_
  refine jv_gv 2 h dX6_goOn_2 cf_5 (by decide) gw_125 (by first | assumption | exact s4 _ (by omega) | exact s5 _ (by omega)) (by first | assumption | exact (upd2_same _ _ _ _) | exact (upd2_ne _ _ (by omega)).trans (by assumption)) ?_
  refine jv_iconst (nI 1) h dX6_goOn_5 (by decide) ?_
  first | refine jv_iaddN h dX6_goOn_6 (by repeat (with_reducible first | exact NF_nI _ | assumption | refine NF_add ?_ ?_ | refine NF_mul ?_ ?_)) (by repeat (with_reducible first | exact NF_nI _ | assumption | refine NF_add ?_ ?_ | refine NF_mul ?_ ?_)) ?_ | refine jv_iadd h dX6_goOn_6 ?_
  refine jv_pi 2 h dX6_goOn_7 cf_5 (by decide) gw_125 (by first | assumption | exact s4 _ (by omega) | exact s5 _ (by omega)) rfl rfl rfl ?_
  refine jv_aload_n h dX6_goOn_10 rfl ?_
  refine jv_gv 2 h dX6_goOn_11 cf_5 (by decide) gw_125 (by first | assumption | exact s4 _ (by omega) | exact s5 _ (by omega)) (by first | assumption | exact (upd2_same _ _ _ _) | exact (upd2_ne _ _ (by omega)).trans (by assumption)) ?_
  refine jv_aload_n h dX6_goOn_14 rfl ?_
  refine jv_gv 2 h dX6_goOn_15 cf_1 (by decide) gw_51 (by first | assumption | exact s4 _ (by omega) | exact s5 _ (by omega)) (by first | assumption | exact (upd2_same _ _ _ _) | exact (upd2_ne _ _ (by omega)).trans (by assumption)) ?_
  refine jv_SNRi [_, _] h dX6_goOn_18 cw_X6_45 (c_leftOver (X := ((S 1 + 1 : Nat) : Int)) (nI_toInt (by omega)) (NF_nI _) (by omega) ⟨by omega, by omega⟩) (by decide) rfl rfl (Nat.le_of_ble_eq_true rfl) ⟨Nat.zero_le _, Nat.zero_le _⟩ ?_
  have elu : (((S 1 + 1 : Nat) : Int) % ((S 4 : Nat) : Int)).toNat = (S 1 + 1) % S 4 := by rfl
  rw [elu]
  have hml := Nat.mod_lt (S 1 + 1) (show 0 < S 4 by omega)
  have hj29 : True → V x 0 0 T (upd2 Mi A 2 (nI (S 1 + 1))) Ml 29 [some (.ref A), some (.ref B), none, none, none] [.int (bI (decide ((S 1 + 1) % S 4 = 0)))] := by
    intro _
    refine jv_istore_n h dX6_goOn_29 (lt_nl hnl (by decide)) ?_
    refine jv_iconst (nI 0) h dX6_goOn_30 (by decide) ?_
    refine jv_istore_n h dX6_goOn_31 (lt_nl hnl (by decide)) ?_
    have hl32 : ∀ (n : Nat) (i : Nat) (M1 : MI), S 0 - i < n → i ≤ S 0 → Fr Mi M1 A (A + 8) → M1 A 1 = nI (S 0) → M1 A 2 = nI (S 1 + 1) → M1 A 3 = nI (S 5) → (∀ p, p < i → PerR M1 (A + 2 + p) (goS S) p) → (∀ p, i ≤ p → p < S 0 → PerR M1 (A + 2 + p) S p) → V x 0 0 T M1 Ml 32 [some (.ref A), some (.ref B), some (.int (bI (decide ((S 1 + 1) % S 4 = 0)))), some (.int (nI i)), none] [] := by
      intro n
      induction n with
      | zero => intro i M1 hN9 hi f1 f2 f3 f4 f5 f6; exact absurd hN9 (by omega)
      | succ n ih =>
        intro i M1 hN9 hi f1 f2 f3 f4 f5 f6
        refine jv_iload_n h dX6_goOn_32 rfl ?_
        refine jv_aload_n h dX6_goOn_33 rfl ?_
        refine jv_gv 1 h dX6_goOn_34 cf_5 (by decide) gw_123 (by first | assumption | exact s4 _ (by omega) | exact s5 _ (by omega)) (by first | assumption | exact (upd2_same _ _ _ _) | exact (upd2_ne _ _ (by omega)).trans (by assumption)) ?_
        refine jv_nge 105 h dX6_goOn_37 (by decide) (by repeat (with_reducible first | exact NF_nI _ | assumption | refine NF_add ?_ ?_ | refine NF_mul ?_ ?_)) (by repeat (with_reducible first | exact NF_nI _ | assumption | refine NF_add ?_ ?_ | refine NF_mul ?_ ?_)) ⟨by omega, by omega⟩ (fun c37 => ?_) (fun c37 => ?_)
        · exact jv_vret h hr dX6_goOn_105 ⟨rfl, rfl, rfl, f1, by rw [goS_0]; exact f2, f3, by rw [goS_lo (by decide) (by decide)]; exact f4, fun p hp => by rw [goS_0] at hp; exact f5 p (by omega)⟩
        · have hiS : i < S 0 := by omega
          have w7i := w7 i hiS
          have hpl := plN_lt (h := S 2) (c := S (21 + 6 * i) - 1) (s := S 1 + 1) (by omega)
          have hfl := flN_lt hpl
          obtain ⟨q0, q1, q2, q3, q4, q5⟩ := f6 i (by omega) hiS
          have yB : M1 B = Mi B := f1 B (by omega)
          have yB1 : M1 (B + 1) = Mi (B + 1) := f1 _ (by omega)
          have y0' : M1 B 0 = nI (S 2) := by rw [yB]; exact y0
          have hj99 : ∀ (M3 : MI), Fr M1 M3 (A + 2 + i) (A + 2 + i + 1) → PerR M3 (A + 2 + i) (goS S) i → V x 0 0 T M3 Ml 99 [some (.ref A), some (.ref B), some (.int (bI (decide ((S 1 + 1) % S 4 = 0)))), some (.int (nI i)), some (.ref (A + 2 + i))] [] := by
            intro M3 r1 r2
            refine jv_iinc (nI (i + 1)) h dX6_goOn_99 rfl (lt_nl hnl (by decide)) (nI_inc i) ?_
            refine jv_goto 32 h dX6_goOn_102 (by decide) ?_
            refine jv_forget5 ?_
            exact ih (i + 1) M3 (by omega) (by omega) (f1.tr r1 (by omega)) (by rw [r1 A (by omega)]; exact f2) (by rw [r1 A (by omega)]; exact f3) (by rw [r1 A (by omega)]; exact f4) (fun p hp => by
              by_cases hpi : p = i
              · subst hpi; exact r2
              · exact (f5 p (by omega)).fr (r1 _ (by omega))) (fun p hp1 hp2 => (f6 p (by omega) hp2).fr (r1 _ (by omega)))
          have hj68 : ∀ (M2 : MI), Fr M1 M2 (A + 2 + i) (A + 2 + i + 1) → PerT M2 (A + 2 + i) S i → V x 0 0 T M2 Ml 68 [some (.ref A), some (.ref B), some (.int (bI (decide ((S 1 + 1) % S 4 = 0)))), some (.int (nI i)), some (.ref (A + 2 + i))] [] := by
            intro M2 k1 k2
            obtain ⟨k20, k21, k22, k23, k24, k25⟩ := id k2
            have hgc : goC S i ≤ 2 * S 2 := by unfold goC; split <;> omega
            have hgf : goF S i < 7 := by unfold goF; split <;> omega
            refine jv_iload_n h dX6_goOn_68 rfl ?_
            refine jv_beq 99 h dX6_goOn_69 (by decide) (fun c69 => ?_) (fun c69 => ?_)
            · first | exact hj99 _ k1 (gol_a k2 hiS (by intro z; simp_all)) | exact hj99 _ (Fr.tr k1 (Fr.up (lo := A + 2 + i) (hi := A + 2 + i + 1) (by omega)) (by omega)) (gol_b k2 hiS (by simp_all))
            · refine jv_aload h dX6_goOn_72 rfl ?_
              refine jv_VRi [] h dX6_goOn_74 cw_X6_57 cf_4 (by first | assumption | exact s4 _ (by omega) | exact s5 _ (by omega)) (c_rides (by first | assumption | exact s4 _ (by omega) | exact s5 _ (by omega)) (by first | assumption | exact (upd2_same _ _ _ _) | exact (upd2_ne _ _ (by omega)).trans (by assumption)) (by omega)) (by decide) rfl rfl (Nat.le_of_ble_eq_true rfl) ⟨Nat.zero_le _, Nat.zero_le _⟩ ?_
              refine jv_bne 99 h dX6_goOn_77 (by decide) (fun c77 => ?_) (fun c77 => ?_)
              · first | exact hj99 _ k1 (gol_a k2 hiS (by intro z; simp_all)) | exact hj99 _ (Fr.tr k1 (Fr.up (lo := A + 2 + i) (hi := A + 2 + i + 1) (by omega)) (by omega)) (gol_b k2 hiS (by simp_all))
              · refine jv_aload h dX6_goOn_80 rfl ?_
                refine jv_gv 2 h dX6_goOn_82 cf_4 (by decide) gw_92 (by first | assumption | exact s4 _ (by omega) | exact s5 _ (by omega)) (by first | assumption | exact (upd2_same _ _ _ _) | exact (upd2_ne _ _ (by omega)).trans (by assumption)) ?_
                refine jv_zne 99 h dX6_goOn_85 (by decide) (by repeat (with_reducible first | exact NF_nI _ | assumption | refine NF_add ?_ ?_ | refine NF_mul ?_ ?_)) (by omega) (fun c85 => ?_) (fun c85 => ?_)
                · first | exact hj99 _ k1 (gol_a k2 hiS (by intro z; simp_all)) | exact hj99 _ (Fr.tr k1 (Fr.up (lo := A + 2 + i) (hi := A + 2 + i + 1) (by omega)) (by omega)) (gol_b k2 hiS (by simp_all))
                · refine jv_aload h dX6_goOn_88 rfl ?_
                  refine jv_dup h dX6_goOn_90 rfl ?_
                  refine jv_gv 5 h dX6_goOn_91 cf_4 (by decide) gw_104 (by first | assumption | exact s4 _ (by omega) | exact s5 _ (by omega)) (by first | assumption | exact (upd2_same _ _ _ _) | exact (upd2_ne _ _ (by omega)).trans (by assumption)) ?_
                  refine jv_iconst (nI 1) h dX6_goOn_94 (by decide) ?_
                  first | refine jv_iaddN h dX6_goOn_95 (by repeat (with_reducible first | exact NF_nI _ | assumption | refine NF_add ?_ ?_ | refine NF_mul ?_ ?_)) (by repeat (with_reducible first | exact NF_nI _ | assumption | refine NF_add ?_ ?_ | refine NF_mul ?_ ?_)) ?_ | refine jv_iadd h dX6_goOn_95 ?_
                  refine jv_pi 5 h dX6_goOn_96 cf_4 (by decide) gw_104 (by first | assumption | exact s4 _ (by omega) | exact s5 _ (by omega)) rfl rfl rfl ?_
                  first | exact hj99 _ k1 (gol_a k2 hiS (by intro z; simp_all)) | exact hj99 _ (Fr.tr k1 (Fr.up (lo := A + 2 + i) (hi := A + 2 + i + 1) (by omega)) (by omega)) (gol_b k2 hiS (by simp_all))
          refine jv_aload_n h dX6_goOn_40 rfl ?_
          refine jv_gr 0 h dX6_goOn_41 cf_5 (by decide) gw_118 (by first | assumption | exact s4 _ (by omega) | exact s5 _ (by omega)) (by first | assumption | exact s4 _ (by omega) | exact s5 _ (by omega)) ?_
          refine jv_iload_n h dX6_goOn_44 rfl ?_
          refine jv_aald h dX6_goOn_45 (by first | assumption | exact s4 _ (by omega) | exact s5 _ (by omega)) (by decide) (by repeat (with_reducible first | exact NF_nI _ | assumption | refine NF_add ?_ ?_ | refine NF_mul ?_ ?_)) ⟨by omega, by decide⟩ (by first | assumption | exact s4 _ (by omega) | exact s5 _ (by omega)) ?_
          refine jv_astore h dX6_goOn_46 (lt_nl hnl (by decide)) ?_
          refine jv_aload_n h dX6_goOn_48 rfl ?_
          refine jv_aload h dX6_goOn_49 rfl ?_
          refine jv_aload_n h dX6_goOn_51 rfl ?_
          refine jv_VRi [_, _] h dX6_goOn_52 cw_X6_49 cf_5 (by first | assumption | exact s4 _ (by omega) | exact s5 _ (by omega)) (c_isTurned (by assumption) (s4 i (by omega)) (by assumption) f3 (hb := by omega) (by assumption) (by assumption) (by assumption) (by omega)) (by decide) rfl rfl (Nat.le_of_ble_eq_true rfl) ⟨Nat.zero_le _, Nat.zero_le _⟩ ?_
          refine jv_beq 68 h dX6_goOn_55 (by decide) (fun c55 => ?_) (fun c55 => ?_)
          · first | exact hj68 _ (Fr.rf _ _ _) (got_a (f6 i (by omega) hiS) c55) | exact hj68 _ g1 (got_b (f6 i (by omega) hiS) c55 g2 g3 g4 g5 g6 g7)
          · have c55' := c55
            simp at c55'
            have hc9 : M1 (A + 2 + i) 4 = nI (S (21 + 6 * i) - 1) := by rw [q4]; unfold carI; rw [if_neg c55'.1]
            have hd9 : M1 (B + 1) (S (21 + 6 * i) - 1) = nI (S (6 + (S (21 + 6 * i) - 1))) := by rw [yB1]; exact y3 _ (by omega)
            refine jv_aload h dX6_goOn_58 rfl ?_
            refine jv_aload_n h dX6_goOn_60 rfl ?_
            refine jv_aload_n h dX6_goOn_61 rfl ?_
            refine jv_gv 2 h dX6_goOn_62 cf_5 (by decide) gw_125 (by first | assumption | exact s4 _ (by omega) | exact s5 _ (by omega)) (by first | assumption | exact (upd2_same _ _ _ _) | exact (upd2_ne _ _ (by omega)).trans (by assumption)) ?_
            refine jv_VGv [_, _] h dX6_goOn_65 cw_X6_53 cf_4 (by first | assumption | exact s4 _ (by omega) | exact s5 _ (by omega)) (c_getOut (s4 i (by omega)) hB (by assumption) hc9 hd9 (NF_nI _) (by omega) (by omega)) (by decide) rfl rfl (Nat.le_of_ble_eq_true rfl) ⟨Nat.zero_le _, Nat.zero_le _⟩ (fun Mi65 Ml65 hp65 => ?_)
            obtain ⟨rfl, g1, g2, g3, g4, g5, g6, g7⟩ := hp65
            first | exact hj68 _ (Fr.rf _ _ _) (got_a (f6 i (by omega) hiS) c55) | exact hj68 _ g1 (got_b (f6 i (by omega) hiS) c55 g2 g3 g4 g5 g6 g7)
    exact hl32 (S 0 + 1) 0 _ (by omega) (by omega) (Fr.up (by omega)) (by rw [upd2_ne _ _ (by omega)]; exact v1) (by rw [upd2_same]) (by rw [upd2_ne _ _ (by omega)]; exact v3) (fun p hp => absurd hp (by omega)) (fun p _ hp => (v4 p hp).fr (upd2_row _ _ (by omega)))
  refine jv_zne 28 h dX6_goOn_21 (by decide) (by repeat (with_reducible first | exact NF_nI _ | assumption | refine NF_add ?_ ?_ | refine NF_mul ?_ ?_)) (by omega) (fun c21 => ?_) (fun c21 => ?_)
  · refine jv_iconst (nI 0) h dX6_goOn_28 (by decide) ?_
    rw [show nI 0 = bI (decide ((S 1 + 1) % S 4 = 0)) by simp [c21, bI]]
    exact hj29 trivial
  · refine jv_iconst (nI 1) h dX6_goOn_24 (by decide) ?_
    rw [show nI 1 = bI (decide ((S 1 + 1) % S 4 = 0)) by simp [c21, bI]]
    refine jv_goto 29 h dX6_goOn_25 (by decide) ?_
    exact hj29 trivial
