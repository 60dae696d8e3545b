set_option maxHeartbeats 4000000 in
set_option maxRecDepth 100000 in
theorem c_bestChange {g : GT} {T : TT} {Mi : MI} {Ml : ML} {W st kk j : Nat} {S : Nat → Nat} {A : Nat → Bool} (hK : WkS g T W) (hB : BlkR Mi (W + 1) S) (hW : WF S) (hs : Mi W 2 = nI st) (hst : st ≤ 10000) (hk : Mi W 1 = nI kk) (hk5 : kk < 5) (hA : BR (Ml W 3) A) (hj : j < 54) {dd : Nat} {b : Bool} {v w : Int32} (hv : NF v dd) (hd : dd < 7) (hw : w = bI b) : Ct g yX9_bestChange cX9_bestChange 11 (some .int) 7 0 0 [.ref W, .long (lN (2 ^ j)), .int v, .int w] T Mi Ml (Gi T (fun rv Mi' Ml' => (∃ N, (((∃ c, c < 2 * S 2 ∧ S (6 + c) = dd) ∧ N = 2 * S 2) ∨ (¬ (∃ c, c < 2 * S 2 ∧ S (6 + c) = dd) ∧ N = 0)) ∧ rv = bcI (ouF (cstp S A kk st j) N (bst0 (fsN (wmB S A kk st j) 0 61), -4) N) b) ∧ (∀ a, a ≠ W → Mi' a = Mi a) ∧ (∀ q, q ≠ 4 → Mi' W q = Mi W q) ∧ (∀ a, a ≠ W → Ml' a = Ml a) ∧ (∀ q, q ≠ 5 → Ml' W q = Ml W q))) := by
  refine Ct.of' (plainFor_of_name (by decide +kernel)) (by exact Nat.le_of_ble_eq_true rfl) ?_
  intro x hg hR h hr hnm hnl
  subst hg
  obtain ⟨k1, k2, k3⟩ := id hK
  obtain ⟨b1, b2, b3⟩ := id k3
  obtain ⟨y0, y1, y2, y3⟩ := id hB
  obtain ⟨w0, w1, w2, w3, w4, w5, w6, w7⟩ := id hW
  obtain rfl : v = nI dd := hv
  subst hw
  refine jv_aload_n h dX9_bestChange_0 rfl ?_
  refine jv_lload_n h dX9_bestChange_1 rfl ?_
  refine jv_bipush (nI 60) h dX9_bestChange_2 (by decide) ?_
  refine jv_VGi [_, _] h dX9_bestChange_4 cw_X9_134 cf_8 (by assumption) (c_fewest hK hB hW hs hst hk hk5 hA hj (carI_s 60).symm (by decide)) (by decide) rfl rfl (Nat.le_of_ble_eq_true rfl) ⟨Nat.zero_le _, Nat.zero_le _⟩ (fun v_4 Mi4 Ml4 hp4 => ?_)
  obtain ⟨w9, e1, e2, e3, e4⟩ := hp4
  subst v_4
  have hB1 : BlkR Mi4 (W + 1) S := hB.fr (e1 _ (by omega)) (e1 _ (by omega))
  have hj23 : ∀ (v9 n5 : Int32), v9 = nI (bst0 (fsN (wmB S A kk st j) 0 61)) → V x 0 0 T Mi4 Ml4 23 [some (.ref W), some (.long (lN (2 ^ j))), none, some (.int (nI dd)), some (.int (bI b)), some (.int n5), none, none, none, none, none] [.int v9] := by
    intro v9 n5 hv9
    subst hv9
    refine jv_istore h dX9_bestChange_23 (lt_nl hnl (by decide)) ?_
    refine jv_bipush (-4) h dX9_bestChange_25 (by decide) ?_
    refine jv_istore h dX9_bestChange_27 (lt_nl hnl (by decide)) ?_
    have hj48 : ∀ (N : Nat), ((∃ c, c < 2 * S 2 ∧ S (6 + c) = dd) ∧ N = 2 * S 2) ∨ (¬ (∃ c, c < 2 * S 2 ∧ S (6 + c) = dd) ∧ N = 0) → V x 0 0 T Mi4 Ml4 48 [some (.ref W), some (.long (lN (2 ^ j))), none, some (.int (nI dd)), some (.int (bI b)), some (.int n5), some (.int (nI (bst0 (fsN (wmB S A kk st j) 0 61)))), some (.int (-4)), none, none, none] [.int (nI N)] := by
      intro N hNN
      have hN : N ≤ 2 * S 2 := by rcases hNN with ⟨-, z⟩ | ⟨-, z⟩ <;> omega
      refine jv_istore h dX9_bestChange_48 (lt_nl hnl (by decide)) ?_
      refine jv_iconst (nI 0) h dX9_bestChange_50 (by decide) ?_
      refine jv_istore h dX9_bestChange_51 (lt_nl hnl (by decide)) ?_
      have hl53 : ∀ (n : Nat) (k : Nat) (M1 : MI) (L1 : ML) (o5 o10 : Option Value), 13 - k < n → k ≤ N → (∀ a, a ≠ W → M1 a = Mi a) → (∀ q, q ≠ 4 → M1 W q = Mi W q) → (∀ a, a ≠ W → L1 a = Ml a) → (∀ q, q ≠ 5 → L1 W q = Ml W q) → V x 0 0 T M1 L1 53 [some (.ref W), some (.long (lN (2 ^ j))), none, some (.int (nI dd)), some (.int (bI b)), o5, some (.int (nI (ouF (cstp S A kk st j) N (bst0 (fsN (wmB S A kk st j) 0 61), -4) k).1)), some (.int (ouF (cstp S A kk st j) N (bst0 (fsN (wmB S A kk st j) 0 61), -4) k).2), some (.int (nI N)), some (.int (nI k)), o10] [] := by
        intro n
        induction n with
        | zero => intro k M1 L1 o5 o10 hN9 hkN f1 f2 f4 f5; exact absurd hN9 (by omega)
        | succ n ih =>
          intro k M1 L1 o5 o10 hN9 hkN f1 f2 f4 f5
          refine jv_iload h dX9_bestChange_53 rfl ?_
          refine jv_iload h dX9_bestChange_55 rfl ?_
          refine jv_nge 133 h dX9_bestChange_57 (by decide) (by repeat (with_reducible first | exact NF_nI _ | assumption | refine NF_add ?_ ?_ | refine NF_mul ?_ ?_)) (by repeat (with_reducible first | exact NF_nI _ | assumption | refine NF_add ?_ ?_ | refine NF_mul ?_ ?_)) ⟨by omega, by omega⟩ (fun c57 => ?_) (fun c57 => ?_)
          · refine jv_iload h dX9_bestChange_133 rfl ?_
            refine jv_beq 150 h dX9_bestChange_135 (by decide) (fun c135 => ?_) (fun c135 => ?_)
            · refine jv_iload h dX9_bestChange_150 rfl ?_
              exact jv_iret h hr dX9_bestChange_152 ⟨_, rfl, rfl, ⟨N, hNN, by
      have hkz : ouF (cstp S A kk st j) N (bst0 (fsN (wmB S A kk st j) 0 61), -4) N = ouF (cstp S A kk st j) N (bst0 (fsN (wmB S A kk st j) 0 61), -4) k := by rw [show k = N by omega]
      rw [hkz]
      first
      | (have q_ := c142; exact bc_a c135 q_)
      | (have q_ := c142; exact bc_b q_)
      | exact bc_c c135⟩, f1, f2, f4, f5⟩
            · refine jv_iload h dX9_bestChange_138 rfl ?_
              refine jv_bipush (-4) h dX9_bestChange_140 (by decide) ?_
              refine jv_icmp_eq 150 h dX9_bestChange_142 (by decide) (fun c142 => ?_) (fun c142 => ?_)
              · refine jv_iload h dX9_bestChange_150 rfl ?_
                exact jv_iret h hr dX9_bestChange_152 ⟨_, rfl, rfl, ⟨N, hNN, by
      have hkz : ouF (cstp S A kk st j) N (bst0 (fsN (wmB S A kk st j) 0 61), -4) N = ouF (cstp S A kk st j) N (bst0 (fsN (wmB S A kk st j) 0 61), -4) k := by rw [show k = N by omega]
      rw [hkz]
      first
      | (have q_ := c142; exact bc_a c135 q_)
      | (have q_ := c142; exact bc_b q_)
      | exact bc_c c135⟩, f1, f2, f4, f5⟩
              · refine jv_iload h dX9_bestChange_145 rfl ?_
                refine jv_goto 152 h dX9_bestChange_147 (by decide) ?_
                exact jv_iret h hr dX9_bestChange_152 ⟨_, rfl, rfl, ⟨N, hNN, by
      have hkz : ouF (cstp S A kk st j) N (bst0 (fsN (wmB S A kk st j) 0 61), -4) N = ouF (cstp S A kk st j) N (bst0 (fsN (wmB S A kk st j) 0 61), -4) k := by rw [show k = N by omega]
      rw [hkz]
      first
      | (have q_ := c142; exact bc_a c135 q_)
      | (have q_ := c142; exact bc_b q_)
      | exact bc_c c135⟩, f1, f2, f4, f5⟩
          · refine jv_iload h dX9_bestChange_60 rfl ?_
            refine jv_iconst (nI 1) h dX9_bestChange_62 (by decide) ?_
            first | refine jv_iaddN h dX9_bestChange_63 (by repeat (with_reducible first | exact NF_nI _ | assumption | refine NF_add ?_ ?_ | refine NF_mul ?_ ?_)) (by repeat (with_reducible first | exact NF_nI _ | assumption | refine NF_add ?_ ?_ | refine NF_mul ?_ ?_)) ?_ | refine jv_iadd h dX9_bestChange_63 ?_
            refine jv_istore h dX9_bestChange_64 (lt_nl hnl (by decide)) ?_
            have ih53 := ih
            have hl66 : ∀ (n : Nat) (l : Nat) (M2 : MI) (L2 : ML) (o5 : Option Value), 13 - l < n → k + 1 ≤ l → l ≤ N → (∀ a, a ≠ W → M2 a = Mi a) → (∀ q, q ≠ 4 → M2 W q = Mi W q) → (∀ a, a ≠ W → L2 a = Ml a) → (∀ q, q ≠ 5 → L2 W q = Ml W q) → V x 0 0 T M2 L2 66 [some (.ref W), some (.long (lN (2 ^ j))), none, some (.int (nI dd)), some (.int (bI b)), o5, some (.int (nI (inF (cstp S A kk st j) k (ouF (cstp S A kk st j) N (bst0 (fsN (wmB S A kk st j) 0 61), -4) k) (l - (k + 1))).1)), some (.int (inF (cstp S A kk st j) k (ouF (cstp S A kk st j) N (bst0 (fsN (wmB S A kk st j) 0 61), -4) k) (l - (k + 1))).2), some (.int (nI N)), some (.int (nI k)), some (.int (nI l))] [] := by
              intro n
              induction n with
              | zero => intro l M2 L2 o5 hN8 hkl hlN g1 g2 g3 g4; exact absurd hN8 (by omega)
              | succ n ih =>
                intro l M2 L2 o5 hN8 hkl hlN g1 g2 g3 g4
                have hz0 := ouF_le (S := S) (A := A) (kk := kk) (st := st) (j := j) (N := N) (z := (bst0 (fsN (wmB S A kk st j) 0 61), -4)) bst0_le k
                have hz1 : (inF (cstp S A kk st j) k (ouF (cstp S A kk st j) N (bst0 (fsN (wmB S A kk st j) 0 61), -4) k) (l - (k + 1))).1 ≤ 61 := Nat.le_trans (inF_le (Nat.le_trans hz0 bst0_le) _) (Nat.le_trans hz0 bst0_le)
                refine jv_iload h dX9_bestChange_66 rfl ?_
                refine jv_iload h dX9_bestChange_68 rfl ?_
                refine jv_nge 127 h dX9_bestChange_70 (by decide) (by repeat (with_reducible first | exact NF_nI _ | assumption | refine NF_add ?_ ?_ | refine NF_mul ?_ ?_)) (by repeat (with_reducible first | exact NF_nI _ | assumption | refine NF_add ?_ ?_ | refine NF_mul ?_ ?_)) ⟨by omega, by omega⟩ (fun c70 => ?_) (fun c70 => ?_)
                · have h6 : (inF (cstp S A kk st j) k (ouF (cstp S A kk st j) N (bst0 (fsN (wmB S A kk st j) 0 61), -4) k) (l - (k + 1))) = (ouF (cstp S A kk st j) N (bst0 (fsN (wmB S A kk st j) 0 61), -4) (k + 1)) := by rw [show l = N by omega]; rfl
                  refine jv_iinc (nI (k + 1)) h dX9_bestChange_127 rfl (lt_nl hnl (by decide)) (nI_inc k) ?_
                  refine jv_goto 53 h dX9_bestChange_130 (by decide) ?_
                  have hI := ih53 (k + 1) _ _ o5 (some (.int (nI l))) (by omega) (by omega) g1 g2 g3 g4
                  rw [← h6] at hI
                  exact hI
                · have e9 : (inF (cstp S A kk st j) k (ouF (cstp S A kk st j) N (bst0 (fsN (wmB S A kk st j) 0 61), -4) k) (l + 1 - (k + 1))) = if fcI S A kk st j k l (inF (cstp S A kk st j) k (ouF (cstp S A kk st j) N (bst0 (fsN (wmB S A kk st j) 0 61), -4) k) (l - (k + 1))).1 = -4 then (inF (cstp S A kk st j) k (ouF (cstp S A kk st j) N (bst0 (fsN (wmB S A kk st j) 0 61), -4) k) (l - (k + 1))) else (pn (fcI S A kk st j k l (inF (cstp S A kk st j) k (ouF (cstp S A kk st j) N (bst0 (fsN (wmB S A kk st j) 0 61), -4) k) (l - (k + 1))).1), nI (100 * k + l)) := by
                    rw [show l + 1 - (k + 1) = (l - (k + 1)) + 1 by omega]
                    show cstp S A kk st j k (k + 1 + (l - (k + 1))) _ = _
                    rw [show k + 1 + (l - (k + 1)) = l by omega]
                    rfl
                  refine jv_aload_n h dX9_bestChange_73 rfl ?_
                  refine jv_iload h dX9_bestChange_74 rfl ?_
                  refine jv_iload h dX9_bestChange_76 rfl ?_
                  refine jv_VGv [_, _] h dX9_bestChange_78 cw_X9_142 cf_8 (by assumption) (c_changeDays hK (NF_nI _) (NF_nI _) ⟨by omega, by omega⟩) (by decide) rfl rfl (Nat.le_of_ble_eq_true rfl) ⟨Nat.zero_le _, Nat.zero_le _⟩ (fun Mi78 Ml78 hp78 => ?_)
                  have hm9 := hp78.2
                  subst Ml78
                  obtain ⟨rfl, -⟩ := hp78
                  have hkx : k < 2 * S 2 := by omega
                  have hlx : l < 2 * S 2 := by omega
                  have hB2 : BlkR M2 (W + 1) S := hB.fr (g1 _ (by omega)) (g1 _ (by omega))
                  have s2 : (upd2 (upd2 M2 (W + 1 + 1) k (M2 (W + 1 + 1) l)) (W + 1 + 1) l (M2 (W + 1 + 1) k)) W 2 = nI st := (congrFun ((upd2_row _ _ (by omega)).trans (upd2_row _ _ (by omega))) 2).trans ((g2 2 (by decide)).trans hs)
                  have s1 : (upd2 (upd2 M2 (W + 1 + 1) k (M2 (W + 1 + 1) l)) (W + 1 + 1) l (M2 (W + 1 + 1) k)) W 1 = nI kk := (congrFun ((upd2_row _ _ (by omega)).trans (upd2_row _ _ (by omega))) 1).trans ((g2 1 (by decide)).trans hk)
                  refine jv_aload_n h dX9_bestChange_81 rfl ?_
                  refine jv_lload_n h dX9_bestChange_82 rfl ?_
                  refine jv_iload h dX9_bestChange_83 rfl ?_
                  refine jv_iconst (nI 1) h dX9_bestChange_85 (by decide) ?_
                  refine jv_isub h dX9_bestChange_86 ?_
                  rw [carI_sub]
                  refine jv_VGi [_, _] h dX9_bestChange_87 cw_X9_134 cf_8 (by assumption) (c_fewest hK (hB2.sw hkx hlx) (swS_WF hW hkx hlx) s2 hst s1 hk5 (by rw [g4 3 (by decide)]; exact hA) hj rfl hz1) (by decide) rfl rfl (Nat.le_of_ble_eq_true rfl) ⟨Nat.zero_le _, Nat.zero_le _⟩ (fun v_87 Mi87 Ml87 hp87 => ?_)
                  obtain ⟨w9, m1, m2, i3, i4⟩ := hp87
                  have w8 : v_87 = fcI S A kk st j k l (inF (cstp S A kk st j) k (ouF (cstp S A kk st j) N (bst0 (fsN (wmB S A kk st j) 0 61), -4) k) (l - (k + 1))).1 := w9
                  clear w9
                  subst v_87
                  refine jv_istore h dX9_bestChange_90 (lt_nl hnl (by decide)) ?_
                  refine jv_aload_n h dX9_bestChange_92 rfl ?_
                  refine jv_iload h dX9_bestChange_93 rfl ?_
                  refine jv_iload h dX9_bestChange_95 rfl ?_
                  refine jv_VGv [_, _] h dX9_bestChange_97 cw_X9_142 cf_8 (by assumption) (c_changeDays hK (NF_nI _) (NF_nI _) ⟨by omega, by omega⟩) (by decide) rfl rfl (Nat.le_of_ble_eq_true rfl) ⟨Nat.zero_le _, Nat.zero_le _⟩ (fun Mi97 Ml97 hp97 => ?_)
                  have hm9 := hp97.2
                  subst Ml97
                  obtain ⟨rfl, -⟩ := hp97
                  have i1 : ∀ a, a ≠ W → (upd2 (upd2 Mi87 (W + 1 + 1) k (Mi87 (W + 1 + 1) l)) (W + 1 + 1) l (Mi87 (W + 1 + 1) k)) a = M2 a := fun a ha => by
                    by_cases haw : a = W + 1 + 1
                    · rw [haw]; exact upd_back (m1 (W + 1 + 1) (by omega))
                    · rw [upd2_row _ _ haw, upd2_row _ _ haw, m1 a ha, upd2_row _ _ haw, upd2_row _ _ haw]
                  have i2 : ∀ q, q ≠ 4 → (upd2 (upd2 Mi87 (W + 1 + 1) k (Mi87 (W + 1 + 1) l)) (W + 1 + 1) l (Mi87 (W + 1 + 1) k)) W q = M2 W q := fun q hq => by rw [upd2_row _ _ (by omega), upd2_row _ _ (by omega), m2 q hq, upd2_row _ _ (by omega), upd2_row _ _ (by omega)]
                  refine jv_iload h dX9_bestChange_100 rfl ?_
                  refine jv_bipush (-4) h dX9_bestChange_102 (by decide) ?_
                  refine jv_icmp_eq 121 h dX9_bestChange_104 (by decide) (fun c104 => ?_) (fun c104 => ?_)
                  · have h6 : nI (inF (cstp S A kk st j) k (ouF (cstp S A kk st j) N (bst0 (fsN (wmB S A kk st j) 0 61), -4) k) (l - (k + 1))).1 = nI (inF (cstp S A kk st j) k (ouF (cstp S A kk st j) N (bst0 (fsN (wmB S A kk st j) 0 61), -4) k) (l + 1 - (k + 1))).1 := by rw [e9, if_pos c104]
                    have h7 : (inF (cstp S A kk st j) k (ouF (cstp S A kk st j) N (bst0 (fsN (wmB S A kk st j) 0 61), -4) k) (l - (k + 1))).2 = (inF (cstp S A kk st j) k (ouF (cstp S A kk st j) N (bst0 (fsN (wmB S A kk st j) 0 61), -4) k) (l + 1 - (k + 1))).2 := by rw [e9, if_pos c104]
                    refine jv_iinc (nI (l + 1)) h dX9_bestChange_121 rfl (lt_nl hnl (by decide)) (nI_inc l) ?_
                    refine jv_goto 66 h dX9_bestChange_124 (by decide) ?_
                    have hI := ih (l + 1) _ _ (some (.int (fcI S A kk st j k l (inF (cstp S A kk st j) k (ouF (cstp S A kk st j) N (bst0 (fsN (wmB S A kk st j) 0 61), -4) k) (l - (k + 1))).1))) (by omega) (by omega) (by omega) (fun a ha => (i1 a ha).trans (g1 a ha)) (fun q hq => (i2 q hq).trans (g2 q hq)) (fun a ha => (i3 a ha).trans (g3 a ha)) (fun q hq => (i4 q hq).trans (g4 q hq))
                    rw [← h6, ← h7] at hI
                    exact hI
                  · have h6 : fcI S A kk st j k l (inF (cstp S A kk st j) k (ouF (cstp S A kk st j) N (bst0 (fsN (wmB S A kk st j) 0 61), -4) k) (l - (k + 1))).1 = nI (inF (cstp S A kk st j) k (ouF (cstp S A kk st j) N (bst0 (fsN (wmB S A kk st j) 0 61), -4) k) (l + 1 - (k + 1))).1 := by rw [e9, if_neg c104]; exact (fc_le hz1 c104).2
                    have h7 : nI (100 * k + l) = (inF (cstp S A kk st j) k (ouF (cstp S A kk st j) N (bst0 (fsN (wmB S A kk st j) 0 61), -4) k) (l + 1 - (k + 1))).2 := by rw [e9, if_neg c104]
                    refine jv_iload h dX9_bestChange_107 rfl ?_
                    refine jv_istore h dX9_bestChange_109 (lt_nl hnl (by decide)) ?_
                    refine jv_bipush (nI 100) h dX9_bestChange_111 (by decide) ?_
                    refine jv_iload h dX9_bestChange_113 rfl ?_
                    first | refine jv_imulN h dX9_bestChange_115 (by repeat (with_reducible first | exact NF_nI _ | assumption | refine NF_add ?_ ?_ | refine NF_mul ?_ ?_)) (by repeat (with_reducible first | exact NF_nI _ | assumption | refine NF_add ?_ ?_ | refine NF_mul ?_ ?_)) ?_ | refine jv_imul h dX9_bestChange_115 ?_
                    refine jv_iload h dX9_bestChange_116 rfl ?_
                    first | refine jv_iaddN h dX9_bestChange_118 (by repeat (with_reducible first | exact NF_nI _ | assumption | refine NF_add ?_ ?_ | refine NF_mul ?_ ?_)) (by repeat (with_reducible first | exact NF_nI _ | assumption | refine NF_add ?_ ?_ | refine NF_mul ?_ ?_)) ?_ | refine jv_iadd h dX9_bestChange_118 ?_
                    refine jv_istore h dX9_bestChange_119 (lt_nl hnl (by decide)) ?_
                    refine jv_iinc (nI (l + 1)) h dX9_bestChange_121 rfl (lt_nl hnl (by decide)) (nI_inc l) ?_
                    refine jv_goto 66 h dX9_bestChange_124 (by decide) ?_
                    have hI := ih (l + 1) _ _ (some (.int (fcI S A kk st j k l (inF (cstp S A kk st j) k (ouF (cstp S A kk st j) N (bst0 (fsN (wmB S A kk st j) 0 61), -4) k) (l - (k + 1))).1))) (by omega) (by omega) (by omega) (fun a ha => (i1 a ha).trans (g1 a ha)) (fun q hq => (i2 q hq).trans (g2 q hq)) (fun a ha => (i3 a ha).trans (g3 a ha)) (fun q hq => (i4 q hq).trans (g4 q hq))
                    rw [← h6, ← h7] at hI
                    exact hI
            have hI := hl66 14 (k + 1) _ _ o5 (by omega) (by omega) (by omega) f1 f2 f4 f5
            rw [Nat.sub_self] at hI
            exact hI
      exact hl53 14 0 _ _ _ _ (by omega) (by omega) e1 e2 e3 e4
    refine jv_aload_n h dX9_bestChange_29 rfl ?_
    refine jv_iload_n h dX9_bestChange_30 rfl ?_
    refine jv_VGi [_] h dX9_bestChange_31 cw_X9_138 cf_8 (by assumption) (c_hasCarOf hK hB1 hW (NF_nI _) hd) (by decide) rfl rfl (Nat.le_of_ble_eq_true rfl) ⟨Nat.zero_le _, Nat.zero_le _⟩ (fun v_31 Mi31 Ml31 hp31 => ?_)
    obtain ⟨n1, n2, b9, n3, n4⟩ := hp31
    subst Mi31
    subst Ml31
    subst v_31
    refine jv_beq 47 h dX9_bestChange_34 (by decide) (fun c34 => ?_) (fun c34 => ?_)
    · refine jv_iconst (nI 0) h dX9_bestChange_47 (by decide) ?_
      first
      | exact hj48 (2 * S 2) (Or.inl ⟨n4.mp c34, rfl⟩)
      | exact hj48 0 (Or.inr ⟨(fun z => absurd (c34.symm.trans (n4.mpr z)) (by decide)), rfl⟩)
    · refine jv_aload_n h dX9_bestChange_37 rfl ?_
      refine jv_gr 0 h dX9_bestChange_38 cf_8 (by decide) gw_224 (by assumption) (by assumption) ?_
      refine jv_VRi [] h dX9_bestChange_41 cw_X9_86 cf_1 (by assumption) (c_cars b1 hB1.1) (by decide) rfl rfl (Nat.le_of_ble_eq_true rfl) ⟨Nat.zero_le _, Nat.zero_le _⟩ ?_
      refine jv_goto 48 h dX9_bestChange_44 (by decide) ?_
      first
      | exact hj48 (2 * S 2) (Or.inl ⟨n4.mp c34, rfl⟩)
      | exact hj48 0 (Or.inr ⟨(fun z => absurd (c34.symm.trans (n4.mpr z)) (by decide)), rfl⟩)
  refine jv_istore h dX9_bestChange_7 (lt_nl hnl (by decide)) ?_
  refine jv_iload h dX9_bestChange_9 rfl ?_
  refine jv_bipush (-4) h dX9_bestChange_11 (by decide) ?_
  refine jv_icmp_ne 21 h dX9_bestChange_13 (by decide) (fun c13 => ?_) (fun c13 => ?_)
  · have c13v : fsN (wmB S A kk st j) 0 61 = nI (bst0 (fsN (wmB S A kk st j) 0 61)) := by unfold bst0; rw [if_neg c13]; exact (fs_le (by omega) c13).2
    refine jv_iload h dX9_bestChange_21 rfl ?_
    exact hj23 _ _ c13v
  · have c13v : nI 61 = nI (bst0 (fsN (wmB S A kk st j) 0 61)) := by unfold bst0; rw [if_pos c13]
    refine jv_bipush (nI 61) h dX9_bestChange_16 (by decide) ?_
    refine jv_goto 23 h dX9_bestChange_18 (by decide) ?_
    exact hj23 _ _ c13v
