set_option maxHeartbeats 4000000 in
set_option maxRecDepth 100000 in
theorem c_pbegin {g : GT} {T : TT} {Mi : MI} {Ml : ML} {A k : Nat} {w f d : Int32} (hP : KD g T A 4) (hk : k < 5) : Ct g yX5_begin cX5_begin 5 none 1 0 0 [.ref A, .ref (gE g k), .int w, .int f, .int d] T Mi Ml (Gv T (fun Mi' Ml' => Ml' = Ml ∧ Fr Mi Mi' A (A + 1) ∧ Mi' A 0 = nI k ∧ Mi' A 1 = w ∧ Mi' A 2 = f ∧ Mi' A 3 = d ∧ Mi' A 4 = -1 ∧ Mi' A 5 = nI 0)) := by
  refine Ct.of' (plainFor_of_name (by decide +kernel)) (by exact Nat.le_of_ble_eq_true rfl) ?_
  intro x hg hR h hr hnm hnl
  subst hg
  refine jv_aload_n h dX5_begin_0 rfl ?_
  refine jv_aload_n h dX5_begin_1 rfl ?_
  refine jv_pe 0 h dX5_begin_2 cf_4 (by decide) gw_84 (by assumption) rfl (by assumption) rfl rfl ?_
  refine jv_aload_n h dX5_begin_5 rfl ?_
  refine jv_iload_n h dX5_begin_6 rfl ?_
  refine jv_pi 1 h dX5_begin_7 cf_4 (by decide) gw_88 (by assumption) rfl rfl rfl ?_
  refine jv_aload_n h dX5_begin_10 rfl ?_
  refine jv_iload_n h dX5_begin_11 rfl ?_
  refine jv_pi 2 h dX5_begin_12 cf_4 (by decide) gw_89 (by assumption) rfl rfl rfl ?_
  refine jv_aload_n h dX5_begin_15 rfl ?_
  refine jv_iload h dX5_begin_16 rfl ?_
  refine jv_pi 3 h dX5_begin_18 cf_4 (by decide) gw_94 (by assumption) rfl rfl rfl ?_
  refine jv_aload_n h dX5_begin_21 rfl ?_
  refine jv_iconst (-1) h dX5_begin_22 (by decide) ?_
  refine jv_pi 4 h dX5_begin_23 cf_4 (by decide) gw_97 (by assumption) rfl rfl rfl ?_
  refine jv_aload_n h dX5_begin_26 rfl ?_
  refine jv_iconst (nI 0) h dX5_begin_27 (by decide) ?_
  refine jv_pi 5 h dX5_begin_28 cf_4 (by decide) gw_102 (by assumption) rfl rfl rfl ?_
  exact jv_vret h hr dX5_begin_31 ⟨rfl, rfl, rfl, fun a ha => (by have e : ∀ (M : MI) (k : Nat) (v : Int32), upd2 M A k v a = M a := (fun M k v => upd2_row M v (by omega)); simp only [e]), by simp [upd2], by simp [upd2], by simp [upd2], by simp [upd2], by simp [upd2], by simp [upd2]⟩
set_option maxHeartbeats 4000000 in
set_option maxRecDepth 100000 in
theorem c_ptake {g : GT} {T : TT} {Mi : MI} {Ml : ML} {A B k : Nat} (hP : KD g T A 4) (hQ : KD g T B 4) (hk : Mi B 0 = nI k) (hk5 : k < 5) (hne : B ≠ A) : Ct g yX5_take cX5_take 2 none 1 0 0 [.ref A, .ref B] T Mi Ml (Gv T (fun Mi' Ml' => Ml' = Ml ∧ Fr Mi Mi' A (A + 1) ∧ ∀ j, j < 6 → Mi' A j = Mi B j)) := by
  refine Ct.of' (plainFor_of_name (by decide +kernel)) (by exact Nat.le_of_ble_eq_true rfl) ?_
  intro x hg hR h hr hnm hnl
  subst hg
  refine jv_aload_n h dX5_take_0 rfl ?_
  refine jv_aload_n h dX5_take_1 rfl ?_
  refine jv_ge 0 h dX5_take_2 cf_4 (by decide) gw_84 (by assumption) (by assumption) (by assumption) ?_
  refine jv_pe 0 h dX5_take_5 cf_4 (by decide) gw_84 (by assumption) rfl (by assumption) rfl rfl ?_
  refine jv_aload_n h dX5_take_8 rfl ?_
  refine jv_aload_n h dX5_take_9 rfl ?_
  refine jv_gi 1 h dX5_take_10 cf_4 (by decide) gw_88 (by assumption) ?_
  refine jv_pi 1 h dX5_take_13 cf_4 (by decide) gw_88 (by assumption) rfl rfl rfl ?_
  refine jv_aload_n h dX5_take_16 rfl ?_
  refine jv_aload_n h dX5_take_17 rfl ?_
  refine jv_gi 2 h dX5_take_18 cf_4 (by decide) gw_89 (by assumption) ?_
  refine jv_pi 2 h dX5_take_21 cf_4 (by decide) gw_89 (by assumption) rfl rfl rfl ?_
  refine jv_aload_n h dX5_take_24 rfl ?_
  refine jv_aload_n h dX5_take_25 rfl ?_
  refine jv_gi 3 h dX5_take_26 cf_4 (by decide) gw_94 (by assumption) ?_
  refine jv_pi 3 h dX5_take_29 cf_4 (by decide) gw_94 (by assumption) rfl rfl rfl ?_
  refine jv_aload_n h dX5_take_32 rfl ?_
  refine jv_aload_n h dX5_take_33 rfl ?_
  refine jv_gi 4 h dX5_take_34 cf_4 (by decide) gw_97 (by assumption) ?_
  refine jv_pi 4 h dX5_take_37 cf_4 (by decide) gw_97 (by assumption) rfl rfl rfl ?_
  refine jv_aload_n h dX5_take_40 rfl ?_
  refine jv_aload_n h dX5_take_41 rfl ?_
  refine jv_gi 5 h dX5_take_42 cf_4 (by decide) gw_102 (by assumption) ?_
  refine jv_pi 5 h dX5_take_45 cf_4 (by decide) gw_102 (by assumption) rfl rfl rfl ?_
  exact jv_vret h hr dX5_take_48 ⟨rfl, rfl, rfl, fun a ha => (by have e : ∀ (M : MI) (k : Nat) (v : Int32), upd2 M A k v a = M a := (fun M k v => upd2_row M v (by omega)); simp only [e]), fun j hj => by rcases (show j = 0 ∨ j = 1 ∨ j = 2 ∨ j = 3 ∨ j = 4 ∨ j = 5 by omega) with rfl | rfl | rfl | rfl | rfl | rfl <;> simp [upd2, hne, hk]⟩
set_option maxHeartbeats 4000000 in
set_option maxRecDepth 100000 in
theorem c_getOut {g : GT} {T : TT} {Mi : MI} {Ml : ML} {A B hh c s : Nat} {v r : Int32} (hP : KD g T A 4) (hB : BlkS g T B) (hh9 : Mi B 0 = nI hh) (hc : Mi A 4 = nI c) (hr9 : Mi (B + 1) c = r) (hv : NF v s) (hb : 0 < hh ∧ hh < 7 ∧ c < 2 * hh ∧ s < 100000) (hne : B ≠ A ∧ B + 1 ≠ A) : Ct g yX5_getOut cX5_getOut 3 none 4 0 0 [.ref A, .ref B, .int v] T Mi Ml (Gv T (fun Mi' Ml' => Ml' = Ml ∧ Fr Mi Mi' A (A + 1) ∧ Mi' A 0 = Mi A 0 ∧ Mi' A 1 = Mi A 1 ∧ Mi' A 2 = nI (flN hh (plN hh c s)) ∧ Mi' A 3 = r ∧ Mi' A 4 = -1 ∧ Mi' A 5 = Mi A 5)) := by
  refine Ct.of' (plainFor_of_name (by decide +kernel)) (by exact Nat.le_of_ble_eq_true rfl) ?_
  intro x hg hR h hr hnm hnl
  subst hg
  obtain ⟨b1, b2, b3⟩ := id hB
  have hpl := plN_lt (h := hh) (c := c) (s := s) (by omega)
  refine jv_aload_n h dX5_getOut_0 rfl ?_
  refine jv_aload_n h dX5_getOut_1 rfl ?_
  refine jv_aload_n h dX5_getOut_2 rfl ?_
  refine jv_aload_n h dX5_getOut_3 rfl ?_
  refine jv_gv 4 h dX5_getOut_4 cf_4 (by decide) gw_97 (by assumption) (by first | assumption | exact (upd2_ne _ _ (by omega)).trans (by assumption) | exact (upd2_ne _ _ (by omega)).trans ((upd2_ne _ _ (by omega)).trans (by assumption))) ?_
  refine jv_iload_n h dX5_getOut_7 rfl ?_
  refine jv_VRi [_, _] h dX5_getOut_8 cw_X5_39 cf_1 (by assumption) (c_placeOf (by assumption) (by first | assumption | exact (upd2_ne _ _ (by omega)).trans (by assumption) | exact (upd2_ne _ _ (by omega)).trans ((upd2_ne _ _ (by omega)).trans (by assumption))) (by repeat (with_reducible first | exact NF_nI _ | assumption | refine NF_add ?_ ?_ | refine NF_mul ?_ ?_)) (by repeat (with_reducible first | exact NF_nI _ | assumption | refine NF_add ?_ ?_ | refine NF_mul ?_ ?_)) (by omega)) (by decide) rfl rfl (Nat.le_of_ble_eq_true rfl) ⟨Nat.zero_le _, Nat.zero_le _⟩ ?_
  refine jv_VRi [_] h dX5_getOut_11 cw_X5_45 cf_1 (by assumption) (c_floorAt (by assumption) (by first | assumption | exact (upd2_ne _ _ (by omega)).trans (by assumption) | exact (upd2_ne _ _ (by omega)).trans ((upd2_ne _ _ (by omega)).trans (by assumption))) (by repeat (with_reducible first | exact NF_nI _ | assumption | refine NF_add ?_ ?_ | refine NF_mul ?_ ?_)) (by omega)) (by decide) rfl rfl (Nat.le_of_ble_eq_true rfl) ⟨Nat.zero_le _, Nat.zero_le _⟩ ?_
  refine jv_pi 2 h dX5_getOut_14 cf_4 (by decide) gw_89 (by assumption) rfl rfl rfl ?_
  refine jv_aload_n h dX5_getOut_17 rfl ?_
  refine jv_aload_n h dX5_getOut_18 rfl ?_
  refine jv_gr 3 h dX5_getOut_19 cf_1 (by decide) gw_57 (by assumption) (by assumption) ?_
  refine jv_aload_n h dX5_getOut_22 rfl ?_
  refine jv_gv 4 h dX5_getOut_23 cf_4 (by decide) gw_97 (by assumption) (by first | assumption | exact (upd2_ne _ _ (by omega)).trans (by assumption) | exact (upd2_ne _ _ (by omega)).trans ((upd2_ne _ _ (by omega)).trans (by assumption))) ?_
  refine jv_iav h dX5_getOut_26 (by assumption) (by repeat (with_reducible first | exact NF_nI _ | assumption | refine NF_add ?_ ?_ | refine NF_mul ?_ ?_)) ⟨by omega, by decide⟩ (by first | assumption | exact (upd2_ne _ _ (by omega)).trans (by assumption) | exact (upd2_ne _ _ (by omega)).trans ((upd2_ne _ _ (by omega)).trans (by assumption))) ?_
  refine jv_pi 3 h dX5_getOut_27 cf_4 (by decide) gw_94 (by assumption) rfl rfl rfl ?_
  refine jv_aload_n h dX5_getOut_30 rfl ?_
  refine jv_iconst (-1) h dX5_getOut_31 (by decide) ?_
  refine jv_pi 4 h dX5_getOut_32 cf_4 (by decide) gw_97 (by assumption) rfl rfl rfl ?_
  exact jv_vret h hr dX5_getOut_35 ⟨rfl, rfl, rfl, fun a ha => (by have e : ∀ (M : MI) (k : Nat) (v : Int32), upd2 M A k v a = M a := (fun M k v => upd2_row M v (by omega)); simp only [e]), by simp [upd2], by simp [upd2], by simp [upd2], by simp [upd2], by simp [upd2], by simp [upd2]⟩
set_option maxHeartbeats 4000000 in
set_option maxRecDepth 100000 in
theorem c_takePeople {g : GT} {T : TT} {Mi : MI} {Ml : ML} {A B : Nat} {S : Nat → Nat} (hA : ScnS g T A) (hB : ScnS g T B) (hR9 : ScnR Mi B S) (hW : WF S) (hne : A + 8 ≤ B ∨ B + 8 ≤ A) : Ct g yX6_takePeople cX6_takePeople 3 none 2 0 0 [.ref A, .ref B] T Mi Ml (Gv T (fun Mi' Ml' => Ml' = Ml ∧ Fr Mi Mi' A (A + 8) ∧ Mi' A 1 = nI (S 0) ∧ Mi' A 2 = Mi A 2 ∧ Mi' A 3 = Mi A 3 ∧ ∀ p, p < S 0 → PerR Mi' (A + 2 + p) S p)) := by
  refine Ct.of' (plainFor_of_name (by decide +kernel)) (by exact Nat.le_of_ble_eq_true rfl) ?_
  intro x hg hR h hr hnm hnl
  subst hg
  obtain ⟨s1, s2, s3, s4, s5⟩ := id hA
  obtain ⟨t1, t2, t3, t4, t5⟩ := id hB
  obtain ⟨v1, v2, v3, v4⟩ := id hR9
  obtain ⟨w0, w1, w2, w3, w4, w5, w6, w7⟩ := id hW
  refine jv_aload_n h dX6_takePeople_0 rfl ?_
  refine jv_aload_n h dX6_takePeople_1 rfl ?_
  refine jv_gv 1 h dX6_takePeople_2 cf_5 (by decide) gw_123 (by first | assumption | exact s4 _ (by omega) | exact s5 _ (by omega) | exact t4 _ (by omega) | exact t5 _ (by omega)) (by first | assumption | rfl) ?_
  refine jv_pi 1 h dX6_takePeople_5 cf_5 (by decide) gw_123 (by first | assumption | exact s4 _ (by omega) | exact s5 _ (by omega) | exact t4 _ (by omega) | exact t5 _ (by omega)) rfl rfl rfl ?_
  refine jv_iconst (nI 0) h dX6_takePeople_8 (by decide) ?_
  refine jv_istore_n h dX6_takePeople_9 (lt_nl hnl (by decide)) ?_
  have hl10 : ∀ (n : Nat) (i : Nat) (M1 : MI), S 0 - i < n → i ≤ S 0 → Fr Mi M1 A (A + 8) → M1 A 1 = nI (S 0) → M1 A 2 = Mi A 2 → M1 A 3 = Mi A 3 → (∀ p, p < i → PerR M1 (A + 2 + p) S p) → V x 0 0 T M1 Ml 10 [some (.ref A), some (.ref B), some (.int (nI i))] [] := by
    intro n
    induction n with
    | zero => intro i M1 hN9 hi f1 f2 f3 f4 f5; exact absurd hN9 (by omega)
    | succ n ih =>
      intro i M1 hN9 hi f1 f2 f3 f4 f5
      refine jv_iload_n h dX6_takePeople_10 rfl ?_
      refine jv_aload_n h dX6_takePeople_11 rfl ?_
      refine jv_gv 1 h dX6_takePeople_12 cf_5 (by decide) gw_123 (by first | assumption | exact s4 _ (by omega) | exact s5 _ (by omega) | exact t4 _ (by omega) | exact t5 _ (by omega)) (by first | assumption | rfl) ?_
      refine jv_nge 39 h dX6_takePeople_15 (by decide) (by repeat (with_reducible first | exact NF_nI _ | assumption | refine NF_add ?_ ?_ | refine NF_mul ?_ ?_)) (by repeat (with_reducible first | exact NF_nI _ | assumption | refine NF_add ?_ ?_ | refine NF_mul ?_ ?_)) ⟨by omega, by omega⟩ (fun c15 => ?_) (fun c15 => ?_)
      · exact jv_vret h hr dX6_takePeople_39 ⟨rfl, rfl, rfl, f1, f2, f3, f4, fun p hp => f5 p (by omega)⟩
      · have w7i := w7 i (by omega)
        have eB : M1 (B + 2 + i) = Mi (B + 2 + i) := f1 _ (by omega)
        obtain ⟨q0, q1, q2, q3, q4, q5⟩ := v4 i (by omega)
        have q0' : M1 (B + 2 + i) 0 = nI (S (18 + 6 * i)) := by rw [eB]; exact q0
        refine jv_aload_n h dX6_takePeople_18 rfl ?_
        refine jv_gr 0 h dX6_takePeople_19 cf_5 (by decide) gw_118 (by first | assumption | exact s4 _ (by omega) | exact s5 _ (by omega) | exact t4 _ (by omega) | exact t5 _ (by omega)) (by first | assumption | exact s4 _ (by omega) | exact s5 _ (by omega) | exact t4 _ (by omega) | exact t5 _ (by omega)) ?_
        refine jv_iload_n h dX6_takePeople_22 rfl ?_
        refine jv_aald h dX6_takePeople_23 (by first | assumption | exact s4 _ (by omega) | exact s5 _ (by omega) | exact t4 _ (by omega) | exact t5 _ (by omega)) (by decide) (by repeat (with_reducible first | exact NF_nI _ | assumption | refine NF_add ?_ ?_ | refine NF_mul ?_ ?_)) ⟨by omega, by decide⟩ (by first | assumption | exact s4 _ (by omega) | exact s5 _ (by omega) | exact t4 _ (by omega) | exact t5 _ (by omega)) ?_
        refine jv_aload_n h dX6_takePeople_24 rfl ?_
        refine jv_gr 0 h dX6_takePeople_25 cf_5 (by decide) gw_118 (by first | assumption | exact s4 _ (by omega) | exact s5 _ (by omega) | exact t4 _ (by omega) | exact t5 _ (by omega)) (by first | assumption | exact s4 _ (by omega) | exact s5 _ (by omega) | exact t4 _ (by omega) | exact t5 _ (by omega)) ?_
        refine jv_iload_n h dX6_takePeople_28 rfl ?_
        refine jv_aald h dX6_takePeople_29 (by first | assumption | exact s4 _ (by omega) | exact s5 _ (by omega) | exact t4 _ (by omega) | exact t5 _ (by omega)) (by decide) (by repeat (with_reducible first | exact NF_nI _ | assumption | refine NF_add ?_ ?_ | refine NF_mul ?_ ?_)) ⟨by omega, by decide⟩ (by first | assumption | exact s4 _ (by omega) | exact s5 _ (by omega) | exact t4 _ (by omega) | exact t5 _ (by omega)) ?_
        refine jv_VGv [_] h dX6_takePeople_30 cw_X6_32 cf_4 (by first | assumption | exact s4 _ (by omega) | exact s5 _ (by omega) | exact t4 _ (by omega) | exact t5 _ (by omega)) (c_ptake (by first | assumption | exact s4 _ (by omega) | exact s5 _ (by omega) | exact t4 _ (by omega) | exact t5 _ (by omega)) (by first | assumption | exact s4 _ (by omega) | exact s5 _ (by omega) | exact t4 _ (by omega) | exact t5 _ (by omega)) (by first | assumption | rfl) (by omega) (by omega)) (by decide) rfl rfl (Nat.le_of_ble_eq_true rfl) ⟨Nat.zero_le _, Nat.zero_le _⟩ (fun Mi30 Ml30 hp30 => ?_)
        refine jv_iinc (nI (i + 1)) h dX6_takePeople_33 rfl (lt_nl hnl (by decide)) (nI_inc i) ?_
        refine jv_goto 10 h dX6_takePeople_36 (by decide) ?_
        obtain ⟨rfl, g1, g2⟩ := hp30
        exact ih (i + 1) _ (by omega) (by omega) (f1.tr g1 (by omega)) (by rw [g1 A (by omega)]; exact f2) (by rw [g1 A (by omega)]; exact f3) (by rw [g1 A (by omega)]; exact f4) (fun p hp => by
          by_cases hpi : p = i
          · subst hpi
            unfold PerR
            rw [g2 0 (by omega), g2 1 (by omega), g2 2 (by omega), g2 3 (by omega), g2 4 (by omega), g2 5 (by omega), eB]
            exact v4 p (by omega)
          · exact (f5 p (by omega)).fr (g1 _ (by omega)))
  exact hl10 (S 0 + 1) 0 _ (by omega) (by omega) (Fr.up (by omega)) (by rw [upd2_same]) (by rw [upd2_ne _ _ (by omega)]) (by rw [upd2_ne _ _ (by omega)]) (fun p hp => absurd hp (by omega))
set_option maxHeartbeats 4000000 in
set_option maxRecDepth 100000 in
theorem c_stake {g : GT} {T : TT} {Mi : MI} {Ml : ML} {A B : Nat} {S : Nat → Nat} (hA : ScnS g T A) (hB : ScnS g T B) (hR9 : ScnR Mi B S) (hW : WF S) (hne : A + 8 ≤ B ∨ B + 8 ≤ A) : Ct g yX6_take cX6_take 2 none 3 0 0 [.ref A, .ref B] T Mi Ml (Gv T (fun Mi' Ml' => Ml' = Ml ∧ Fr Mi Mi' A (A + 8) ∧ ScnR Mi' A S)) := by
  refine Ct.of' (plainFor_of_name (by decide +kernel)) (by exact Nat.le_of_ble_eq_true rfl) ?_
  intro x hg hR h hr hnm hnl
  subst hg
  obtain ⟨s1, s2, s3, s4, s5⟩ := id hA
  obtain ⟨t1, t2, t3, t4, t5⟩ := id hB
  obtain ⟨v1, v2, v3, v4⟩ := id hR9
  obtain ⟨w0, w1, w2, w3, w4, w5, w6, w7⟩ := id hW
  refine jv_aload_n h dX6_take_0 rfl ?_
  refine jv_aload_n h dX6_take_1 rfl ?_
  refine jv_VGv [_] h dX6_take_2 cw_X6_22 cf_5 (by first | assumption | exact s4 _ (by omega) | exact s5 _ (by omega) | exact t4 _ (by omega) | exact t5 _ (by omega)) (c_takePeople (by first | assumption | exact s4 _ (by omega) | exact s5 _ (by omega) | exact t4 _ (by omega) | exact t5 _ (by omega)) (by first | assumption | exact s4 _ (by omega) | exact s5 _ (by omega) | exact t4 _ (by omega) | exact t5 _ (by omega)) (by first | assumption | exact s4 _ (by omega) | exact s5 _ (by omega) | exact t4 _ (by omega) | exact t5 _ (by omega)) (by first | assumption | exact s4 _ (by omega) | exact s5 _ (by omega) | exact t4 _ (by omega) | exact t5 _ (by omega)) (by omega)) (by decide) rfl rfl (Nat.le_of_ble_eq_true rfl) ⟨Nat.zero_le _, Nat.zero_le _⟩ (fun Mi2 Ml2 hp2 => ?_)
  obtain ⟨rfl, f1, f2, f3, f4, f5⟩ := hp2
  have eB : Mi2 B = Mi B := f1 B (by omega)
  have u2 : Mi2 B 2 = nI (S 1) := by rw [eB]; exact v2
  have u3 : Mi2 B 3 = nI (S 5) := by rw [eB]; exact v3
  refine jv_aload_n h dX6_take_5 rfl ?_
  refine jv_aload_n h dX6_take_6 rfl ?_
  refine jv_gv 2 h dX6_take_7 cf_5 (by decide) gw_125 (by first | assumption | exact s4 _ (by omega) | exact s5 _ (by omega) | exact t4 _ (by omega) | exact t5 _ (by omega)) (by first | assumption | exact (upd2_ne _ _ (by omega)).trans (by assumption) | exact (upd2_ne _ _ (by omega)).trans ((upd2_ne _ _ (by omega)).trans (by assumption))) ?_
  refine jv_pi 2 h dX6_take_10 cf_5 (by decide) gw_125 (by first | assumption | exact s4 _ (by omega) | exact s5 _ (by omega) | exact t4 _ (by omega) | exact t5 _ (by omega)) rfl rfl rfl ?_
  refine jv_aload_n h dX6_take_13 rfl ?_
  refine jv_aload_n h dX6_take_14 rfl ?_
  refine jv_gv 3 h dX6_take_15 cf_5 (by decide) gw_129 (by first | assumption | exact s4 _ (by omega) | exact s5 _ (by omega) | exact t4 _ (by omega) | exact t5 _ (by omega)) (by first | assumption | exact (upd2_ne _ _ (by omega)).trans (by assumption) | exact (upd2_ne _ _ (by omega)).trans ((upd2_ne _ _ (by omega)).trans (by assumption))) ?_
  refine jv_pi 3 h dX6_take_18 cf_5 (by decide) gw_129 (by first | assumption | exact s4 _ (by omega) | exact s5 _ (by omega) | exact t4 _ (by omega) | exact t5 _ (by omega)) rfl rfl rfl ?_
  exact jv_vret h hr dX6_take_21 ⟨rfl, rfl, rfl, (Fr.tr (l := A) (h := A + 8) f1 (Fr.up (lo := A) (hi := A + 8) (by omega)) (by omega)).tr (Fr.up (lo := A) (hi := A + 8) (by omega)) (by omega), by rw [upd2_ne _ _ (by omega), upd2_ne _ _ (by omega)]; exact f2, by rw [upd2_ne _ _ (by omega), upd2_same], by rw [upd2_same], fun p hp => (f5 p hp).fr (by rw [upd2_row _ _ (by omega), upd2_row _ _ (by omega)])⟩
set_option maxHeartbeats 4000000 in
set_option maxRecDepth 100000 in
theorem c_sadd {g : GT} {T : TT} {Mi : MI} {Ml : ML} {A k w f d : Nat} {S : Nat → Nat} {u1 u2 u3 : Int32} (hA : ScnS g T A) (hR9 : ScnR Mi A S) (h6 : S 0 < 6) (hk : k < 5) (hu1 : NF u1 w) (hu2 : NF u2 f) (hu3 : NF u3 d) : Ct g yX6_add cX6_add 5 none 2 0 0 [.ref A, .ref (gE g k), .int u1, .int u2, .int u3] T Mi Ml (Gv T (fun Mi' Ml' => Ml' = Ml ∧ Fr Mi Mi' A (A + 8) ∧ ScnR Mi' A (addS S k w f d))) := by
  refine Ct.of' (plainFor_of_name (by decide +kernel)) (by exact Nat.le_of_ble_eq_true rfl) ?_
  intro x hg hR h hr hnm hnl
  subst hg
  obtain ⟨s1, s2, s3, s4, s5⟩ := id hA
  obtain ⟨v1, v2, v3, v4⟩ := id hR9
  refine jv_aload_n h dX6_add_0 rfl ?_
  refine jv_gv 1 h dX6_add_1 cf_5 (by decide) gw_123 (by first | assumption | exact s4 _ (by omega) | exact s5 _ (by omega)) (by first | assumption) ?_
  refine jv_bipush (nI 6) h dX6_add_4 (by decide) ?_
  refine jv_nge 36 h dX6_add_6 (by decide) (by repeat (with_reducible first | exact NF_nI _ | assumption | refine NF_add ?_ ?_ | refine NF_mul ?_ ?_)) (by repeat (with_reducible first | exact NF_nI _ | assumption | refine NF_add ?_ ?_ | refine NF_mul ?_ ?_)) ⟨by omega, by omega⟩ (fun c6 => ?_) (fun c6 => ?_)
  · omega
  · refine jv_aload_n h dX6_add_9 rfl ?_
    refine jv_gr 0 h dX6_add_10 cf_5 (by decide) gw_118 (by first | assumption | exact s4 _ (by omega) | exact s5 _ (by omega)) (by first | assumption | exact s4 _ (by omega) | exact s5 _ (by omega)) ?_
    refine jv_aload_n h dX6_add_13 rfl ?_
    refine jv_gv 1 h dX6_add_14 cf_5 (by decide) gw_123 (by first | assumption | exact s4 _ (by omega) | exact s5 _ (by omega)) (by first | assumption) ?_
    refine jv_aald h dX6_add_17 (by first | assumption | exact s4 _ (by omega) | exact s5 _ (by omega)) (by decide) (by repeat (with_reducible first | exact NF_nI _ | assumption | refine NF_add ?_ ?_ | refine NF_mul ?_ ?_)) ⟨by omega, by decide⟩ (by first | assumption | exact s4 _ (by omega) | exact s5 _ (by omega)) ?_
    refine jv_aload_n h dX6_add_18 rfl ?_
    refine jv_iload_n h dX6_add_19 rfl ?_
    refine jv_iload_n h dX6_add_20 rfl ?_
    refine jv_iload h dX6_add_21 rfl ?_
    refine jv_VGv [_, _, _, _] h dX6_add_23 cw_X6_36 cf_4 (by first | assumption | exact s4 _ (by omega) | exact s5 _ (by omega)) (c_pbegin (by first | assumption | exact s4 _ (by omega) | exact s5 _ (by omega)) (by omega)) (by decide) rfl rfl (Nat.le_of_ble_eq_true rfl) ⟨Nat.zero_le _, Nat.zero_le _⟩ (fun Mi23 Ml23 hp23 => ?_)
    obtain ⟨rfl, f1, f2, f3, f4, f5, f6, f7⟩ := hp23
    have eA : Mi23 A = Mi A := f1 A (by omega)
    have v1' : Mi23 A 1 = nI (S 0) := by rw [eA]; exact v1
    refine jv_aload_n h dX6_add_26 rfl ?_
    refine jv_dup h dX6_add_27 rfl ?_
    refine jv_gv 1 h dX6_add_28 cf_5 (by decide) gw_123 (by first | assumption | exact s4 _ (by omega) | exact s5 _ (by omega)) (by first | assumption) ?_
    refine jv_iconst (nI 1) h dX6_add_31 (by decide) ?_
    first | refine jv_iaddN h dX6_add_32 (by repeat (with_reducible first | exact NF_nI _ | assumption | refine NF_add ?_ ?_ | refine NF_mul ?_ ?_)) (by repeat (with_reducible first | exact NF_nI _ | assumption | refine NF_add ?_ ?_ | refine NF_mul ?_ ?_)) ?_ | refine jv_iadd h dX6_add_32 ?_
    refine jv_pi 1 h dX6_add_33 cf_5 (by decide) gw_123 (by first | assumption | exact s4 _ (by omega) | exact s5 _ (by omega)) rfl rfl rfl ?_
    exact jv_vret h hr dX6_add_36 ⟨rfl, rfl, rfl, (f1.wd (l := A) (h := A + 8) (by omega)).tr (Fr.up (lo := A) (hi := A + 8) (by omega)) (by omega), by
    obtain ⟨e0, e1, e2, e3, e4, e5, e6⟩ := addS_p (S := S) (k := k) (w := w) (f := f) (d := d)
    refine ⟨by rw [upd2_same, e0], by rw [upd2_ne _ _ (by omega), eA, addS_o (by decide) (by omega)]; exact v2, by rw [upd2_ne _ _ (by omega), eA, addS_o (by decide) (by omega)]; exact v3, fun p hp => ?_⟩
    rw [e0] at hp
    have er : ∀ q, upd2 Mi23 A 1 (nI (S 0 + 1)) (A + 2 + q) = Mi23 (A + 2 + q) := fun q => upd2_row _ _ (by omega)
    by_cases hpe : p = S 0
    · subst hpe
      unfold PerR
      rw [er, e1, e2, e3, e4, e5, e6]
      exact ⟨f2, by rw [f3, hu1], by rw [f4, hu2], by rw [f5, hu3], f6, f7⟩
    · unfold PerR
      rw [er, f1 (A + 2 + p) (by omega), addS_o (by omega) (by omega), addS_o (by omega) (by omega), addS_o (by omega) (by omega), addS_o (by omega) (by omega), addS_o (by omega) (by omega), addS_o (by omega) (by omega)]
      exact v4 p (by omega)⟩
set_option maxHeartbeats 4000000 in
set_option maxRecDepth 100000 in
theorem c_isTurned {g : GT} {T : TT} {Mi : MI} {Ml : ML} {A P B s hh c k : Nat} (hA : KD g T A 5) (hP : KD g T P 4) (hB : KD g T B 1) (hs : Mi A 2 = nI s) (hc : Mi P 4 = carI c) (hk : Mi P 0 = nI k) (hh9 : Mi B 0 = nI hh) (hb : 0 < hh ∧ hh < 7 ∧ c ≤ 2 * hh ∧ s < 100000) (hk5 : k < 5) : Ct g yX6_isTurnedOut cX6_isTurnedOut 4 (some .boolean) 4 0 0 [.ref A, .ref P, .ref B] T Mi Ml (Ri T Mi Ml (bI (decide (c ≠ 0) && trN hh k (plN hh (c - 1) s)))) := by
  refine Ct.of' (plainFor_of_name (by decide +kernel)) (by exact Nat.le_of_ble_eq_true rfl) ?_
  intro x hg hR h hr hnm hnl
  subst hg
  refine jv_aload_n h dX6_isTurnedOut_0 rfl ?_
  refine jv_VRi [] h dX6_isTurnedOut_1 cw_X6_57 cf_4 (by assumption) (c_rides (by assumption) (by assumption) (by omega)) (by decide) rfl rfl (Nat.le_of_ble_eq_true rfl) ⟨Nat.zero_le _, Nat.zero_le _⟩ ?_
  refine jv_bne 9 h dX6_isTurnedOut_4 (by decide) (fun c4 => ?_) (fun c4 => ?_)
  · simp at c4
    obtain ⟨c', rfl⟩ : ∃ c', c = c' + 1 := ⟨c - 1, by omega⟩
    rw [carI_s] at hc
    rw [show c' + 1 - 1 = c' by omega] at hr
    have hpl := plN_lt (h := hh) (c := c') (s := s) (by omega)
    refine jv_aload_n h dX6_isTurnedOut_9 rfl ?_
    refine jv_aload_n h dX6_isTurnedOut_10 rfl ?_
    refine jv_gv 4 h dX6_isTurnedOut_11 cf_4 (by decide) gw_101 (by assumption) (by assumption) ?_
    refine jv_aload_n h dX6_isTurnedOut_14 rfl ?_
    refine jv_gv 2 h dX6_isTurnedOut_15 cf_5 (by decide) gw_125 (by assumption) (by assumption) ?_
    refine jv_VRi [_, _] h dX6_isTurnedOut_18 cw_X6_70 cf_1 (by assumption) (c_placeOf (by assumption) (by assumption) (by repeat (with_reducible first | exact NF_nI _ | assumption | refine NF_add ?_ ?_ | refine NF_mul ?_ ?_)) (by repeat (with_reducible first | exact NF_nI _ | assumption | refine NF_add ?_ ?_ | refine NF_mul ?_ ?_)) (by omega)) (by decide) rfl rfl (Nat.le_of_ble_eq_true rfl) ⟨Nat.zero_le _, Nat.zero_le _⟩ ?_
    refine jv_istore_n h dX6_isTurnedOut_21 (lt_nl hnl (by decide)) ?_
    refine jv_iload_n h dX6_isTurnedOut_22 rfl ?_
    refine jv_zne 36 h dX6_isTurnedOut_23 (by decide) (by repeat (with_reducible first | exact NF_nI _ | assumption | refine NF_add ?_ ?_ | refine NF_mul ?_ ?_)) (by omega) (fun c23 => ?_) (fun c23 => ?_)
    · refine jv_iload_n h dX6_isTurnedOut_36 rfl ?_
      refine jv_aload_n h dX6_isTurnedOut_37 rfl ?_
      refine jv_gv 0 h dX6_isTurnedOut_38 cf_1 (by decide) gw_45 (by assumption) (by assumption) ?_
      refine jv_nne 58 h dX6_isTurnedOut_41 (by decide) (by repeat (with_reducible first | exact NF_nI _ | assumption | refine NF_add ?_ ?_ | refine NF_mul ?_ ?_)) (by repeat (with_reducible first | exact NF_nI _ | assumption | refine NF_add ?_ ?_ | refine NF_mul ?_ ?_)) ⟨by omega, by omega⟩ (fun c41 => ?_) (fun c41 => ?_)
      · refine jv_iconst (nI 0) h dX6_isTurnedOut_58 (by decide) ?_
        exact jv_zret h hr dX6_isTurnedOut_59 rfl ⟨by first | (simp_all [trN, bI]; done) | (simp [trN, bI]; omega), rfl, rfl, rfl⟩
      · refine jv_aload_n h dX6_isTurnedOut_44 rfl ?_
        refine jv_ge 0 h dX6_isTurnedOut_45 cf_4 (by decide) gw_87 (by assumption) (by assumption) (by assumption) ?_
        refine jv_gen (L := [0, 1, 0, 0, 0]) (List.mem_of_getElem? (i := 3) rfl) h dX6_isTurnedOut_48 (by assumption) gw_1240 (oaE (by assumption)) ?_
        refine jv_beq 58 h dX6_isTurnedOut_51 (by decide) (fun c51 => ?_) (fun c51 => ?_)
        · refine jv_iconst (nI 0) h dX6_isTurnedOut_58 (by decide) ?_
          exact jv_zret h hr dX6_isTurnedOut_59 rfl ⟨by first | (simp_all [trN, bI]; done) | (simp [trN, bI]; omega), rfl, rfl, rfl⟩
        · refine jv_iconst (nI 1) h dX6_isTurnedOut_54 (by decide) ?_
          refine jv_goto 59 h dX6_isTurnedOut_55 (by decide) ?_
          exact jv_zret h hr dX6_isTurnedOut_59 rfl ⟨by first | (simp_all [trN, bI]; done) | (simp [trN, bI]; omega), rfl, rfl, rfl⟩
    · refine jv_aload_n h dX6_isTurnedOut_26 rfl ?_
      refine jv_ge 0 h dX6_isTurnedOut_27 cf_4 (by decide) gw_87 (by assumption) (by assumption) (by assumption) ?_
      refine jv_gen (L := [0, 1, 0, 0, 1]) (List.mem_of_getElem? (i := 4) rfl) h dX6_isTurnedOut_30 (by assumption) gw_1239 (obE (by assumption)) ?_
      refine jv_bne 54 h dX6_isTurnedOut_33 (by decide) (fun c33 => ?_) (fun c33 => ?_)
      · refine jv_iconst (nI 1) h dX6_isTurnedOut_54 (by decide) ?_
        refine jv_goto 59 h dX6_isTurnedOut_55 (by decide) ?_
        exact jv_zret h hr dX6_isTurnedOut_59 rfl ⟨by first | (simp_all [trN, bI]; done) | (simp [trN, bI]; omega), rfl, rfl, rfl⟩
      · refine jv_iload_n h dX6_isTurnedOut_36 rfl ?_
        refine jv_aload_n h dX6_isTurnedOut_37 rfl ?_
        refine jv_gv 0 h dX6_isTurnedOut_38 cf_1 (by decide) gw_45 (by assumption) (by assumption) ?_
        refine jv_nne 58 h dX6_isTurnedOut_41 (by decide) (by repeat (with_reducible first | exact NF_nI _ | assumption | refine NF_add ?_ ?_ | refine NF_mul ?_ ?_)) (by repeat (with_reducible first | exact NF_nI _ | assumption | refine NF_add ?_ ?_ | refine NF_mul ?_ ?_)) ⟨by omega, by omega⟩ (fun c41 => ?_) (fun c41 => ?_)
        · refine jv_iconst (nI 0) h dX6_isTurnedOut_58 (by decide) ?_
          exact jv_zret h hr dX6_isTurnedOut_59 rfl ⟨by first | (simp_all [trN, bI]; done) | (simp [trN, bI]; omega), rfl, rfl, rfl⟩
        · refine jv_aload_n h dX6_isTurnedOut_44 rfl ?_
          refine jv_ge 0 h dX6_isTurnedOut_45 cf_4 (by decide) gw_87 (by assumption) (by assumption) (by assumption) ?_
          refine jv_gen (L := [0, 1, 0, 0, 0]) (List.mem_of_getElem? (i := 3) rfl) h dX6_isTurnedOut_48 (by assumption) gw_1240 (oaE (by assumption)) ?_
          refine jv_beq 58 h dX6_isTurnedOut_51 (by decide) (fun c51 => ?_) (fun c51 => ?_)
          · refine jv_iconst (nI 0) h dX6_isTurnedOut_58 (by decide) ?_
            exact jv_zret h hr dX6_isTurnedOut_59 rfl ⟨by first | (simp_all [trN, bI]; done) | (simp [trN, bI]; omega), rfl, rfl, rfl⟩
          · refine jv_iconst (nI 1) h dX6_isTurnedOut_54 (by decide) ?_
            refine jv_goto 59 h dX6_isTurnedOut_55 (by decide) ?_
            exact jv_zret h hr dX6_isTurnedOut_59 rfl ⟨by first | (simp_all [trN, bI]; done) | (simp [trN, bI]; omega), rfl, rfl, rfl⟩
  · refine jv_iconst (nI 0) h dX6_isTurnedOut_7 (by decide) ?_
    exact jv_zret h hr dX6_isTurnedOut_8 rfl ⟨by simp at c4; simp [c4, bI], rfl, rfl, rfl⟩
