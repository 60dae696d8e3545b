set_option maxHeartbeats 4000000 in
set_option maxRecDepth 100000 in
theorem c_bitCount {g : GT} {T : TT} {Mi : MI} {Ml : ML} {v : Int32} {n : Nat} (hv : NF v n) (hn : n < 64) : Ct g yJ6_bitCount_0f7a4 cJ6_bitCount_0f7a4 1 (some .int) 1 0 0 [.int v] T Mi Ml (Ri T Mi Ml (nI (pcN n))) := by
  refine Ct.of' (by decide +kernel) (by exact Nat.le_of_ble_eq_true rfl) ?_
  intro x hg hR h hr hnm hnl
  subst hg
  refine jv_iload_n h dJ6_bitCount_0f7a4_0 rfl ?_
  refine jv_iload_n h dJ6_bitCount_0f7a4_1 rfl ?_
  refine jv_iconst (nI 1) h dJ6_bitCount_0f7a4_2 (by decide) ?_
  refine jv_iushr h dJ6_bitCount_0f7a4_3 ?_
  refine jv_ldcw h dJ6_bitCount_0f7a4_4 gw_672 ?_
  refine jv_iand h dJ6_bitCount_0f7a4_7 ?_
  refine jv_isub h dJ6_bitCount_0f7a4_8 ?_
  refine jv_istore_n h dJ6_bitCount_0f7a4_9 (lt_nl hnl (by decide)) ?_
  refine jv_iload_n h dJ6_bitCount_0f7a4_10 rfl ?_
  refine jv_ldcw h dJ6_bitCount_0f7a4_11 gw_673 ?_
  refine jv_iand h dJ6_bitCount_0f7a4_14 ?_
  refine jv_iload_n h dJ6_bitCount_0f7a4_15 rfl ?_
  refine jv_iconst (nI 2) h dJ6_bitCount_0f7a4_16 (by decide) ?_
  refine jv_iushr h dJ6_bitCount_0f7a4_17 ?_
  refine jv_ldcw h dJ6_bitCount_0f7a4_18 gw_673 ?_
  refine jv_iand h dJ6_bitCount_0f7a4_21 ?_
  refine jv_iadd h dJ6_bitCount_0f7a4_22 ?_
  refine jv_istore_n h dJ6_bitCount_0f7a4_23 (lt_nl hnl (by decide)) ?_
  refine jv_iload_n h dJ6_bitCount_0f7a4_24 rfl ?_
  refine jv_iload_n h dJ6_bitCount_0f7a4_25 rfl ?_
  refine jv_iconst (nI 4) h dJ6_bitCount_0f7a4_26 (by decide) ?_
  refine jv_iushr h dJ6_bitCount_0f7a4_27 ?_
  refine jv_iadd h dJ6_bitCount_0f7a4_28 ?_
  refine jv_ldcw h dJ6_bitCount_0f7a4_29 gw_674 ?_
  refine jv_iand h dJ6_bitCount_0f7a4_32 ?_
  refine jv_istore_n h dJ6_bitCount_0f7a4_33 (lt_nl hnl (by decide)) ?_
  refine jv_iload_n h dJ6_bitCount_0f7a4_34 rfl ?_
  refine jv_iload_n h dJ6_bitCount_0f7a4_35 rfl ?_
  refine jv_bipush (nI 8) h dJ6_bitCount_0f7a4_36 (by decide) ?_
  refine jv_iushr h dJ6_bitCount_0f7a4_38 ?_
  refine jv_iadd h dJ6_bitCount_0f7a4_39 ?_
  refine jv_istore_n h dJ6_bitCount_0f7a4_40 (lt_nl hnl (by decide)) ?_
  refine jv_iload_n h dJ6_bitCount_0f7a4_41 rfl ?_
  refine jv_iload_n h dJ6_bitCount_0f7a4_42 rfl ?_
  refine jv_bipush (nI 16) h dJ6_bitCount_0f7a4_43 (by decide) ?_
  refine jv_iushr h dJ6_bitCount_0f7a4_45 ?_
  refine jv_iadd h dJ6_bitCount_0f7a4_46 ?_
  refine jv_istore_n h dJ6_bitCount_0f7a4_47 (lt_nl hnl (by decide)) ?_
  refine jv_iload_n h dJ6_bitCount_0f7a4_48 rfl ?_
  refine jv_bipush (nI 63) h dJ6_bitCount_0f7a4_49 (by decide) ?_
  refine jv_iand h dJ6_bitCount_0f7a4_51 ?_
  exact jv_iret h hr dJ6_bitCount_0f7a4_52 ⟨by have e := bcE hn; rw [hv]; exact congrArg (fun z => some (Value.int z)) e, rfl, rfl, rfl⟩
set_option maxHeartbeats 4000000 in
set_option maxRecDepth 100000 in
theorem c_carBy {g : GT} {T : TT} {Mi : MI} {Ml : ML} {B u nx : Nat} {S : Nat → Nat} {R : Nat → Nat → Nat} (hB : BltS g T B) (hL : BltR Mi B S R u nx) (hW : WF S) {u1 u2 u3 : Int32} {f s n : Nat} (hu1 : NF u1 f) (hu2 : NF u2 s) (hu3 : NF u3 n) (hb : f < S 2 ∧ s < 2 ∧ n < 1000) : Ct g yX0_carBy cX0_carBy 4 (some .int) 4 0 0 [.ref B, .int u1, .int u2, .int u3] T Mi Ml (Ri T Mi Ml (nI (ciN (S 2) (pbN (S 2) f s) (S 1 + n)))) := by
  refine Ct.of' (plainFor_of_name (by decide +kernel)) (by exact Nat.le_of_ble_eq_true rfl) ?_
  intro x hg hR h hr hnm hnl
  subst hg
  obtain ⟨z1, z2, z3, z4, z5, z6, z7⟩ := id hB
  obtain ⟨e1, e2, e3⟩ := id z5
  obtain ⟨s1, s2, s3, s4, s5⟩ := id z6
  obtain ⟨h1, h2, h3, h4, h5⟩ := id z7
  obtain ⟨l1, l2, l3⟩ := id hL
  obtain ⟨y0, y1, y2, y3⟩ := id l1
  obtain ⟨v1, v2, v3, v4⟩ := id l2
  obtain ⟨r1, r2, r3, r4, r5, r6⟩ := id l3
  obtain ⟨w0, w1, w2, w3, w4, w5, w6, w7⟩ := id hW
  have hpb := pbN_lt (h := S 2) (f := f) (s := s) (by omega)
  refine jv_aload_n h dX0_carBy_0 rfl ?_
  refine jv_gr 0 h dX0_carBy_1 cf_0 (by decide) gw_161 (by first | assumption | exact s4 _ (by omega) | exact s5 _ (by omega)) (by first | assumption | exact s4 _ (by omega) | exact s5 _ (by omega)) ?_
  refine jv_aload_n h dX0_carBy_4 rfl ?_
  refine jv_gr 0 h dX0_carBy_5 cf_0 (by decide) gw_161 (by first | assumption | exact s4 _ (by omega) | exact s5 _ (by omega)) (by first | assumption | exact s4 _ (by omega) | exact s5 _ (by omega)) ?_
  refine jv_iload_n h dX0_carBy_8 rfl ?_
  refine jv_iload_n h dX0_carBy_9 rfl ?_
  refine jv_VRi [_, _] h dX0_carBy_10 cw_X0_53 cf_1 (by first | assumption | exact s4 _ (by omega) | exact s5 _ (by omega)) (c_placeBy (by first | assumption | exact s4 _ (by omega) | exact s5 _ (by omega)) (by first | assumption | exact (upd2_ne _ _ (by omega)).trans (by assumption) | exact (upd2_ne _ _ (by omega)).trans ((upd2_ne _ _ (by omega)).trans (by assumption))) (by repeat (with_reducible first | exact NF_nI _ | assumption | refine NF_add ?_ ?_ | refine NF_mul ?_ ?_)) (by repeat (with_reducible first | exact NF_nI _ | assumption | refine NF_add ?_ ?_ | refine NF_mul ?_ ?_)) (by omega)) (by decide) rfl rfl (Nat.le_of_ble_eq_true rfl) ⟨Nat.zero_le _, Nat.zero_le _⟩ ?_
  refine jv_aload_n h dX0_carBy_13 rfl ?_
  refine jv_gr 1 h dX0_carBy_14 cf_0 (by decide) gw_164 (by first | assumption | exact s4 _ (by omega) | exact s5 _ (by omega)) (by first | assumption | exact s4 _ (by omega) | exact s5 _ (by omega)) ?_
  refine jv_gv 2 h dX0_carBy_17 cf_5 (by decide) gw_126 (by first | assumption | exact s4 _ (by omega) | exact s5 _ (by omega)) (by first | assumption | exact (upd2_ne _ _ (by omega)).trans (by assumption) | exact (upd2_ne _ _ (by omega)).trans ((upd2_ne _ _ (by omega)).trans (by assumption))) ?_
  refine jv_iload_n h dX0_carBy_20 rfl ?_
  first | refine jv_iaddN h dX0_carBy_21 (by repeat (with_reducible first | exact NF_nI _ | assumption | refine NF_add ?_ ?_ | refine NF_mul ?_ ?_)) (by repeat (with_reducible first | exact NF_nI _ | assumption | refine NF_add ?_ ?_ | refine NF_mul ?_ ?_)) ?_ | refine jv_iadd h dX0_carBy_21 ?_
  refine jv_VRi [_, _] h dX0_carBy_22 cw_X0_57 cf_1 (by first | assumption | exact s4 _ (by omega) | exact s5 _ (by omega)) (c_carIn (by first | assumption | exact s4 _ (by omega) | exact s5 _ (by omega)) (by first | assumption | exact (upd2_ne _ _ (by omega)).trans (by assumption) | exact (upd2_ne _ _ (by omega)).trans ((upd2_ne _ _ (by omega)).trans (by assumption))) (by repeat (with_reducible first | exact NF_nI _ | assumption | refine NF_add ?_ ?_ | refine NF_mul ?_ ?_)) (by repeat (with_reducible first | exact NF_nI _ | assumption | refine NF_add ?_ ?_ | refine NF_mul ?_ ?_)) (by omega)) (by decide) rfl rfl (Nat.le_of_ble_eq_true rfl) ⟨Nat.zero_le _, Nat.zero_le _⟩ ?_
  exact jv_iret h hr dX0_carBy_25 ⟨rfl, rfl, rfl, rfl⟩
set_option maxHeartbeats 4000000 in
set_option maxRecDepth 100000 in
theorem c_floorOf {g : GT} {T : TT} {Mi : MI} {Ml : ML} {B u nx : Nat} {S : Nat → Nat} {R : Nat → Nat → Nat} (hB : BltS g T B) (hL : BltR Mi B S R u nx) (hW : WF S) {P c f : Nat} (hP : KD g T P 4) (hc : Mi P 4 = carI c) (hf : Mi P 2 = nI f) (hb : c ≤ 2 * S 2) : Ct g yX0_floorOf cX0_floorOf 2 (some .int) 4 0 0 [.ref B, .ref P] T Mi Ml (Ri T Mi Ml (nI (if c ≠ 0 then flN (S 2) (plN (S 2) (c - 1) (S 1)) else f))) := by
  refine Ct.of' (plainFor_of_name (by decide +kernel)) (by exact Nat.le_of_ble_eq_true rfl) ?_
  intro x hg hR h hr hnm hnl
  subst hg
  obtain ⟨z1, z2, z3, z4, z5, z6, z7⟩ := id hB
  obtain ⟨e1, e2, e3⟩ := id z5
  obtain ⟨s1, s2, s3, s4, s5⟩ := id z6
  obtain ⟨h1, h2, h3, h4, h5⟩ := id z7
  obtain ⟨l1, l2, l3⟩ := id hL
  obtain ⟨y0, y1, y2, y3⟩ := id l1
  obtain ⟨v1, v2, v3, v4⟩ := id l2
  obtain ⟨r1, r2, r3, r4, r5, r6⟩ := id l3
  obtain ⟨w0, w1, w2, w3, w4, w5, w6, w7⟩ := id hW
  have hpl := plN_lt (h := S 2) (c := c - 1) (s := S 1) (by omega)
  refine jv_aload_n h dX0_floorOf_0 rfl ?_
  refine jv_VRi [] h dX0_floorOf_1 cw_X0_60 cf_4 (by first | assumption | exact s4 _ (by omega) | exact s5 _ (by omega)) (c_rides (by first | assumption | exact s4 _ (by omega) | exact s5 _ (by omega)) (by first | assumption | exact (upd2_ne _ _ (by omega)).trans (by assumption) | exact (upd2_ne _ _ (by omega)).trans ((upd2_ne _ _ (by omega)).trans (by assumption))) (by omega)) (by decide) rfl rfl (Nat.le_of_ble_eq_true rfl) ⟨Nat.zero_le _, Nat.zero_le _⟩ ?_
  refine jv_beq 35 h dX0_floorOf_4 (by decide) (fun c4 => ?_) (fun c4 => ?_)
  · simp at c4
    refine jv_aload_n h dX0_floorOf_35 rfl ?_
    refine jv_gv 2 h dX0_floorOf_36 cf_4 (by decide) gw_90 (by first | assumption | exact s4 _ (by omega) | exact s5 _ (by omega)) (by first | assumption | exact (upd2_ne _ _ (by omega)).trans (by assumption) | exact (upd2_ne _ _ (by omega)).trans ((upd2_ne _ _ (by omega)).trans (by assumption))) ?_
    exact jv_iret h hr dX0_floorOf_39 ⟨by simp [c4], rfl, rfl, rfl⟩
  · simp at c4
    have hc' : Mi P 4 = nI (c - 1) := by rw [hc]; unfold carI; rw [if_neg c4]
    refine jv_aload_n h dX0_floorOf_7 rfl ?_
    refine jv_gr 0 h dX0_floorOf_8 cf_0 (by decide) gw_161 (by first | assumption | exact s4 _ (by omega) | exact s5 _ (by omega)) (by first | assumption | exact s4 _ (by omega) | exact s5 _ (by omega)) ?_
    refine jv_aload_n h dX0_floorOf_11 rfl ?_
    refine jv_gr 0 h dX0_floorOf_12 cf_0 (by decide) gw_161 (by first | assumption | exact s4 _ (by omega) | exact s5 _ (by omega)) (by first | assumption | exact s4 _ (by omega) | exact s5 _ (by omega)) ?_
    refine jv_aload_n h dX0_floorOf_15 rfl ?_
    refine jv_gv 4 h dX0_floorOf_16 cf_4 (by decide) gw_99 (by first | assumption | exact s4 _ (by omega) | exact s5 _ (by omega)) (by exact hc') ?_
    refine jv_aload_n h dX0_floorOf_19 rfl ?_
    refine jv_gr 1 h dX0_floorOf_20 cf_0 (by decide) gw_164 (by first | assumption | exact s4 _ (by omega) | exact s5 _ (by omega)) (by first | assumption | exact s4 _ (by omega) | exact s5 _ (by omega)) ?_
    refine jv_gv 2 h dX0_floorOf_23 cf_5 (by decide) gw_126 (by first | assumption | exact s4 _ (by omega) | exact s5 _ (by omega)) (by first | assumption | exact (upd2_ne _ _ (by omega)).trans (by assumption) | exact (upd2_ne _ _ (by omega)).trans ((upd2_ne _ _ (by omega)).trans (by assumption))) ?_
    refine jv_VRi [_, _] h dX0_floorOf_26 cw_X0_69 cf_1 (by first | assumption | exact s4 _ (by omega) | exact s5 _ (by omega)) (c_placeOf (by first | assumption | exact s4 _ (by omega) | exact s5 _ (by omega)) (by first | assumption | exact (upd2_ne _ _ (by omega)).trans (by assumption) | exact (upd2_ne _ _ (by omega)).trans ((upd2_ne _ _ (by omega)).trans (by assumption))) (by repeat (with_reducible first | exact NF_nI _ | assumption | refine NF_add ?_ ?_ | refine NF_mul ?_ ?_)) (by repeat (with_reducible first | exact NF_nI _ | assumption | refine NF_add ?_ ?_ | refine NF_mul ?_ ?_)) (by omega)) (by decide) rfl rfl (Nat.le_of_ble_eq_true rfl) ⟨Nat.zero_le _, Nat.zero_le _⟩ ?_
    refine jv_VRi [_] h dX0_floorOf_29 cw_X0_72 cf_1 (by first | assumption | exact s4 _ (by omega) | exact s5 _ (by omega)) (c_floorAt (by first | assumption | exact s4 _ (by omega) | exact s5 _ (by omega)) (by first | assumption | exact (upd2_ne _ _ (by omega)).trans (by assumption) | exact (upd2_ne _ _ (by omega)).trans ((upd2_ne _ _ (by omega)).trans (by assumption))) (by repeat (with_reducible first | exact NF_nI _ | assumption | refine NF_add ?_ ?_ | refine NF_mul ?_ ?_)) (by omega)) (by decide) rfl rfl (Nat.le_of_ble_eq_true rfl) ⟨Nat.zero_le _, Nat.zero_le _⟩ ?_
    refine jv_goto 39 h dX0_floorOf_32 (by decide) ?_
    exact jv_iret h hr dX0_floorOf_39 ⟨by simp [c4], rfl, rfl, rfl⟩
set_option maxHeartbeats 4000000 in
set_option maxRecDepth 100000 in
theorem c_dayOf {g : GT} {T : TT} {Mi : MI} {Ml : ML} {B u nx : Nat} {S : Nat → Nat} {R : Nat → Nat → Nat} (hB : BltS g T B) (hL : BltR Mi B S R u nx) (hW : WF S) {P c dy : Nat} (hP : KD g T P 4) (hc : Mi P 4 = carI c) (hd : Mi P 3 = nI dy) (hb : c ≤ 2 * S 2) : Ct g yX0_dayOf cX0_dayOf 2 (some .int) 2 0 0 [.ref B, .ref P] T Mi Ml (Ri T Mi Ml (nI (if c ≠ 0 then S (6 + (c - 1)) else dy))) := by
  refine Ct.of' (plainFor_of_name (by decide +kernel)) (by exact Nat.le_of_ble_eq_true rfl) ?_
  intro x hg hR h hr hnm hnl
  subst hg
  obtain ⟨z1, z2, z3, z4, z5, z6, z7⟩ := id hB
  obtain ⟨e1, e2, e3⟩ := id z5
  obtain ⟨s1, s2, s3, s4, s5⟩ := id z6
  obtain ⟨h1, h2, h3, h4, h5⟩ := id z7
  obtain ⟨l1, l2, l3⟩ := id hL
  obtain ⟨y0, y1, y2, y3⟩ := id l1
  obtain ⟨v1, v2, v3, v4⟩ := id l2
  obtain ⟨r1, r2, r3, r4, r5, r6⟩ := id l3
  obtain ⟨w0, w1, w2, w3, w4, w5, w6, w7⟩ := id hW
  refine jv_aload_n h dX0_dayOf_0 rfl ?_
  refine jv_VRi [] h dX0_dayOf_1 cw_X0_60 cf_4 (by first | assumption | exact s4 _ (by omega) | exact s5 _ (by omega)) (c_rides (by first | assumption | exact s4 _ (by omega) | exact s5 _ (by omega)) (by first | assumption | exact (upd2_ne _ _ (by omega)).trans (by assumption) | exact (upd2_ne _ _ (by omega)).trans ((upd2_ne _ _ (by omega)).trans (by assumption))) (by omega)) (by decide) rfl rfl (Nat.le_of_ble_eq_true rfl) ⟨Nat.zero_le _, Nat.zero_le _⟩ ?_
  refine jv_beq 22 h dX0_dayOf_4 (by decide) (fun c4 => ?_) (fun c4 => ?_)
  · simp at c4
    refine jv_aload_n h dX0_dayOf_22 rfl ?_
    refine jv_gv 3 h dX0_dayOf_23 cf_4 (by decide) gw_96 (by first | assumption | exact s4 _ (by omega) | exact s5 _ (by omega)) (by first | assumption | exact (upd2_ne _ _ (by omega)).trans (by assumption) | exact (upd2_ne _ _ (by omega)).trans ((upd2_ne _ _ (by omega)).trans (by assumption))) ?_
    exact jv_iret h hr dX0_dayOf_26 ⟨by simp [c4], rfl, rfl, rfl⟩
  · simp at c4
    have hc' : Mi P 4 = nI (c - 1) := by rw [hc]; unfold carI; rw [if_neg c4]
    refine jv_aload_n h dX0_dayOf_7 rfl ?_
    refine jv_gr 0 h dX0_dayOf_8 cf_0 (by decide) gw_161 (by first | assumption | exact s4 _ (by omega) | exact s5 _ (by omega)) (by first | assumption | exact s4 _ (by omega) | exact s5 _ (by omega)) ?_
    refine jv_gr 3 h dX0_dayOf_11 cf_1 (by decide) gw_56 (by first | assumption | exact s4 _ (by omega) | exact s5 _ (by omega)) (by first | assumption | exact s4 _ (by omega) | exact s5 _ (by omega)) ?_
    refine jv_aload_n h dX0_dayOf_14 rfl ?_
    refine jv_gv 4 h dX0_dayOf_15 cf_4 (by decide) gw_99 (by first | assumption | exact s4 _ (by omega) | exact s5 _ (by omega)) (by exact hc') ?_
    refine jv_iav h dX0_dayOf_18 (by first | assumption | exact s4 _ (by omega) | exact s5 _ (by omega)) (by repeat (with_reducible first | exact NF_nI _ | assumption | refine NF_add ?_ ?_ | refine NF_mul ?_ ?_)) ⟨by omega, by decide⟩ (by exact y3 _ (by omega)) ?_
    refine jv_goto 26 h dX0_dayOf_19 (by decide) ?_
    exact jv_iret h hr dX0_dayOf_26 ⟨by simp [c4], rfl, rfl, rfl⟩
set_option maxHeartbeats 4000000 in
set_option maxRecDepth 100000 in
theorem c_bstep {g : GT} {T : TT} {Mi : MI} {Ml : ML} {B u nx : Nat} {S : Nat → Nat} {R : Nat → Nat → Nat} (hB : BltS g T B) (hL : BltR Mi B S R u nx) (hW : WF S)  : Ct g yX0_step cX0_step 1 none 6 0 0 [.ref B] T Mi Ml (Gv T (fun Mi' Ml' => Ml' = Ml ∧ Fr Mi Mi' B (B + 77) ∧ BltR Mi' B (goS S) (updR R nx S) (min (u + 1) 8) ((nx + 1) % 8))) := by
  refine Ct.of' (plainFor_of_name (by decide +kernel)) (by exact Nat.le_of_ble_eq_true rfl) ?_
  intro x hg hR h hr hnm hnl
  subst hg
  obtain ⟨z1, z2, z3, z4, z5, z6, z7⟩ := id hB
  obtain ⟨e1, e2, e3⟩ := id z5
  obtain ⟨s1, s2, s3, s4, s5⟩ := id z6
  obtain ⟨h1, h2, h3, h4, h5⟩ := id z7
  obtain ⟨l1, l2, l3⟩ := id hL
  obtain ⟨y0, y1, y2, y3⟩ := id l1
  obtain ⟨v1, v2, v3, v4⟩ := id l2
  obtain ⟨r1, r2, r3, r4, r5, r6⟩ := id l3
  obtain ⟨w0, w1, w2, w3, w4, w5, w6, w7⟩ := id hW
  refine jv_aload_n h dX0_step_0 rfl ?_
  refine jv_gr 2 h dX0_step_1 cf_0 (by decide) gw_167 (by first | assumption | exact s4 _ (by omega) | exact s5 _ (by omega)) (by first | assumption | exact s4 _ (by omega) | exact s5 _ (by omega)) ?_
  refine jv_aload_n h dX0_step_4 rfl ?_
  refine jv_gr 1 h dX0_step_5 cf_0 (by decide) gw_164 (by first | assumption | exact s4 _ (by omega) | exact s5 _ (by omega)) (by first | assumption | exact s4 _ (by omega) | exact s5 _ (by omega)) ?_
  refine jv_VGv [_] h dX0_step_8 cw_X0_86 cf_3 (by first | assumption | exact s4 _ (by omega) | exact s5 _ (by omega)) (c_push z7 l3 z6 l2 hW (by omega)) (by decide) rfl rfl (Nat.le_of_ble_eq_true rfl) ⟨Nat.zero_le _, Nat.zero_le _⟩ (fun Mi8 Ml8 hp8 => ?_)
  obtain ⟨rfl, f1, f2⟩ := hp8
  refine jv_aload_n h dX0_step_11 rfl ?_
  refine jv_gr 1 h dX0_step_12 cf_0 (by decide) gw_164 (by first | assumption | exact s4 _ (by omega) | exact s5 _ (by omega)) (by first | assumption | exact s4 _ (by omega) | exact s5 _ (by omega)) ?_
  refine jv_aload_n h dX0_step_15 rfl ?_
  refine jv_gr 0 h dX0_step_16 cf_0 (by decide) gw_161 (by first | assumption | exact s4 _ (by omega) | exact s5 _ (by omega)) (by first | assumption | exact s4 _ (by omega) | exact s5 _ (by omega)) ?_
  refine jv_VGv [_] h dX0_step_19 cw_X0_89 cf_5 (by first | assumption | exact s4 _ (by omega) | exact s5 _ (by omega)) (c_goOn z6 z5 (l2.fr w0 (fun a h1 h2 => f1 a (by omega))) (l1.fr (f1 _ (by omega)) (f1 _ (by omega))) hW (by omega)) (by decide) rfl rfl (Nat.le_of_ble_eq_true rfl) ⟨Nat.zero_le _, Nat.zero_le _⟩ (fun Mi19 Ml19 hp19 => ?_)
  exact jv_vret h hr dX0_step_22 ⟨rfl, rfl, by
    obtain ⟨rfl, g1, g2⟩ := hp19
    refine ⟨rfl, Fr.tr (l := B) (h := B + 77) f1 g1 (by omega), ?_, g2, f2.fr (fun a h1 h2 => g1 a (by omega))⟩
    have hb := l1.fr (Mi' := Mi19) (by rw [g1 _ (by omega), f1 _ (by omega)]) (by rw [g1 _ (by omega), f1 _ (by omega)])
    obtain ⟨k0, k1, k2, k3⟩ := hb
    exact ⟨by rw [goS_lo (by decide) (by decide)]; exact k0, by rw [goS_lo (by decide) (by decide)]; exact k1, by rw [goS_lo (by decide) (by decide)]; exact k2, fun k hk => by rw [goS_lo (show 2 < 18 by decide) (by decide)] at hk; rw [goS_lo (by omega) (by omega)]; exact k3 k hk⟩⟩
set_option maxHeartbeats 4000000 in
set_option maxRecDepth 100000 in
theorem c_bltake {g : GT} {T : TT} {Mi : MI} {Ml : ML} {B C u nx : Nat} {S : Nat → Nat} {R : Nat → Nat → Nat} (hB : BltS g T B) (hC : BltS g T C) (hL : BltR Mi C S R u nx) (hW : WF S) (hne : C + 77 ≤ B ∨ B + 77 ≤ C) : Ct g yX0_take cX0_take 2 none 5 0 0 [.ref B, .ref C] T Mi Ml (Gv T (fun Mi' Ml' => Ml' = Ml ∧ Fr Mi Mi' B (B + 77) ∧ BltR Mi' B S R u nx)) := by
  refine Ct.of' (plainFor_of_name (by decide +kernel)) (by exact Nat.le_of_ble_eq_true rfl) ?_
  intro x hg hR h hr hnm hnl
  subst hg
  obtain ⟨z1, z2, z3, z4, z5, z6, z7⟩ := id hB
  obtain ⟨e1, e2, e3⟩ := id z5
  obtain ⟨s1, s2, s3, s4, s5⟩ := id z6
  obtain ⟨h1, h2, h3, h4, h5⟩ := id z7
  obtain ⟨q1, q2, q3, q4, q5, q6, q7⟩ := id hC
  obtain ⟨l1, l2, l3⟩ := id hL
  obtain ⟨w0, w1, w2, w3, w4, w5, w6, w7⟩ := id hW
  refine jv_aload_n h dX0_take_0 rfl ?_
  refine jv_gr 0 h dX0_take_1 cf_0 (by decide) gw_161 (by first | assumption | exact z5.1 | exact z6.1 | exact z7.1 | exact q5.1 | exact q6.1 | exact q7.1) (by first | assumption | exact z5.1 | exact z6.1 | exact z7.1 | exact q5.1 | exact q6.1 | exact q7.1) ?_
  refine jv_aload_n h dX0_take_4 rfl ?_
  refine jv_gr 0 h dX0_take_5 cf_0 (by decide) gw_161 (by first | assumption | exact z5.1 | exact z6.1 | exact z7.1 | exact q5.1 | exact q6.1 | exact q7.1) (by first | assumption | exact z5.1 | exact z6.1 | exact z7.1 | exact q5.1 | exact q6.1 | exact q7.1) ?_
  refine jv_VGv [_] h dX0_take_8 cw_X0_30 cf_1 (by first | assumption | exact z5.1 | exact z6.1 | exact z7.1 | exact q5.1 | exact q6.1 | exact q7.1) (c_btake z5 q5 l1 (by omega) (by omega)) (by decide) rfl rfl (Nat.le_of_ble_eq_true rfl) ⟨Nat.zero_le _, Nat.zero_le _⟩ (fun Mi8 Ml8 hp8 => ?_)
  obtain ⟨rfl, f1, f2⟩ := hp8
  refine jv_aload_n h dX0_take_11 rfl ?_
  refine jv_gr 1 h dX0_take_12 cf_0 (by decide) gw_164 (by first | assumption | exact z5.1 | exact z6.1 | exact z7.1 | exact q5.1 | exact q6.1 | exact q7.1) (by first | assumption | exact z5.1 | exact z6.1 | exact z7.1 | exact q5.1 | exact q6.1 | exact q7.1) ?_
  refine jv_aload_n h dX0_take_15 rfl ?_
  refine jv_gr 1 h dX0_take_16 cf_0 (by decide) gw_164 (by first | assumption | exact z5.1 | exact z6.1 | exact z7.1 | exact q5.1 | exact q6.1 | exact q7.1) (by first | assumption | exact z5.1 | exact z6.1 | exact z7.1 | exact q5.1 | exact q6.1 | exact q7.1) ?_
  refine jv_VGv [_] h dX0_take_19 cw_X0_34 cf_5 (by first | assumption | exact z5.1 | exact z6.1 | exact z7.1 | exact q5.1 | exact q6.1 | exact q7.1) (c_stake z6 q6 (l2.fr w0 (fun a h1 h2 => f1 a (by omega))) hW (by omega)) (by decide) rfl rfl (Nat.le_of_ble_eq_true rfl) ⟨Nat.zero_le _, Nat.zero_le _⟩ (fun Mi19 Ml19 hp19 => ?_)
  obtain ⟨rfl, g1, g2⟩ := hp19
  refine jv_aload_n h dX0_take_22 rfl ?_
  refine jv_gr 2 h dX0_take_23 cf_0 (by decide) gw_167 (by first | assumption | exact z5.1 | exact z6.1 | exact z7.1 | exact q5.1 | exact q6.1 | exact q7.1) (by first | assumption | exact z5.1 | exact z6.1 | exact z7.1 | exact q5.1 | exact q6.1 | exact q7.1) ?_
  refine jv_aload_n h dX0_take_26 rfl ?_
  refine jv_gr 2 h dX0_take_27 cf_0 (by decide) gw_167 (by first | assumption | exact z5.1 | exact z6.1 | exact z7.1 | exact q5.1 | exact q6.1 | exact q7.1) (by first | assumption | exact z5.1 | exact z6.1 | exact z7.1 | exact q5.1 | exact q6.1 | exact q7.1) ?_
  refine jv_VGv [_] h dX0_take_30 cw_X0_37 cf_3 (by first | assumption | exact z5.1 | exact z6.1 | exact z7.1 | exact q5.1 | exact q6.1 | exact q7.1) (c_htake z7 q7 (l3.fr (fun a h1 h2 => by rw [g1 a (by omega), f1 a (by omega)])) (by omega)) (by decide) rfl rfl (Nat.le_of_ble_eq_true rfl) ⟨Nat.zero_le _, Nat.zero_le _⟩ (fun Mi30 Ml30 hp30 => ?_)
  exact jv_vret h hr dX0_take_33 ⟨rfl, rfl, by
    obtain ⟨rfl, k1, k2⟩ := hp30
    exact ⟨rfl, Fr.tr (l := B) (h := B + 77) (Fr.tr (l := B) (h := B + 77) f1 g1 (by omega)) k1 (by omega), f2.fr (by rw [k1 _ (by omega), g1 _ (by omega)]) (by rw [k1 _ (by omega), g1 _ (by omega)]), g2.fr w0 (fun a h1 h2 => k1 a (by omega)), k2⟩⟩
