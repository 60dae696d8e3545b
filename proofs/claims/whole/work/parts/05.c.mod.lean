set_option maxHeartbeats 4000000 in
set_option maxRecDepth 100000 in
theorem cm_many {g : GT} {T : TT} {Mi : MI} {Ml : ML} {Y : Nat} {S : Nat → Nat} (hM : ModS g T Y) (hN : NowR Mi (Y + 1) S) (hW : WF S)  : Ct g yX12_many cX12_many 1 (some .int) 1 0 0 [.ref Y] T Mi Ml (Ri T Mi Ml (nI (2 * S 2))) := by
  refine Ct.of' (plainFor_of_name (by decide +kernel)) (by exact Nat.le_of_ble_eq_true rfl) ?_
  intro x hg hR h hr hnm hnl
  subst hg
  obtain ⟨hY, ⟨r0, a0⟩, ⟨r1, a1⟩, ⟨r5, a5⟩, ⟨r6, a6⟩, ⟨r7, a7⟩, ⟨r9, a9⟩, ⟨r12, a12⟩, ⟨r13, a13⟩, ⟨r14, a14⟩, ⟨r15, a15⟩, r16, a16⟩ := id hM
  obtain ⟨w0, w1, w2, w3, w4, w5, w6, w7⟩ := id hW
  refine jv_iconst (nI 2) h dX12_many_0 (by decide) ?_
  refine jv_aload_n h dX12_many_1 rfl ?_
  refine jv_gr 0 h dX12_many_2 cf_11 (by decide) gw_900 (by assumption) (by assumption) ?_
  refine jv_iconst (nI 2) h dX12_many_5 (by decide) ?_
  refine jv_iav h dX12_many_6 (by assumption) (by repeat (with_reducible first | exact NF_nI _ | assumption | refine NF_add ?_ ?_ | refine NF_mul ?_ ?_)) ⟨by omega, by decide⟩ (by first | assumption | exact hN.n0 | exact hN.n1 | exact hN.n2 | exact hN.n3 | exact hN.n4 | exact hN.n5 | exact hN.dy (by omega) | exact hN.p3 (by omega) | exact hN.p0 (by omega) | exact hN.p1 (by omega) | exact hN.p2 (by omega) | exact hN.p4 (by omega) | exact hN.p5 (by omega)) ?_
  first | refine jv_imulN h dX12_many_7 (by repeat (with_reducible first | exact NF_nI _ | assumption | refine NF_add ?_ ?_ | refine NF_mul ?_ ?_)) (by repeat (with_reducible first | exact NF_nI _ | assumption | refine NF_add ?_ ?_ | refine NF_mul ?_ ?_)) ?_ | refine jv_imul h dX12_many_7 ?_
  exact jv_iret h hr dX12_many_8 ⟨rfl, rfl, rfl, rfl⟩
set_option maxHeartbeats 4000000 in
set_option maxRecDepth 100000 in
theorem cm_isPerson {g : GT} {T : TT} {Mi : MI} {Ml : ML} {Y : Nat} {S : Nat → Nat} (hM : ModS g T Y) (hN : NowR Mi (Y + 1) S) (hW : WF S) (v : Int32) : Ct g yX12_isPerson cX12_isPerson 2 (some .boolean) 2 0 0 [.ref Y, .int v] T Mi Ml (Ri T Mi Ml (bI (isB v 0 (S 0)))) := by
  refine Ct.of' (plainFor_of_name (by decide +kernel)) (by exact Nat.le_of_ble_eq_true rfl) ?_
  intro x hg hR h hr hnm hnl
  subst hg
  obtain ⟨hY, ⟨r0, a0⟩, ⟨r1, a1⟩, ⟨r5, a5⟩, ⟨r6, a6⟩, ⟨r7, a7⟩, ⟨r9, a9⟩, ⟨r12, a12⟩, ⟨r13, a13⟩, ⟨r14, a14⟩, ⟨r15, a15⟩, r16, a16⟩ := id hM
  obtain ⟨w0, w1, w2, w3, w4, w5, w6, w7⟩ := id hW
  refine jv_iload_n h dX12_isPerson_0 rfl ?_
  refine jv_i2l h dX12_isPerson_1 ?_
  refine jv_lconst (lN 0) h dX12_isPerson_2 (by decide) ?_
  refine jv_aload_n h dX12_isPerson_3 rfl ?_
  refine jv_gr 0 h dX12_isPerson_4 cf_11 (by decide) gw_900 (by assumption) (by assumption) ?_
  refine jv_iconst (nI 0) h dX12_isPerson_7 (by decide) ?_
  refine jv_iav h dX12_isPerson_8 (by assumption) (by repeat (with_reducible first | exact NF_nI _ | assumption | refine NF_add ?_ ?_ | refine NF_mul ?_ ?_)) ⟨by omega, by decide⟩ (by first | assumption | exact hN.n0 | exact hN.n1 | exact hN.n2 | exact hN.n3 | exact hN.n4 | exact hN.n5 | exact hN.dy (by omega) | exact hN.p3 (by omega) | exact hN.p0 (by omega) | exact hN.p1 (by omega) | exact hN.p2 (by omega) | exact hN.p4 (by omega) | exact hN.p5 (by omega)) ?_
  refine jv_iconst (nI 1) h dX12_isPerson_9 (by decide) ?_
  first | refine jv_isubN h dX12_isPerson_10 (by repeat (with_reducible first | exact NF_nI _ | assumption | refine NF_add ?_ ?_ | refine NF_mul ?_ ?_)) (by repeat (with_reducible first | exact NF_nI _ | assumption | refine NF_add ?_ ?_ | refine NF_mul ?_ ?_)) (by omega) ?_ | refine jv_isub h dX12_isPerson_10 ?_
  refine jv_i2l h dX12_isPerson_11 ?_
  refine jv_SRi [_, _, _] h dX12_isPerson_12 cw_X12_44 (c_mwithin (m := 0) (n := S 0) _ (by decide) (by rw [l_i]; first | exact b_pr (by omega) | exact b_pr' (by omega) (by omega))) (by decide) rfl rfl (Nat.le_of_ble_eq_true rfl) ⟨Nat.zero_le _, Nat.zero_le _⟩ ?_
  exact jv_zret h hr dX12_isPerson_15 (bI_nar _) ⟨rfl, rfl, rfl, rfl⟩
set_option maxHeartbeats 4000000 in
set_option maxRecDepth 100000 in
theorem cm_isCar {g : GT} {T : TT} {Mi : MI} {Ml : ML} {Y : Nat} {S : Nat → Nat} (hM : ModS g T Y) (hN : NowR Mi (Y + 1) S) (hW : WF S) (v : Int32) : Ct g yX12_isCar cX12_isCar 2 (some .boolean) 2 0 0 [.ref Y, .int v] T Mi Ml (Ri T Mi Ml (bI (isB v 0 (2 * S 2)))) := by
  refine Ct.of' (plainFor_of_name (by decide +kernel)) (by exact Nat.le_of_ble_eq_true rfl) ?_
  intro x hg hR h hr hnm hnl
  subst hg
  obtain ⟨hY, ⟨r0, a0⟩, ⟨r1, a1⟩, ⟨r5, a5⟩, ⟨r6, a6⟩, ⟨r7, a7⟩, ⟨r9, a9⟩, ⟨r12, a12⟩, ⟨r13, a13⟩, ⟨r14, a14⟩, ⟨r15, a15⟩, r16, a16⟩ := id hM
  obtain ⟨w0, w1, w2, w3, w4, w5, w6, w7⟩ := id hW
  refine jv_iload_n h dX12_isCar_0 rfl ?_
  refine jv_i2l h dX12_isCar_1 ?_
  refine jv_lconst (lN 0) h dX12_isCar_2 (by decide) ?_
  refine jv_aload_n h dX12_isCar_3 rfl ?_
  refine jv_VRi [] h dX12_isCar_4 cw_X12_48 cf_11 (by assumption) (cm_many (by assumption) (by assumption) (by assumption)) (by decide) rfl rfl (Nat.le_of_ble_eq_true rfl) ⟨Nat.zero_le _, Nat.zero_le _⟩ ?_
  refine jv_iconst (nI 1) h dX12_isCar_7 (by decide) ?_
  first | refine jv_isubN h dX12_isCar_8 (by repeat (with_reducible first | exact NF_nI _ | assumption | refine NF_add ?_ ?_ | refine NF_mul ?_ ?_)) (by repeat (with_reducible first | exact NF_nI _ | assumption | refine NF_add ?_ ?_ | refine NF_mul ?_ ?_)) (by omega) ?_ | refine jv_isub h dX12_isCar_8 ?_
  refine jv_i2l h dX12_isCar_9 ?_
  refine jv_SRi [_, _, _] h dX12_isCar_10 cw_X12_44 (c_mwithin (m := 0) (n := 2 * S 2) _ (by decide) (by rw [l_i]; first | exact b_pr (by omega) | exact b_pr' (by omega) (by omega))) (by decide) rfl rfl (Nat.le_of_ble_eq_true rfl) ⟨Nat.zero_le _, Nat.zero_le _⟩ ?_
  exact jv_zret h hr dX12_isCar_13 (bI_nar _) ⟨rfl, rfl, rfl, rfl⟩
set_option maxHeartbeats 4000000 in
set_option maxRecDepth 100000 in
theorem cm_isFloor {g : GT} {T : TT} {Mi : MI} {Ml : ML} {Y : Nat} {S : Nat → Nat} (hM : ModS g T Y) (hN : NowR Mi (Y + 1) S) (hW : WF S) (v : Int32) : Ct g yX12_isFloor cX12_isFloor 2 (some .boolean) 2 0 0 [.ref Y, .int v] T Mi Ml (Ri T Mi Ml (bI (isB v 0 (S 2)))) := by
  refine Ct.of' (plainFor_of_name (by decide +kernel)) (by exact Nat.le_of_ble_eq_true rfl) ?_
  intro x hg hR h hr hnm hnl
  subst hg
  obtain ⟨hY, ⟨r0, a0⟩, ⟨r1, a1⟩, ⟨r5, a5⟩, ⟨r6, a6⟩, ⟨r7, a7⟩, ⟨r9, a9⟩, ⟨r12, a12⟩, ⟨r13, a13⟩, ⟨r14, a14⟩, ⟨r15, a15⟩, r16, a16⟩ := id hM
  obtain ⟨w0, w1, w2, w3, w4, w5, w6, w7⟩ := id hW
  refine jv_iload_n h dX12_isFloor_0 rfl ?_
  refine jv_i2l h dX12_isFloor_1 ?_
  refine jv_lconst (lN 0) h dX12_isFloor_2 (by decide) ?_
  refine jv_aload_n h dX12_isFloor_3 rfl ?_
  refine jv_gr 0 h dX12_isFloor_4 cf_11 (by decide) gw_900 (by assumption) (by assumption) ?_
  refine jv_iconst (nI 2) h dX12_isFloor_7 (by decide) ?_
  refine jv_iav h dX12_isFloor_8 (by assumption) (by repeat (with_reducible first | exact NF_nI _ | assumption | refine NF_add ?_ ?_ | refine NF_mul ?_ ?_)) ⟨by omega, by decide⟩ (by first | assumption | exact hN.n0 | exact hN.n1 | exact hN.n2 | exact hN.n3 | exact hN.n4 | exact hN.n5 | exact hN.dy (by omega) | exact hN.p3 (by omega) | exact hN.p0 (by omega) | exact hN.p1 (by omega) | exact hN.p2 (by omega) | exact hN.p4 (by omega) | exact hN.p5 (by omega)) ?_
  refine jv_iconst (nI 1) h dX12_isFloor_9 (by decide) ?_
  first | refine jv_isubN h dX12_isFloor_10 (by repeat (with_reducible first | exact NF_nI _ | assumption | refine NF_add ?_ ?_ | refine NF_mul ?_ ?_)) (by repeat (with_reducible first | exact NF_nI _ | assumption | refine NF_add ?_ ?_ | refine NF_mul ?_ ?_)) (by omega) ?_ | refine jv_isub h dX12_isFloor_10 ?_
  refine jv_i2l h dX12_isFloor_11 ?_
  refine jv_SRi [_, _, _] h dX12_isFloor_12 cw_X12_44 (c_mwithin (m := 0) (n := S 2) _ (by decide) (by rw [l_i]; first | exact b_pr (by omega) | exact b_pr' (by omega) (by omega))) (by decide) rfl rfl (Nat.le_of_ble_eq_true rfl) ⟨Nat.zero_le _, Nat.zero_le _⟩ ?_
  exact jv_zret h hr dX12_isFloor_15 (bI_nar _) ⟨rfl, rfl, rfl, rfl⟩
set_option maxHeartbeats 4000000 in
set_option maxRecDepth 100000 in
theorem cm_told {g : GT} {T : TT} {Mi : MI} {Ml : ML} {Y p w : Nat} {u v r : Int32} (hM : ModS g T Y) (hu : NF u p) (hv : NF v w) (hp : p < 6 ∧ w < 6) (hx : Mi (Y + 1) (18 + 6 * p + w) = r) : Ct g yX12_told cX12_told 3 (some .int) 1 0 0 [.ref Y, .int u, .int v] T Mi Ml (Ri T Mi Ml r) := by
  refine Ct.of' (plainFor_of_name (by decide +kernel)) (by exact Nat.le_of_ble_eq_true rfl) ?_
  intro x hg hR h hr hnm hnl
  subst hg
  obtain ⟨hY, ⟨r0, a0⟩, ⟨r1, a1⟩, ⟨r5, a5⟩, ⟨r6, a6⟩, ⟨r7, a7⟩, ⟨r9, a9⟩, ⟨r12, a12⟩, ⟨r13, a13⟩, ⟨r14, a14⟩, ⟨r15, a15⟩, r16, a16⟩ := id hM
  refine jv_aload_n h dX12_told_0 rfl ?_
  refine jv_gr 0 h dX12_told_1 cf_11 (by decide) gw_900 (by assumption) (by assumption) ?_
  refine jv_bipush (nI 18) h dX12_told_4 (by decide) ?_
  refine jv_bipush (nI 6) h dX12_told_6 (by decide) ?_
  refine jv_iload_n h dX12_told_8 rfl ?_
  first | refine jv_imulN h dX12_told_9 (by repeat (with_reducible first | exact NF_nI _ | assumption | refine NF_add ?_ ?_ | refine NF_mul ?_ ?_)) (by repeat (with_reducible first | exact NF_nI _ | assumption | refine NF_add ?_ ?_ | refine NF_mul ?_ ?_)) ?_ | refine jv_imul h dX12_told_9 ?_
  first | refine jv_iaddN h dX12_told_10 (by repeat (with_reducible first | exact NF_nI _ | assumption | refine NF_add ?_ ?_ | refine NF_mul ?_ ?_)) (by repeat (with_reducible first | exact NF_nI _ | assumption | refine NF_add ?_ ?_ | refine NF_mul ?_ ?_)) ?_ | refine jv_iadd h dX12_told_10 ?_
  refine jv_iload_n h dX12_told_11 rfl ?_
  first | refine jv_iaddN h dX12_told_12 (by repeat (with_reducible first | exact NF_nI _ | assumption | refine NF_add ?_ ?_ | refine NF_mul ?_ ?_)) (by repeat (with_reducible first | exact NF_nI _ | assumption | refine NF_add ?_ ?_ | refine NF_mul ?_ ?_)) ?_ | refine jv_iadd h dX12_told_12 ?_
  refine jv_iav h dX12_told_13 (by assumption) (by repeat (with_reducible first | exact NF_nI _ | assumption | refine NF_add ?_ ?_ | refine NF_mul ?_ ?_)) ⟨by omega, by decide⟩ (by assumption) ?_
  exact jv_iret h hr dX12_told_14 ⟨rfl, rfl, rfl, rfl⟩
set_option maxHeartbeats 4000000 in
set_option maxRecDepth 100000 in
theorem cm_weighs {g : GT} {T : TT} {Mi : MI} {Ml : ML} {Y : Nat} {S : Nat → Nat} (hM : ModS g T Y) (hN : NowR Mi (Y + 1) S) (hW : WF S) {u : Int32} {p : Nat} (hu : NF u p) (hp : p < S 0) : Ct g yX12_weighs cX12_weighs 3 (some .int) 2 0 0 [.ref Y, .int u] T Mi Ml (Ri T Mi Ml (nI (wgN S p))) := by
  refine Ct.of' (plainFor_of_name (by decide +kernel)) (by exact Nat.le_of_ble_eq_true rfl) ?_
  intro x hg hR h hr hnm hnl
  subst hg
  obtain ⟨hY, ⟨r0, a0⟩, ⟨r1, a1⟩, ⟨r5, a5⟩, ⟨r6, a6⟩, ⟨r7, a7⟩, ⟨r9, a9⟩, ⟨r12, a12⟩, ⟨r13, a13⟩, ⟨r14, a14⟩, ⟨r15, a15⟩, r16, a16⟩ := id hM
  obtain ⟨w0, w1, w2, w3, w4, w5, w6, w7⟩ := id hW
  have w7p := w7 p hp
  refine jv_aload_n h dX12_weighs_0 rfl ?_
  refine jv_iload_n h dX12_weighs_1 rfl ?_
  refine jv_iconst (nI 0) h dX12_weighs_2 (by decide) ?_
  refine jv_VRi [_, _] h dX12_weighs_3 cw_X12_54 cf_11 (by assumption) (cm_told (by assumption) (by repeat (with_reducible first | exact NF_nI _ | assumption | refine NF_add ?_ ?_ | refine NF_mul ?_ ?_)) (by repeat (with_reducible first | exact NF_nI _ | assumption | refine NF_add ?_ ?_ | refine NF_mul ?_ ?_)) (by omega) (by first | assumption | exact hN.n0 | exact hN.n1 | exact hN.n2 | exact hN.n3 | exact hN.n4 | exact hN.n5 | exact hN.dy (by omega) | exact hN.p3 (by omega) | exact hN.p0 (by omega) | exact hN.p1 (by omega) | exact hN.p2 (by omega) | exact hN.p4 (by omega) | exact hN.p5 (by omega))) (by decide) rfl rfl (Nat.le_of_ble_eq_true rfl) ⟨Nat.zero_le _, Nat.zero_le _⟩ ?_
  refine jv_istore_n h dX12_weighs_6 (lt_nl hnl (by decide)) ?_
  refine jv_iload_n h dX12_weighs_7 rfl ?_
  refine jv_iconst (nI 2) h dX12_weighs_8 (by decide) ?_
  refine jv_neq 17 h dX12_weighs_9 (by decide) (by repeat (with_reducible first | exact NF_nI _ | assumption | refine NF_add ?_ ?_ | refine NF_mul ?_ ?_)) (by repeat (with_reducible first | exact NF_nI _ | assumption | refine NF_add ?_ ?_ | refine NF_mul ?_ ?_)) ⟨by omega, by omega⟩ (fun c9 => ?_) (fun c9 => ?_)
  · refine jv_iconst (nI 2) h dX12_weighs_17 (by decide) ?_
    refine jv_aload_n h dX12_weighs_18 rfl ?_
    refine jv_iload_n h dX12_weighs_19 rfl ?_
    refine jv_iconst (nI 1) h dX12_weighs_20 (by decide) ?_
    refine jv_VRi [_, _] h dX12_weighs_21 cw_X12_54 cf_11 (by assumption) (cm_told (by assumption) (by repeat (with_reducible first | exact NF_nI _ | assumption | refine NF_add ?_ ?_ | refine NF_mul ?_ ?_)) (by repeat (with_reducible first | exact NF_nI _ | assumption | refine NF_add ?_ ?_ | refine NF_mul ?_ ?_)) (by omega) (by first | assumption | exact hN.n0 | exact hN.n1 | exact hN.n2 | exact hN.n3 | exact hN.n4 | exact hN.n5 | exact hN.dy (by omega) | exact hN.p3 (by omega) | exact hN.p0 (by omega) | exact hN.p1 (by omega) | exact hN.p2 (by omega) | exact hN.p4 (by omega) | exact hN.p5 (by omega))) (by decide) rfl rfl (Nat.le_of_ble_eq_true rfl) ⟨Nat.zero_le _, Nat.zero_le _⟩ ?_
    first | refine jv_imulN h dX12_weighs_24 (by repeat (with_reducible first | exact NF_nI _ | assumption | refine NF_add ?_ ?_ | refine NF_mul ?_ ?_)) (by repeat (with_reducible first | exact NF_nI _ | assumption | refine NF_add ?_ ?_ | refine NF_mul ?_ ?_)) ?_ | refine jv_imul h dX12_weighs_24 ?_
    refine jv_goto 34 h dX12_weighs_25 (by decide) ?_
    exact jv_iret h hr dX12_weighs_34 ⟨by unfold wgN tmN; first | (rw [if_pos (by omega)]; congr 2; congr 1; omega) | (rw [if_neg (by omega)]; congr 2; congr 1; omega), rfl, rfl, rfl⟩
  · refine jv_iload_n h dX12_weighs_12 rfl ?_
    refine jv_iconst (nI 3) h dX12_weighs_13 (by decide) ?_
    refine jv_nne 28 h dX12_weighs_14 (by decide) (by repeat (with_reducible first | exact NF_nI _ | assumption | refine NF_add ?_ ?_ | refine NF_mul ?_ ?_)) (by repeat (with_reducible first | exact NF_nI _ | assumption | refine NF_add ?_ ?_ | refine NF_mul ?_ ?_)) ⟨by omega, by omega⟩ (fun c14 => ?_) (fun c14 => ?_)
    · refine jv_aload_n h dX12_weighs_28 rfl ?_
      refine jv_iload_n h dX12_weighs_29 rfl ?_
      refine jv_iconst (nI 1) h dX12_weighs_30 (by decide) ?_
      refine jv_VRi [_, _] h dX12_weighs_31 cw_X12_54 cf_11 (by assumption) (cm_told (by assumption) (by repeat (with_reducible first | exact NF_nI _ | assumption | refine NF_add ?_ ?_ | refine NF_mul ?_ ?_)) (by repeat (with_reducible first | exact NF_nI _ | assumption | refine NF_add ?_ ?_ | refine NF_mul ?_ ?_)) (by omega) (by first | assumption | exact hN.n0 | exact hN.n1 | exact hN.n2 | exact hN.n3 | exact hN.n4 | exact hN.n5 | exact hN.dy (by omega) | exact hN.p3 (by omega) | exact hN.p0 (by omega) | exact hN.p1 (by omega) | exact hN.p2 (by omega) | exact hN.p4 (by omega) | exact hN.p5 (by omega))) (by decide) rfl rfl (Nat.le_of_ble_eq_true rfl) ⟨Nat.zero_le _, Nat.zero_le _⟩ ?_
      exact jv_iret h hr dX12_weighs_34 ⟨by unfold wgN tmN; first | (rw [if_pos (by omega)]; congr 2; congr 1; omega) | (rw [if_neg (by omega)]; congr 2; congr 1; omega), rfl, rfl, rfl⟩
    · refine jv_iconst (nI 2) h dX12_weighs_17 (by decide) ?_
      refine jv_aload_n h dX12_weighs_18 rfl ?_
      refine jv_iload_n h dX12_weighs_19 rfl ?_
      refine jv_iconst (nI 1) h dX12_weighs_20 (by decide) ?_
      refine jv_VRi [_, _] h dX12_weighs_21 cw_X12_54 cf_11 (by assumption) (cm_told (by assumption) (by repeat (with_reducible first | exact NF_nI _ | assumption | refine NF_add ?_ ?_ | refine NF_mul ?_ ?_)) (by repeat (with_reducible first | exact NF_nI _ | assumption | refine NF_add ?_ ?_ | refine NF_mul ?_ ?_)) (by omega) (by first | assumption | exact hN.n0 | exact hN.n1 | exact hN.n2 | exact hN.n3 | exact hN.n4 | exact hN.n5 | exact hN.dy (by omega) | exact hN.p3 (by omega) | exact hN.p0 (by omega) | exact hN.p1 (by omega) | exact hN.p2 (by omega) | exact hN.p4 (by omega) | exact hN.p5 (by omega))) (by decide) rfl rfl (Nat.le_of_ble_eq_true rfl) ⟨Nat.zero_le _, Nat.zero_le _⟩ ?_
      first | refine jv_imulN h dX12_weighs_24 (by repeat (with_reducible first | exact NF_nI _ | assumption | refine NF_add ?_ ?_ | refine NF_mul ?_ ?_)) (by repeat (with_reducible first | exact NF_nI _ | assumption | refine NF_add ?_ ?_ | refine NF_mul ?_ ?_)) ?_ | refine jv_imul h dX12_weighs_24 ?_
      refine jv_goto 34 h dX12_weighs_25 (by decide) ?_
      exact jv_iret h hr dX12_weighs_34 ⟨by unfold wgN tmN; first | (rw [if_pos (by omega)]; congr 2; congr 1; omega) | (rw [if_neg (by omega)]; congr 2; congr 1; omega), rfl, rfl, rfl⟩
set_option maxHeartbeats 4000000 in
set_option maxRecDepth 100000 in
theorem cm_placeOf {g : GT} {T : TT} {Mi : MI} {Ml : ML} {Y : Nat} {S : Nat → Nat} (hM : ModS g T Y) (hN : NowR Mi (Y + 1) S) (hW : WF S) {u v : Int32} {c s : Nat} (hu : NF u c) (hs : NF v s) (hb : c + s < 1000000) : Ct g yX12_placeOf cX12_placeOf 3 (some .int) 2 0 0 [.ref Y, .int u, .int v] T Mi Ml (Ri T Mi Ml (nI (plN (S 2) c s))) := by
  refine Ct.of' (plainFor_of_name (by decide +kernel)) (by exact Nat.le_of_ble_eq_true rfl) ?_
  intro x hg hR h hr hnm hnl
  subst hg
  obtain ⟨hY, ⟨r0, a0⟩, ⟨r1, a1⟩, ⟨r5, a5⟩, ⟨r6, a6⟩, ⟨r7, a7⟩, ⟨r9, a9⟩, ⟨r12, a12⟩, ⟨r13, a13⟩, ⟨r14, a14⟩, ⟨r15, a15⟩, r16, a16⟩ := id hM
  obtain ⟨w0, w1, w2, w3, w4, w5, w6, w7⟩ := id hW
  refine jv_iload_n h dX12_placeOf_0 rfl ?_
  refine jv_iload_n h dX12_placeOf_1 rfl ?_
  first | refine jv_iaddN h dX12_placeOf_2 (by repeat (with_reducible first | exact NF_nI _ | assumption | refine NF_add ?_ ?_ | refine NF_mul ?_ ?_)) (by repeat (with_reducible first | exact NF_nI _ | assumption | refine NF_add ?_ ?_ | refine NF_mul ?_ ?_)) ?_ | refine jv_iadd h dX12_placeOf_2 ?_
  refine jv_aload_n h dX12_placeOf_3 rfl ?_
  refine jv_VRi [] h dX12_placeOf_4 cw_X12_48 cf_11 (by assumption) (cm_many (by assumption) (by assumption) (by assumption)) (by decide) rfl rfl (Nat.le_of_ble_eq_true rfl) ⟨Nat.zero_le _, Nat.zero_le _⟩ ?_
  refine jv_iremN h dX12_placeOf_7 (by repeat (with_reducible first | exact NF_nI _ | assumption | refine NF_add ?_ ?_ | refine NF_mul ?_ ?_)) (by repeat (with_reducible first | exact NF_nI _ | assumption | refine NF_add ?_ ?_ | refine NF_mul ?_ ?_)) (by omega) ⟨by omega, by omega⟩ ?_
  exact jv_iret h hr dX12_placeOf_8 ⟨rfl, rfl, rfl, rfl⟩
set_option maxHeartbeats 4000000 in
set_option maxRecDepth 100000 in
theorem cm_floorOf {g : GT} {T : TT} {Mi : MI} {Ml : ML} {Y : Nat} {S : Nat → Nat} (hM : ModS g T Y) (hN : NowR Mi (Y + 1) S) (hW : WF S) {u : Int32} {p : Nat} (hu : NF u p) (hb : p < 2 * S 2) : Ct g yX12_floorOf cX12_floorOf 2 (some .int) 2 0 0 [.ref Y, .int u] T Mi Ml (Ri T Mi Ml (nI (flN (S 2) p))) := by
  refine Ct.of' (plainFor_of_name (by decide +kernel)) (by exact Nat.le_of_ble_eq_true rfl) ?_
  intro x hg hR h hr hnm hnl
  subst hg
  obtain ⟨hY, ⟨r0, a0⟩, ⟨r1, a1⟩, ⟨r5, a5⟩, ⟨r6, a6⟩, ⟨r7, a7⟩, ⟨r9, a9⟩, ⟨r12, a12⟩, ⟨r13, a13⟩, ⟨r14, a14⟩, ⟨r15, a15⟩, r16, a16⟩ := id hM
  obtain ⟨w0, w1, w2, w3, w4, w5, w6, w7⟩ := id hW
  refine jv_iload_n h dX12_floorOf_0 rfl ?_
  refine jv_aload_n h dX12_floorOf_1 rfl ?_
  refine jv_gr 0 h dX12_floorOf_2 cf_11 (by decide) gw_900 (by assumption) (by assumption) ?_
  refine jv_iconst (nI 2) h dX12_floorOf_5 (by decide) ?_
  refine jv_iav h dX12_floorOf_6 (by assumption) (by repeat (with_reducible first | exact NF_nI _ | assumption | refine NF_add ?_ ?_ | refine NF_mul ?_ ?_)) ⟨by omega, by decide⟩ (by first | assumption | exact hN.n0 | exact hN.n1 | exact hN.n2 | exact hN.n3 | exact hN.n4 | exact hN.n5 | exact hN.dy (by omega) | exact hN.p3 (by omega) | exact hN.p0 (by omega) | exact hN.p1 (by omega) | exact hN.p2 (by omega) | exact hN.p4 (by omega) | exact hN.p5 (by omega)) ?_
  refine jv_nge 14 h dX12_floorOf_7 (by decide) (by repeat (with_reducible first | exact NF_nI _ | assumption | refine NF_add ?_ ?_ | refine NF_mul ?_ ?_)) (by repeat (with_reducible first | exact NF_nI _ | assumption | refine NF_add ?_ ?_ | refine NF_mul ?_ ?_)) ⟨by omega, by omega⟩ (fun c7 => ?_) (fun c7 => ?_)
  · refine jv_aload_n h dX12_floorOf_14 rfl ?_
    refine jv_VRi [] h dX12_floorOf_15 cw_X12_48 cf_11 (by assumption) (cm_many (by assumption) (by assumption) (by assumption)) (by decide) rfl rfl (Nat.le_of_ble_eq_true rfl) ⟨Nat.zero_le _, Nat.zero_le _⟩ ?_
    refine jv_iconst (nI 1) h dX12_floorOf_18 (by decide) ?_
    first | refine jv_isubN h dX12_floorOf_19 (by repeat (with_reducible first | exact NF_nI _ | assumption | refine NF_add ?_ ?_ | refine NF_mul ?_ ?_)) (by repeat (with_reducible first | exact NF_nI _ | assumption | refine NF_add ?_ ?_ | refine NF_mul ?_ ?_)) (by omega) ?_ | refine jv_isub h dX12_floorOf_19 ?_
    refine jv_iload_n h dX12_floorOf_20 rfl ?_
    first | refine jv_isubN h dX12_floorOf_21 (by repeat (with_reducible first | exact NF_nI _ | assumption | refine NF_add ?_ ?_ | refine NF_mul ?_ ?_)) (by repeat (with_reducible first | exact NF_nI _ | assumption | refine NF_add ?_ ?_ | refine NF_mul ?_ ?_)) (by omega) ?_ | refine jv_isub h dX12_floorOf_21 ?_
    exact jv_iret h hr dX12_floorOf_22 ⟨by unfold flN; first | (rw [if_pos (by omega)]; first | rfl | rw [hu]) | rw [if_neg (by omega)], rfl, rfl, rfl⟩
  · refine jv_iload_n h dX12_floorOf_10 rfl ?_
    refine jv_goto 22 h dX12_floorOf_11 (by decide) ?_
    exact jv_iret h hr dX12_floorOf_22 ⟨by unfold flN; first | (rw [if_pos (by omega)]; first | rfl | rw [hu]) | rw [if_neg (by omega)], rfl, rfl, rfl⟩
set_option maxHeartbeats 4000000 in
set_option maxRecDepth 100000 in
theorem cm_placeAt {g : GT} {T : TT} {Mi : MI} {Ml : ML} {Y : Nat} {S : Nat → Nat} (hM : ModS g T Y) (hN : NowR Mi (Y + 1) S) (hW : WF S) {u v : Int32} {f s : Nat} (hu : NF u f) (hs : NF v s) (hb : f < S 2 ∧ s < 2) : Ct g yX12_placeAt cX12_placeAt 3 (some .int) 2 0 0 [.ref Y, .int u, .int v] T Mi Ml (Ri T Mi Ml (nI (pbN (S 2) f s))) := by
  refine Ct.of' (plainFor_of_name (by decide +kernel)) (by exact Nat.le_of_ble_eq_true rfl) ?_
  intro x hg hR h hr hnm hnl
  subst hg
  obtain ⟨hY, ⟨r0, a0⟩, ⟨r1, a1⟩, ⟨r5, a5⟩, ⟨r6, a6⟩, ⟨r7, a7⟩, ⟨r9, a9⟩, ⟨r12, a12⟩, ⟨r13, a13⟩, ⟨r14, a14⟩, ⟨r15, a15⟩, r16, a16⟩ := id hM
  obtain ⟨w0, w1, w2, w3, w4, w5, w6, w7⟩ := id hW
  refine jv_iload_n h dX12_placeAt_0 rfl ?_
  refine jv_zne 8 h dX12_placeAt_1 (by decide) (by repeat (with_reducible first | exact NF_nI _ | assumption | refine NF_add ?_ ?_ | refine NF_mul ?_ ?_)) (by omega) (fun c1 => ?_) (fun c1 => ?_)
  · refine jv_aload_n h dX12_placeAt_8 rfl ?_
    refine jv_VRi [] h dX12_placeAt_9 cw_X12_48 cf_11 (by assumption) (cm_many (by assumption) (by assumption) (by assumption)) (by decide) rfl rfl (Nat.le_of_ble_eq_true rfl) ⟨Nat.zero_le _, Nat.zero_le _⟩ ?_
    refine jv_iconst (nI 1) h dX12_placeAt_12 (by decide) ?_
    first | refine jv_isubN h dX12_placeAt_13 (by repeat (with_reducible first | exact NF_nI _ | assumption | refine NF_add ?_ ?_ | refine NF_mul ?_ ?_)) (by repeat (with_reducible first | exact NF_nI _ | assumption | refine NF_add ?_ ?_ | refine NF_mul ?_ ?_)) (by omega) ?_ | refine jv_isub h dX12_placeAt_13 ?_
    refine jv_iload_n h dX12_placeAt_14 rfl ?_
    first | refine jv_isubN h dX12_placeAt_15 (by repeat (with_reducible first | exact NF_nI _ | assumption | refine NF_add ?_ ?_ | refine NF_mul ?_ ?_)) (by repeat (with_reducible first | exact NF_nI _ | assumption | refine NF_add ?_ ?_ | refine NF_mul ?_ ?_)) (by omega) ?_ | refine jv_isub h dX12_placeAt_15 ?_
    exact jv_iret h hr dX12_placeAt_16 ⟨by unfold pbN; first | (rw [if_pos (by omega)]; first | rfl | rw [hu]) | rw [if_neg (by omega)], rfl, rfl, rfl⟩
  · refine jv_iload_n h dX12_placeAt_4 rfl ?_
    refine jv_goto 16 h dX12_placeAt_5 (by decide) ?_
    exact jv_iret h hr dX12_placeAt_16 ⟨by unfold pbN; first | (rw [if_pos (by omega)]; first | rfl | rw [hu]) | rw [if_neg (by omega)], rfl, rfl, rfl⟩
set_option maxHeartbeats 4000000 in
set_option maxRecDepth 100000 in
theorem cm_carIn {g : GT} {T : TT} {Mi : MI} {Ml : ML} {Y : Nat} {S : Nat → Nat} (hM : ModS g T Y) (hN : NowR Mi (Y + 1) S) (hW : WF S) {u v : Int32} {p s : Nat} (hu : NF u p) (hs : NF v s) (hb : p < 1000000 ∧ s < 1000000) : Ct g yX12_carIn cX12_carIn 3 (some .int) 2 0 0 [.ref Y, .int u, .int v] T Mi Ml (Ri T Mi Ml (nI (ciN (S 2) p s))) := by
  refine Ct.of' (plainFor_of_name (by decide +kernel)) (by exact Nat.le_of_ble_eq_true rfl) ?_
  intro x hg hR h hr hnm hnl
  subst hg
  obtain ⟨hY, ⟨r0, a0⟩, ⟨r1, a1⟩, ⟨r5, a5⟩, ⟨r6, a6⟩, ⟨r7, a7⟩, ⟨r9, a9⟩, ⟨r12, a12⟩, ⟨r13, a13⟩, ⟨r14, a14⟩, ⟨r15, a15⟩, r16, a16⟩ := id hM
  obtain ⟨w0, w1, w2, w3, w4, w5, w6, w7⟩ := id hW
  have hml := Nat.mod_lt s (show 0 < 2 * S 2 by omega)
  refine jv_iload_n h dX12_carIn_0 rfl ?_
  refine jv_aload_n h dX12_carIn_1 rfl ?_
  refine jv_VRi [] h dX12_carIn_2 cw_X12_48 cf_11 (by assumption) (cm_many (by assumption) (by assumption) (by assumption)) (by decide) rfl rfl (Nat.le_of_ble_eq_true rfl) ⟨Nat.zero_le _, Nat.zero_le _⟩ ?_
  first | refine jv_iaddN h dX12_carIn_5 (by repeat (with_reducible first | exact NF_nI _ | assumption | refine NF_add ?_ ?_ | refine NF_mul ?_ ?_)) (by repeat (with_reducible first | exact NF_nI _ | assumption | refine NF_add ?_ ?_ | refine NF_mul ?_ ?_)) ?_ | refine jv_iadd h dX12_carIn_5 ?_
  refine jv_iload_n h dX12_carIn_6 rfl ?_
  refine jv_aload_n h dX12_carIn_7 rfl ?_
  refine jv_VRi [] h dX12_carIn_8 cw_X12_48 cf_11 (by assumption) (cm_many (by assumption) (by assumption) (by assumption)) (by decide) rfl rfl (Nat.le_of_ble_eq_true rfl) ⟨Nat.zero_le _, Nat.zero_le _⟩ ?_
  refine jv_iremN h dX12_carIn_11 (by repeat (with_reducible first | exact NF_nI _ | assumption | refine NF_add ?_ ?_ | refine NF_mul ?_ ?_)) (by repeat (with_reducible first | exact NF_nI _ | assumption | refine NF_add ?_ ?_ | refine NF_mul ?_ ?_)) (by omega) ⟨by omega, by omega⟩ ?_
  first | refine jv_isubN h dX12_carIn_12 (by repeat (with_reducible first | exact NF_nI _ | assumption | refine NF_add ?_ ?_ | refine NF_mul ?_ ?_)) (by repeat (with_reducible first | exact NF_nI _ | assumption | refine NF_add ?_ ?_ | refine NF_mul ?_ ?_)) (by omega) ?_ | refine jv_isub h dX12_carIn_12 ?_
  refine jv_aload_n h dX12_carIn_13 rfl ?_
  refine jv_VRi [] h dX12_carIn_14 cw_X12_48 cf_11 (by assumption) (cm_many (by assumption) (by assumption) (by assumption)) (by decide) rfl rfl (Nat.le_of_ble_eq_true rfl) ⟨Nat.zero_le _, Nat.zero_le _⟩ ?_
  refine jv_iremN h dX12_carIn_17 (by repeat (with_reducible first | exact NF_nI _ | assumption | refine NF_add ?_ ?_ | refine NF_mul ?_ ?_)) (by repeat (with_reducible first | exact NF_nI _ | assumption | refine NF_add ?_ ?_ | refine NF_mul ?_ ?_)) (by omega) ⟨by omega, by omega⟩ ?_
  exact jv_iret h hr dX12_carIn_18 ⟨by unfold ciN; rw [Nat.add_sub_assoc (by omega)], rfl, rfl, rfl⟩
