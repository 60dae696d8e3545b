set_option maxHeartbeats 4000000 in
set_option maxRecDepth 100000 in
theorem cm_day {g : GT} {T : TT} {Mi : MI} {Ml : ML} {Y : Nat} {S : Nat → Nat} (hM : ModS g T Y) (hN : NowR Mi (Y + 1) S) (hW : WF S) (c v : Int32) : Ct g yX12_day cX12_day 4 (some .int) 3 0 0 [.ref Y, .int c, .int v] T Mi Ml (Gi T (fun rv Mi' Ml' => rv = (sp_day S c v).1 ∧ Ml' = Ml ∧ (∀ a, a ≠ Y + 1 → Mi' a = Mi a) ∧ NowR Mi' (Y + 1) (sp_day S c v).2)) := by
  refine Ct.of' (plainFor_of_name (by decide +kernel)) (by exact Nat.le_of_ble_eq_true rfl) ?_
  intro x hg hR h hr hnm hnl
  subst hg
  obtain ⟨hY, ⟨r0, a0⟩, ⟨r1, a1⟩, ⟨r5, a5⟩, ⟨r6, a6⟩, ⟨r7, a7⟩, ⟨r9, a9⟩, ⟨r12, a12⟩, ⟨r13, a13⟩, ⟨r14, a14⟩, ⟨r15, a15⟩, r16, a16⟩ := id hM
  obtain ⟨w0, w1, w2, w3, w4, w5, w6, w7⟩ := id hW
  refine jv_aload_n h dX12_day_0 rfl ?_
  refine jv_iload_n h dX12_day_1 rfl ?_
  refine jv_VRi [_] h dX12_day_2 cw_X12_92 cf_11 (by assumption) (cm_isCar (by assumption) (by assumption) (by assumption) _) (by decide) rfl rfl (Nat.le_of_ble_eq_true rfl) ⟨Nat.zero_le _, Nat.zero_le _⟩ ?_
  refine jv_beq 15 h dX12_day_5 (by decide) (fun c5 => ?_) (fun c5 => ?_)
  · refine jv_iconst (-1) h dX12_day_15 (by decide) ?_
    exact jv_iret h hr dX12_day_16 ⟨_, rfl, rfl, by
    have e : sp_day S c v = (-1, S) := (by unfold sp_day; rw [if_neg (by simp_all)])
    rw [e]
    exact ⟨rfl, rfl, fun _ _ => rfl, hN⟩⟩
  · refine jv_iload_n h dX12_day_8 rfl ?_
    refine jv_SRi [_] h dX12_day_9 cw_X12_74 (cm_isDay _) (by decide) rfl rfl (Nat.le_of_ble_eq_true rfl) ⟨Nat.zero_le _, Nat.zero_le _⟩ ?_
    refine jv_bne 17 h dX12_day_12 (by decide) (fun c12 => ?_) (fun c12 => ?_)
    · obtain ⟨c9, rfl, -, hc9⟩ := isB_t c5
      obtain ⟨v9, rfl, -, hv9⟩ := isB_t c12
      refine jv_aload_n h dX12_day_17 rfl ?_
      refine jv_gr 0 h dX12_day_18 cf_11 (by decide) gw_900 (by assumption) (by assumption) ?_
      refine jv_bipush (nI 6) h dX12_day_21 (by decide) ?_
      refine jv_iload_n h dX12_day_23 rfl ?_
      first | refine jv_iaddN h dX12_day_24 (by repeat (with_reducible first | exact NF_nI _ | assumption | refine NF_add ?_ ?_ | refine NF_mul ?_ ?_)) (by repeat (with_reducible first | exact NF_nI _ | assumption | refine NF_add ?_ ?_ | refine NF_mul ?_ ?_)) ?_ | refine jv_iadd h dX12_day_24 ?_
      refine jv_iav h dX12_day_25 (by assumption) (by repeat (with_reducible first | exact NF_nI _ | assumption | refine NF_add ?_ ?_ | refine NF_mul ?_ ?_)) ⟨by omega, by decide⟩ (by first | assumption | exact hN.n0 | exact hN.n1 | exact hN.n2 | exact hN.n3 | exact hN.n4 | exact hN.n5 | exact hN.dy (by omega) | exact hN.p3 (by omega) | exact hN.p0 (by omega) | exact hN.p1 (by omega) | exact hN.p2 (by omega) | exact hN.p4 (by omega) | exact hN.p5 (by omega)) ?_
      refine jv_istore_n h dX12_day_26 (lt_nl hnl (by decide)) ?_
      refine jv_aload_n h dX12_day_27 rfl ?_
      refine jv_gr 0 h dX12_day_28 cf_11 (by decide) gw_900 (by assumption) (by assumption) ?_
      refine jv_bipush (nI 6) h dX12_day_31 (by decide) ?_
      refine jv_iload_n h dX12_day_33 rfl ?_
      first | refine jv_iaddN h dX12_day_34 (by repeat (with_reducible first | exact NF_nI _ | assumption | refine NF_add ?_ ?_ | refine NF_mul ?_ ?_)) (by repeat (with_reducible first | exact NF_nI _ | assumption | refine NF_add ?_ ?_ | refine NF_mul ?_ ?_)) ?_ | refine jv_iadd h dX12_day_34 ?_
      refine jv_iload_n h dX12_day_35 rfl ?_
      refine jv_iast h dX12_day_36 (by assumption) (by repeat (with_reducible first | exact NF_nI _ | assumption | refine NF_add ?_ ?_ | refine NF_mul ?_ ?_)) ⟨by omega, by decide⟩ ?_
      refine jv_iload_n h dX12_day_37 rfl ?_
      exact jv_iret h hr dX12_day_38 ⟨_, rfl, rfl, by
    have e : sp_day S (nI c9) (nI v9) = (nI (S (6 + c9)), setS S (6 + c9) v9) := by unfold sp_day; rw [if_pos ⟨by assumption, by assumption⟩, pn_nI (by omega), pn_nI (by omega)]
    rw [e]
    exact ⟨rfl, rfl, fun a ha => upd2_row _ _ ha, hN.set (by rw [eN_lo (by omega)])⟩⟩
    · refine jv_iconst (-1) h dX12_day_15 (by decide) ?_
      exact jv_iret h hr dX12_day_16 ⟨_, rfl, rfl, by
    have e : sp_day S c v = (-1, S) := (by unfold sp_day; rw [if_neg (by simp_all)])
    rw [e]
    exact ⟨rfl, rfl, fun _ _ => rfl, hN⟩⟩
set_option maxHeartbeats 4000000 in
set_option maxRecDepth 100000 in
theorem cm_rule {g : GT} {T : TT} {Mi : MI} {Ml : ML} {Y : Nat} {S : Nat → Nat} (hM : ModS g T Y) (hN : NowR Mi (Y + 1) S) (hW : WF S) (w v : Int32) : Ct g yX12_rule cX12_rule 4 (some .int) 2 0 0 [.ref Y, .int w, .int v] T Mi Ml (Gi T (fun rv Mi' Ml' => rv = (sp_rule S w v).1 ∧ Ml' = Ml ∧ (∀ a, a ≠ Y + 1 → Mi' a = Mi a) ∧ NowR Mi' (Y + 1) (sp_rule S w v).2)) := by
  refine Ct.of' (plainFor_of_name (by decide +kernel)) (by exact Nat.le_of_ble_eq_true rfl) ?_
  intro x hg hR h hr hnm hnl
  subst hg
  obtain ⟨hY, ⟨r0, a0⟩, ⟨r1, a1⟩, ⟨r5, a5⟩, ⟨r6, a6⟩, ⟨r7, a7⟩, ⟨r9, a9⟩, ⟨r12, a12⟩, ⟨r13, a13⟩, ⟨r14, a14⟩, ⟨r15, a15⟩, r16, a16⟩ := id hM
  obtain ⟨w0, w1, w2, w3, w4, w5, w6, w7⟩ := id hW
  refine jv_iload_n h dX12_rule_0 rfl ?_
  refine jv_if_ne 19 h dX12_rule_1 (by decide) (fun c1 => ?_) (fun c1 => ?_)
  · refine jv_iload_n h dX12_rule_19 rfl ?_
    refine jv_iconst (nI 1) h dX12_rule_20 (by decide) ?_
    refine jv_icmp_ne 38 h dX12_rule_21 (by decide) (fun c21 => ?_) (fun c21 => ?_)
    · refine jv_iconst (-1) h dX12_rule_38 (by decide) ?_
      exact jv_iret h hr dX12_rule_39 ⟨_, rfl, rfl, by
    have e : sp_rule S w v = (-1, S) := (by unfold sp_rule; rw [if_neg (by simp_all), if_neg (by first | (simp_all; done) | (rw [c1]; intro q; exact absurd q.1 (by decide)))])
    rw [e]
    exact ⟨rfl, rfl, fun _ _ => rfl, hN⟩⟩
    · refine jv_iload_n h dX12_rule_24 rfl ?_
      refine jv_i2l h dX12_rule_25 ?_
      refine jv_ldc2 h dX12_rule_26 gw_1027 ?_
      refine jv_ldc2 h dX12_rule_29 gw_1028 ?_
      refine jv_SRi [_, _, _] h dX12_rule_32 cw_X12_44 (c_mwithin (m := 2) (n := 25) _ (by decide) (by decide)) (by decide) rfl rfl (Nat.le_of_ble_eq_true rfl) ⟨Nat.zero_le _, Nat.zero_le _⟩ ?_
      refine jv_bne 40 h dX12_rule_35 (by decide) (fun c35 => ?_) (fun c35 => ?_)
      · obtain ⟨v9, rfl, -, hv9⟩ := isB_t c35
        subst c21
        refine jv_aload_n h dX12_rule_40 rfl ?_
        refine jv_gr 0 h dX12_rule_41 cf_11 (by decide) gw_900 (by assumption) (by assumption) ?_
        refine jv_iconst (nI 3) h dX12_rule_44 (by decide) ?_
        refine jv_iload_n h dX12_rule_45 rfl ?_
        first | refine jv_iaddN h dX12_rule_46 (by repeat (with_reducible first | exact NF_nI _ | assumption | refine NF_add ?_ ?_ | refine NF_mul ?_ ?_)) (by repeat (with_reducible first | exact NF_nI _ | assumption | refine NF_add ?_ ?_ | refine NF_mul ?_ ?_)) ?_ | refine jv_iadd h dX12_rule_46 ?_
        refine jv_iav h dX12_rule_47 (by assumption) (by repeat (with_reducible first | exact NF_nI _ | assumption | refine NF_add ?_ ?_ | refine NF_mul ?_ ?_)) ⟨by omega, by decide⟩ (by first | exact hN.n3 | exact hN.n4) ?_
        refine jv_istore_n h dX12_rule_48 (lt_nl hnl (by decide)) ?_
        refine jv_aload_n h dX12_rule_49 rfl ?_
        refine jv_gr 0 h dX12_rule_50 cf_11 (by decide) gw_900 (by assumption) (by assumption) ?_
        refine jv_iconst (nI 3) h dX12_rule_53 (by decide) ?_
        refine jv_iload_n h dX12_rule_54 rfl ?_
        first | refine jv_iaddN h dX12_rule_55 (by repeat (with_reducible first | exact NF_nI _ | assumption | refine NF_add ?_ ?_ | refine NF_mul ?_ ?_)) (by repeat (with_reducible first | exact NF_nI _ | assumption | refine NF_add ?_ ?_ | refine NF_mul ?_ ?_)) ?_ | refine jv_iadd h dX12_rule_55 ?_
        refine jv_iload_n h dX12_rule_56 rfl ?_
        refine jv_iast h dX12_rule_57 (by assumption) (by repeat (with_reducible first | exact NF_nI _ | assumption | refine NF_add ?_ ?_ | refine NF_mul ?_ ?_)) ⟨by omega, by decide⟩ ?_
        refine jv_iload_n h dX12_rule_58 rfl ?_
        exact jv_iret h hr dX12_rule_59 ⟨_, rfl, rfl, by
    first
    | (have e : sp_rule S (nI 0) (nI v9) = (nI (S 3), setS S 3 v9) := (by unfold sp_rule; rw [if_pos ⟨rfl, c13⟩, pn_nI (by omega)])
       rw [e]
       exact ⟨rfl, rfl, fun a ha => upd2_row _ _ ha, hN.set (by rw [eN_lo (by omega)])⟩)
    | (have e : sp_rule S (nI 1) (nI v9) = (nI (S 4), setS S 4 v9) := (by unfold sp_rule; rw [if_neg (fun q => absurd q.1 (by decide)), if_pos ⟨rfl, c35⟩, pn_nI (by omega)])
       rw [e]
       exact ⟨rfl, rfl, fun a ha => upd2_row _ _ ha, hN.set (by rw [eN_lo (by omega)])⟩)⟩
      · refine jv_iconst (-1) h dX12_rule_38 (by decide) ?_
        exact jv_iret h hr dX12_rule_39 ⟨_, rfl, rfl, by
    have e : sp_rule S w v = (-1, S) := (by unfold sp_rule; rw [if_neg (by simp_all), if_neg (by first | (simp_all; done) | (rw [c1]; intro q; exact absurd q.1 (by decide)))])
    rw [e]
    exact ⟨rfl, rfl, fun _ _ => rfl, hN⟩⟩
  · refine jv_iload_n h dX12_rule_4 rfl ?_
    refine jv_i2l h dX12_rule_5 ?_
    refine jv_lconst (lN 1) h dX12_rule_6 (by decide) ?_
    refine jv_ldc2 h dX12_rule_7 gw_1026 ?_
    refine jv_SRi [_, _, _] h dX12_rule_10 cw_X12_44 (c_mwithin (m := 1) (n := 61) _ (by decide) (by decide)) (by decide) rfl rfl (Nat.le_of_ble_eq_true rfl) ⟨Nat.zero_le _, Nat.zero_le _⟩ ?_
    refine jv_bne 40 h dX12_rule_13 (by decide) (fun c13 => ?_) (fun c13 => ?_)
    · obtain ⟨v9, rfl, -, hv9⟩ := isB_t c13
      have e9 : w = nI 0 := c1
      subst e9
      refine jv_aload_n h dX12_rule_40 rfl ?_
      refine jv_gr 0 h dX12_rule_41 cf_11 (by decide) gw_900 (by assumption) (by assumption) ?_
      refine jv_iconst (nI 3) h dX12_rule_44 (by decide) ?_
      refine jv_iload_n h dX12_rule_45 rfl ?_
      first | refine jv_iaddN h dX12_rule_46 (by repeat (with_reducible first | exact NF_nI _ | assumption | refine NF_add ?_ ?_ | refine NF_mul ?_ ?_)) (by repeat (with_reducible first | exact NF_nI _ | assumption | refine NF_add ?_ ?_ | refine NF_mul ?_ ?_)) ?_ | refine jv_iadd h dX12_rule_46 ?_
      refine jv_iav h dX12_rule_47 (by assumption) (by repeat (with_reducible first | exact NF_nI _ | assumption | refine NF_add ?_ ?_ | refine NF_mul ?_ ?_)) ⟨by omega, by decide⟩ (by first | exact hN.n3 | exact hN.n4) ?_
      refine jv_istore_n h dX12_rule_48 (lt_nl hnl (by decide)) ?_
      refine jv_aload_n h dX12_rule_49 rfl ?_
      refine jv_gr 0 h dX12_rule_50 cf_11 (by decide) gw_900 (by assumption) (by assumption) ?_
      refine jv_iconst (nI 3) h dX12_rule_53 (by decide) ?_
      refine jv_iload_n h dX12_rule_54 rfl ?_
      first | refine jv_iaddN h dX12_rule_55 (by repeat (with_reducible first | exact NF_nI _ | assumption | refine NF_add ?_ ?_ | refine NF_mul ?_ ?_)) (by repeat (with_reducible first | exact NF_nI _ | assumption | refine NF_add ?_ ?_ | refine NF_mul ?_ ?_)) ?_ | refine jv_iadd h dX12_rule_55 ?_
      refine jv_iload_n h dX12_rule_56 rfl ?_
      refine jv_iast h dX12_rule_57 (by assumption) (by repeat (with_reducible first | exact NF_nI _ | assumption | refine NF_add ?_ ?_ | refine NF_mul ?_ ?_)) ⟨by omega, by decide⟩ ?_
      refine jv_iload_n h dX12_rule_58 rfl ?_
      exact jv_iret h hr dX12_rule_59 ⟨_, rfl, rfl, by
    first
    | (have e : sp_rule S (nI 0) (nI v9) = (nI (S 3), setS S 3 v9) := (by unfold sp_rule; rw [if_pos ⟨rfl, c13⟩, pn_nI (by omega)])
       rw [e]
       exact ⟨rfl, rfl, fun a ha => upd2_row _ _ ha, hN.set (by rw [eN_lo (by omega)])⟩)
    | (have e : sp_rule S (nI 1) (nI v9) = (nI (S 4), setS S 4 v9) := (by unfold sp_rule; rw [if_neg (fun q => absurd q.1 (by decide)), if_pos ⟨rfl, c35⟩, pn_nI (by omega)])
       rw [e]
       exact ⟨rfl, rfl, fun a ha => upd2_row _ _ ha, hN.set (by rw [eN_lo (by omega)])⟩)⟩
    · refine jv_goto 38 h dX12_rule_16 (by decide) ?_
      refine jv_iconst (-1) h dX12_rule_38 (by decide) ?_
      exact jv_iret h hr dX12_rule_39 ⟨_, rfl, rfl, by
    have e : sp_rule S w v = (-1, S) := (by unfold sp_rule; rw [if_neg (by simp_all), if_neg (by first | (simp_all; done) | (rw [c1]; intro q; exact absurd q.1 (by decide)))])
    rw [e]
    exact ⟨rfl, rfl, fun _ _ => rfl, hN⟩⟩
set_option maxHeartbeats 4000000 in
set_option maxRecDepth 100000 in
theorem cm_seed {g : GT} {T : TT} {Mi : MI} {Ml : ML} {Y : Nat} {S : Nat → Nat} (hM : ModS g T Y) (hN : NowR Mi (Y + 1) S) (hW : WF S) (v : Int32) : Ct g yX12_seed cX12_seed 3 (some .int) 1 0 0 [.ref Y, .int v] T Mi Ml (Gi T (fun rv Mi' Ml' => rv = (sp_seed S v).1 ∧ Ml' = Ml ∧ (∀ a, a ≠ Y + 1 → Mi' a = Mi a) ∧ NowR Mi' (Y + 1) (sp_seed S v).2)) := by
  refine Ct.of' (plainFor_of_name (by decide +kernel)) (by exact Nat.le_of_ble_eq_true rfl) ?_
  intro x hg hR h hr hnm hnl
  subst hg
  obtain ⟨hY, ⟨r0, a0⟩, ⟨r1, a1⟩, ⟨r5, a5⟩, ⟨r6, a6⟩, ⟨r7, a7⟩, ⟨r9, a9⟩, ⟨r12, a12⟩, ⟨r13, a13⟩, ⟨r14, a14⟩, ⟨r15, a15⟩, r16, a16⟩ := id hM
  obtain ⟨w0, w1, w2, w3, w4, w5, w6, w7⟩ := id hW
  refine jv_iload_n h dX12_seed_0 rfl ?_
  refine jv_if_ge 6 h dX12_seed_1 (by decide) (fun c1 => ?_) (fun c1 => ?_)
  · obtain ⟨v9, hv9, rfl⟩ := nI_of ((i32_le0 v).mp c1)
    refine jv_aload_n h dX12_seed_6 rfl ?_
    refine jv_gr 0 h dX12_seed_7 cf_11 (by decide) gw_900 (by assumption) (by assumption) ?_
    refine jv_iconst (nI 5) h dX12_seed_10 (by decide) ?_
    refine jv_iav h dX12_seed_11 (by assumption) (by repeat (with_reducible first | exact NF_nI _ | assumption | refine NF_add ?_ ?_ | refine NF_mul ?_ ?_)) ⟨by omega, by decide⟩ (by first | assumption | exact hN.n0 | exact hN.n1 | exact hN.n2 | exact hN.n3 | exact hN.n4 | exact hN.n5 | exact hN.dy (by omega) | exact hN.p3 (by omega) | exact hN.p0 (by omega) | exact hN.p1 (by omega) | exact hN.p2 (by omega) | exact hN.p4 (by omega) | exact hN.p5 (by omega)) ?_
    refine jv_istore_n h dX12_seed_12 (lt_nl hnl (by decide)) ?_
    refine jv_aload_n h dX12_seed_13 rfl ?_
    refine jv_gr 0 h dX12_seed_14 cf_11 (by decide) gw_900 (by assumption) (by assumption) ?_
    refine jv_iconst (nI 5) h dX12_seed_17 (by decide) ?_
    refine jv_iload_n h dX12_seed_18 rfl ?_
    refine jv_iast h dX12_seed_19 (by assumption) (by repeat (with_reducible first | exact NF_nI _ | assumption | refine NF_add ?_ ?_ | refine NF_mul ?_ ?_)) ⟨by omega, by decide⟩ ?_
    refine jv_iload_n h dX12_seed_20 rfl ?_
    exact jv_iret h hr dX12_seed_21 ⟨_, rfl, rfl, by
    have e : sp_seed S (nI v9) = (nI (S 5), setS S 5 v9) := by unfold sp_seed; rw [if_neg (nI_pos hv9), pn_nI hv9]
    rw [e]
    exact ⟨rfl, rfl, fun a ha => upd2_row _ _ ha, hN.set (by rw [eN_lo (by omega)])⟩⟩
  · refine jv_iconst (-1) h dX12_seed_4 (by decide) ?_
    exact jv_iret h hr dX12_seed_5 ⟨_, rfl, rfl, by
    have e : sp_seed S v = (-1, S) := (by unfold sp_seed; rw [if_pos (by rw [i32_le0] at c1; simpa using c1)])
    rw [e]
    exact ⟨rfl, rfl, fun _ _ => rfl, hN⟩⟩
set_option maxHeartbeats 4000000 in
set_option maxRecDepth 100000 in
theorem cm_in {g : GT} {T : TT} {Mi : MI} {Ml : ML} {Y : Nat} {S : Nat → Nat} (hM : ModS g T Y) (hN : NowR Mi (Y + 1) S) (hW : WF S) {u : Nat} {U : Nat → Nat → Nat} (hD : UndR Mi Y U u) (p s : Int32) : Ct g yX12_in cX12_in 4 (some .int) 4 0 0 [.ref Y, .int p, .int s] T Mi Ml (Gi T (fun rv Mi' Ml' => rv = (sp_in S p s).1 ∧ Ml' = Ml ∧ MFr Mi Mi' Y ∧ ((sp_in S p s).2 = none → Mi' = Mi) ∧ ∀ S', (sp_in S p s).2 = some S' → NowR Mi' (Y + 1) S' ∧ UndR Mi' Y (puU U u S) (min (u + 1) 8))) := by
  refine Ct.of' (plainFor_of_name (by decide +kernel)) (by exact Nat.le_of_ble_eq_true rfl) ?_
  intro x hg hR h hr hnm hnl
  subst hg
  obtain ⟨hY, ⟨r0, a0⟩, ⟨r1, a1⟩, ⟨r5, a5⟩, ⟨r6, a6⟩, ⟨r7, a7⟩, ⟨r9, a9⟩, ⟨r12, a12⟩, ⟨r13, a13⟩, ⟨r14, a14⟩, ⟨r15, a15⟩, r16, a16⟩ := id hM
  obtain ⟨w0, w1, w2, w3, w4, w5, w6, w7⟩ := id hW
  refine jv_aload_n h dX12_in_0 rfl ?_
  refine jv_iload_n h dX12_in_1 rfl ?_
  refine jv_VRi [_] h dX12_in_2 cw_X12_81 cf_11 (by assumption) (cm_isPerson (by assumption) (by assumption) (by assumption) _) (by decide) rfl rfl (Nat.le_of_ble_eq_true rfl) ⟨Nat.zero_le _, Nat.zero_le _⟩ ?_
  refine jv_beq 18 h dX12_in_5 (by decide) (fun c5 => ?_) (fun c5 => ?_)
  · refine jv_iconst (-1) h dX12_in_18 (by decide) ?_
    exact jv_iret h hr dX12_in_19 ⟨_, rfl, rfl, by
    have e : sp_in S p s = (-1, none) := (by unfold sp_in; rw [if_neg (by simp_all)])
    rw [e]
    exact ⟨rfl, rfl, MFr.rf _ _, fun _ => rfl, fun _ z => by cases z⟩⟩
  · refine jv_iload_n h dX12_in_8 rfl ?_
    refine jv_i2l h dX12_in_9 ?_
    refine jv_lconst (lN 0) h dX12_in_10 (by decide) ?_
    refine jv_lconst (lN 1) h dX12_in_11 (by decide) ?_
    refine jv_SRi [_, _, _] h dX12_in_12 cw_X12_44 (c_mwithin (m := 0) (n := 2) _ (by decide) (by decide)) (by decide) rfl rfl (Nat.le_of_ble_eq_true rfl) ⟨Nat.zero_le _, Nat.zero_le _⟩ ?_
    refine jv_bne 20 h dX12_in_15 (by decide) (fun c15 => ?_) (fun c15 => ?_)
    · obtain ⟨i, rfl, -, hi⟩ := isB_t c5
      obtain ⟨s9, rfl, -, hs9⟩ := isB_t c15
      have hi := hi
      have w7i := w7 i hi
      have hpb := pbN_lt (h := S 2) (f := S (20 + 6 * i)) (s := s9) (by omega)
      have hci := ciN_lt (h := S 2) (c := pbN (S 2) (S (20 + 6 * i)) s9) (s := S 1) (by omega)
      have hld := ldN_le hW (ciN (S 2) (pbN (S 2) (S (20 + 6 * i)) s9) (S 1)) (S 0) (Nat.le_refl _)
      have hwg := wgN_le hW hi
      have hsp : sp_in S (nI i) (nI s9) = (if S (21 + 6 * i) ≠ 0 then (-2, none) else if S (18 + 6 * i) ≠ 3 ∧ S 3 < ldN S (ciN (S 2) (pbN (S 2) (S (20 + 6 * i)) s9) (S 1)) (S 0) + wgN S i then (-3, none) else (nI (ciN (S 2) (pbN (S 2) (S (20 + 6 * i)) s9) (S 1)), some (setS S (21 + 6 * i) (ciN (S 2) (pbN (S 2) (S (20 + 6 * i)) s9) (S 1) + 1)))) := by unfold sp_in; rw [if_pos ⟨by assumption, by assumption⟩, pn_nI (by omega), pn_nI (by omega)]
      refine jv_aload_n h dX12_in_20 rfl ?_
      refine jv_iload_n h dX12_in_21 rfl ?_
      refine jv_iconst (nI 3) h dX12_in_22 (by decide) ?_
      refine jv_VRi [_, _] h dX12_in_23 cw_X12_54 cf_11 (by assumption) (cm_told (by assumption) (by repeat (with_reducible first | exact NF_nI _ | assumption | refine NF_add ?_ ?_ | refine NF_mul ?_ ?_)) (by repeat (with_reducible first | exact NF_nI _ | assumption | refine NF_add ?_ ?_ | refine NF_mul ?_ ?_)) (by omega) (by first | assumption | exact hN.n0 | exact hN.n1 | exact hN.n2 | exact hN.n3 | exact hN.n4 | exact hN.n5 | exact hN.dy (by omega) | exact hN.p3 (by omega) | exact hN.p0 (by omega) | exact hN.p1 (by omega) | exact hN.p2 (by omega) | exact hN.p4 (by omega) | exact hN.p5 (by omega))) (by decide) rfl rfl (Nat.le_of_ble_eq_true rfl) ⟨Nat.zero_le _, Nat.zero_le _⟩ ?_
      refine jv_if_lt 32 h dX12_in_26 (by decide) (fun c26 => ?_) (fun c26 => ?_)
      · rw [carI_neg (by omega)] at c26
        refine jv_aload_n h dX12_in_32 rfl ?_
        refine jv_aload_n h dX12_in_33 rfl ?_
        refine jv_aload_n h dX12_in_34 rfl ?_
        refine jv_iload_n h dX12_in_35 rfl ?_
        refine jv_iconst (nI 2) h dX12_in_36 (by decide) ?_
        refine jv_VRi [_, _] h dX12_in_37 cw_X12_54 cf_11 (by assumption) (cm_told (by assumption) (by repeat (with_reducible first | exact NF_nI _ | assumption | refine NF_add ?_ ?_ | refine NF_mul ?_ ?_)) (by repeat (with_reducible first | exact NF_nI _ | assumption | refine NF_add ?_ ?_ | refine NF_mul ?_ ?_)) (by omega) (by first | assumption | exact hN.n0 | exact hN.n1 | exact hN.n2 | exact hN.n3 | exact hN.n4 | exact hN.n5 | exact hN.dy (by omega) | exact hN.p3 (by omega) | exact hN.p0 (by omega) | exact hN.p1 (by omega) | exact hN.p2 (by omega) | exact hN.p4 (by omega) | exact hN.p5 (by omega))) (by decide) rfl rfl (Nat.le_of_ble_eq_true rfl) ⟨Nat.zero_le _, Nat.zero_le _⟩ ?_
        refine jv_iload_n h dX12_in_40 rfl ?_
        refine jv_VRi [_, _] h dX12_in_41 cw_X12_142 cf_11 (by assumption) (cm_placeAt (by assumption) (by assumption) (by assumption) (by repeat (with_reducible first | exact NF_nI _ | assumption | refine NF_add ?_ ?_ | refine NF_mul ?_ ?_)) (by repeat (with_reducible first | exact NF_nI _ | assumption | refine NF_add ?_ ?_ | refine NF_mul ?_ ?_)) (by omega)) (by decide) rfl rfl (Nat.le_of_ble_eq_true rfl) ⟨Nat.zero_le _, Nat.zero_le _⟩ ?_
        refine jv_aload_n h dX12_in_44 rfl ?_
        refine jv_gr 0 h dX12_in_45 cf_11 (by decide) gw_900 (by assumption) (by assumption) ?_
        refine jv_iconst (nI 1) h dX12_in_48 (by decide) ?_
        refine jv_iav h dX12_in_49 (by assumption) (by repeat (with_reducible first | exact NF_nI _ | assumption | refine NF_add ?_ ?_ | refine NF_mul ?_ ?_)) ⟨by omega, by decide⟩ (by first | assumption | exact hN.n0 | exact hN.n1 | exact hN.n2 | exact hN.n3 | exact hN.n4 | exact hN.n5 | exact hN.dy (by omega) | exact hN.p3 (by omega) | exact hN.p0 (by omega) | exact hN.p1 (by omega) | exact hN.p2 (by omega) | exact hN.p4 (by omega) | exact hN.p5 (by omega)) ?_
        refine jv_VRi [_, _] h dX12_in_50 cw_X12_145 cf_11 (by assumption) (cm_carIn (by assumption) (by assumption) (by assumption) (by repeat (with_reducible first | exact NF_nI _ | assumption | refine NF_add ?_ ?_ | refine NF_mul ?_ ?_)) (by repeat (with_reducible first | exact NF_nI _ | assumption | refine NF_add ?_ ?_ | refine NF_mul ?_ ?_)) (by omega)) (by decide) rfl rfl (Nat.le_of_ble_eq_true rfl) ⟨Nat.zero_le _, Nat.zero_le _⟩ ?_
        refine jv_istore_n h dX12_in_53 (lt_nl hnl (by decide)) ?_
        refine jv_aload_n h dX12_in_54 rfl ?_
        refine jv_iload_n h dX12_in_55 rfl ?_
        refine jv_iconst (nI 0) h dX12_in_56 (by decide) ?_
        refine jv_VRi [_, _] h dX12_in_57 cw_X12_54 cf_11 (by assumption) (cm_told (by assumption) (by repeat (with_reducible first | exact NF_nI _ | assumption | refine NF_add ?_ ?_ | refine NF_mul ?_ ?_)) (by repeat (with_reducible first | exact NF_nI _ | assumption | refine NF_add ?_ ?_ | refine NF_mul ?_ ?_)) (by omega) (by first | assumption | exact hN.n0 | exact hN.n1 | exact hN.n2 | exact hN.n3 | exact hN.n4 | exact hN.n5 | exact hN.dy (by omega) | exact hN.p3 (by omega) | exact hN.p0 (by omega) | exact hN.p1 (by omega) | exact hN.p2 (by omega) | exact hN.p4 (by omega) | exact hN.p5 (by omega))) (by decide) rfl rfl (Nat.le_of_ble_eq_true rfl) ⟨Nat.zero_le _, Nat.zero_le _⟩ ?_
        refine jv_iconst (nI 3) h dX12_in_60 (by decide) ?_
        refine jv_neq 87 h dX12_in_61 (by decide) (by repeat (with_reducible first | exact NF_nI _ | assumption | refine NF_add ?_ ?_ | refine NF_mul ?_ ?_)) (by repeat (with_reducible first | exact NF_nI _ | assumption | refine NF_add ?_ ?_ | refine NF_mul ?_ ?_)) ⟨by omega, by omega⟩ (fun c61 => ?_) (fun c61 => ?_)
        · refine jv_aload_n h dX12_in_87 rfl ?_
          refine jv_VGv [] h dX12_in_88 cw_X12_148 cf_11 (by assumption) (cm_notes (by assumption) (by assumption) (by assumption) (by assumption)) (by decide) rfl rfl (Nat.le_of_ble_eq_true rfl) ⟨Nat.zero_le _, Nat.zero_le _⟩ (fun Mi88 Ml88 hp88 => ?_)
          have hm9 := hp88.1
          subst hm9
          obtain ⟨-, g1, g2, g3⟩ := hp88
          have hN2 : NowR Mi88 (Y + 1) S := hN.fr (g1 _ (by omega) (by omega))
          refine jv_aload_n h dX12_in_91 rfl ?_
          refine jv_gr 0 h dX12_in_92 cf_11 (by decide) gw_900 (by assumption) (by assumption) ?_
          refine jv_bipush (nI 18) h dX12_in_95 (by decide) ?_
          refine jv_bipush (nI 6) h dX12_in_97 (by decide) ?_
          refine jv_iload_n h dX12_in_99 rfl ?_
          first | refine jv_imulN h dX12_in_100 (by repeat (with_reducible first | exact NF_nI _ | assumption | refine NF_add ?_ ?_ | refine NF_mul ?_ ?_)) (by repeat (with_reducible first | exact NF_nI _ | assumption | refine NF_add ?_ ?_ | refine NF_mul ?_ ?_)) ?_ | refine jv_imul h dX12_in_100 ?_
          first | refine jv_iaddN h dX12_in_101 (by repeat (with_reducible first | exact NF_nI _ | assumption | refine NF_add ?_ ?_ | refine NF_mul ?_ ?_)) (by repeat (with_reducible first | exact NF_nI _ | assumption | refine NF_add ?_ ?_ | refine NF_mul ?_ ?_)) ?_ | refine jv_iadd h dX12_in_101 ?_
          refine jv_iconst (nI 3) h dX12_in_102 (by decide) ?_
          first | refine jv_iaddN h dX12_in_103 (by repeat (with_reducible first | exact NF_nI _ | assumption | refine NF_add ?_ ?_ | refine NF_mul ?_ ?_)) (by repeat (with_reducible first | exact NF_nI _ | assumption | refine NF_add ?_ ?_ | refine NF_mul ?_ ?_)) ?_ | refine jv_iadd h dX12_in_103 ?_
          refine jv_iload_n h dX12_in_104 rfl ?_
          refine jv_iast h dX12_in_105 (by assumption) (by repeat (with_reducible first | exact NF_nI _ | assumption | refine NF_add ?_ ?_ | refine NF_mul ?_ ?_)) ⟨by omega, by decide⟩ ?_
          refine jv_iload_n h dX12_in_106 rfl ?_
          exact jv_iret h hr dX12_in_107 ⟨_, rfl, rfl, by
    rw [hsp, if_neg (by simp [c26]), if_neg (by omega)]
    refine ⟨rfl, rfl, ⟨fun a h1 h2 h3 => by rw [upd2_row _ _ h2, g1 a h1 h3], fun q hq => by rw [upd2_row _ _ (by omega), g2 q hq]⟩, (fun z => by cases z), fun S' hS' => ?_⟩
    cases hS'
    refine ⟨?_, g3.fr (upd2_row _ _ (by omega)) (upd2_row _ _ (by omega))⟩
    have := hN2.set (j := 18 + 6 * i + 3) (w := ciN (S 2) (pbN (S 2) (S (20 + 6 * i)) s9) (S 1) + 1) (by rw [eN_car, carI_s])
    rw [show setS S (18 + 6 * i + 3) = setS S (21 + 6 * i) by rw [show 18 + 6 * i + 3 = 21 + 6 * i by omega]] at this
    exact this⟩
        · refine jv_aload_n h dX12_in_64 rfl ?_
          refine jv_iload_n h dX12_in_65 rfl ?_
          refine jv_VRi [_] h dX12_in_66 cw_X12_95 cf_11 (by assumption) (cm_loadOf (by assumption) (by assumption) (by assumption) (by repeat (with_reducible first | exact NF_nI _ | assumption | refine NF_add ?_ ?_ | refine NF_mul ?_ ?_)) (by omega)) (by decide) rfl rfl (Nat.le_of_ble_eq_true rfl) ⟨Nat.zero_le _, Nat.zero_le _⟩ ?_
          refine jv_aload_n h dX12_in_69 rfl ?_
          refine jv_iload_n h dX12_in_70 rfl ?_
          refine jv_VRi [_] h dX12_in_71 cw_X12_58 cf_11 (by assumption) (cm_weighs (by assumption) (by assumption) (by assumption) (by repeat (with_reducible first | exact NF_nI _ | assumption | refine NF_add ?_ ?_ | refine NF_mul ?_ ?_)) (by omega)) (by decide) rfl rfl (Nat.le_of_ble_eq_true rfl) ⟨Nat.zero_le _, Nat.zero_le _⟩ ?_
          first | refine jv_iaddN h dX12_in_74 (by repeat (with_reducible first | exact NF_nI _ | assumption | refine NF_add ?_ ?_ | refine NF_mul ?_ ?_)) (by repeat (with_reducible first | exact NF_nI _ | assumption | refine NF_add ?_ ?_ | refine NF_mul ?_ ?_)) ?_ | refine jv_iadd h dX12_in_74 ?_
          refine jv_aload_n h dX12_in_75 rfl ?_
          refine jv_gr 0 h dX12_in_76 cf_11 (by decide) gw_900 (by assumption) (by assumption) ?_
          refine jv_iconst (nI 3) h dX12_in_79 (by decide) ?_
          refine jv_iav h dX12_in_80 (by assumption) (by repeat (with_reducible first | exact NF_nI _ | assumption | refine NF_add ?_ ?_ | refine NF_mul ?_ ?_)) ⟨by omega, by decide⟩ (by first | assumption | exact hN.n0 | exact hN.n1 | exact hN.n2 | exact hN.n3 | exact hN.n4 | exact hN.n5 | exact hN.dy (by omega) | exact hN.p3 (by omega) | exact hN.p0 (by omega) | exact hN.p1 (by omega) | exact hN.p2 (by omega) | exact hN.p4 (by omega) | exact hN.p5 (by omega)) ?_
          refine jv_nle 87 h dX12_in_81 (by decide) (by repeat (with_reducible first | exact NF_nI _ | assumption | refine NF_add ?_ ?_ | refine NF_mul ?_ ?_)) (by repeat (with_reducible first | exact NF_nI _ | assumption | refine NF_add ?_ ?_ | refine NF_mul ?_ ?_)) ⟨by omega, by omega⟩ (fun c81 => ?_) (fun c81 => ?_)
          · refine jv_aload_n h dX12_in_87 rfl ?_
            refine jv_VGv [] h dX12_in_88 cw_X12_148 cf_11 (by assumption) (cm_notes (by assumption) (by assumption) (by assumption) (by assumption)) (by decide) rfl rfl (Nat.le_of_ble_eq_true rfl) ⟨Nat.zero_le _, Nat.zero_le _⟩ (fun Mi88 Ml88 hp88 => ?_)
            have hm9 := hp88.1
            subst hm9
            obtain ⟨-, g1, g2, g3⟩ := hp88
            have hN2 : NowR Mi88 (Y + 1) S := hN.fr (g1 _ (by omega) (by omega))
            refine jv_aload_n h dX12_in_91 rfl ?_
            refine jv_gr 0 h dX12_in_92 cf_11 (by decide) gw_900 (by assumption) (by assumption) ?_
            refine jv_bipush (nI 18) h dX12_in_95 (by decide) ?_
            refine jv_bipush (nI 6) h dX12_in_97 (by decide) ?_
            refine jv_iload_n h dX12_in_99 rfl ?_
            first | refine jv_imulN h dX12_in_100 (by repeat (with_reducible first | exact NF_nI _ | assumption | refine NF_add ?_ ?_ | refine NF_mul ?_ ?_)) (by repeat (with_reducible first | exact NF_nI _ | assumption | refine NF_add ?_ ?_ | refine NF_mul ?_ ?_)) ?_ | refine jv_imul h dX12_in_100 ?_
            first | refine jv_iaddN h dX12_in_101 (by repeat (with_reducible first | exact NF_nI _ | assumption | refine NF_add ?_ ?_ | refine NF_mul ?_ ?_)) (by repeat (with_reducible first | exact NF_nI _ | assumption | refine NF_add ?_ ?_ | refine NF_mul ?_ ?_)) ?_ | refine jv_iadd h dX12_in_101 ?_
            refine jv_iconst (nI 3) h dX12_in_102 (by decide) ?_
            first | refine jv_iaddN h dX12_in_103 (by repeat (with_reducible first | exact NF_nI _ | assumption | refine NF_add ?_ ?_ | refine NF_mul ?_ ?_)) (by repeat (with_reducible first | exact NF_nI _ | assumption | refine NF_add ?_ ?_ | refine NF_mul ?_ ?_)) ?_ | refine jv_iadd h dX12_in_103 ?_
            refine jv_iload_n h dX12_in_104 rfl ?_
            refine jv_iast h dX12_in_105 (by assumption) (by repeat (with_reducible first | exact NF_nI _ | assumption | refine NF_add ?_ ?_ | refine NF_mul ?_ ?_)) ⟨by omega, by decide⟩ ?_
            refine jv_iload_n h dX12_in_106 rfl ?_
            exact jv_iret h hr dX12_in_107 ⟨_, rfl, rfl, by
    rw [hsp, if_neg (by simp [c26]), if_neg (by omega)]
    refine ⟨rfl, rfl, ⟨fun a h1 h2 h3 => by rw [upd2_row _ _ h2, g1 a h1 h3], fun q hq => by rw [upd2_row _ _ (by omega), g2 q hq]⟩, (fun z => by cases z), fun S' hS' => ?_⟩
    cases hS'
    refine ⟨?_, g3.fr (upd2_row _ _ (by omega)) (upd2_row _ _ (by omega))⟩
    have := hN2.set (j := 18 + 6 * i + 3) (w := ciN (S 2) (pbN (S 2) (S (20 + 6 * i)) s9) (S 1) + 1) (by rw [eN_car, carI_s])
    rw [show setS S (18 + 6 * i + 3) = setS S (21 + 6 * i) by rw [show 18 + 6 * i + 3 = 21 + 6 * i by omega]] at this
    exact this⟩
          · refine jv_bipush (-3) h dX12_in_84 (by decide) ?_
            exact jv_iret h hr dX12_in_86 ⟨_, rfl, rfl, by
    have e : sp_in S (nI i) (nI s9) = (-3, none) := (by rw [hsp, if_neg (by simp [c26]), if_pos (by omega)])
    rw [e]
    exact ⟨rfl, rfl, MFr.rf _ _, fun _ => rfl, fun _ z => by cases z⟩⟩
      · rw [carI_neg (by omega)] at c26
        refine jv_bipush (-2) h dX12_in_29 (by decide) ?_
        exact jv_iret h hr dX12_in_31 ⟨_, rfl, rfl, by
    have e : sp_in S (nI i) (nI s9) = (-2, none) := (by rw [hsp, if_pos c26])
    rw [e]
    exact ⟨rfl, rfl, MFr.rf _ _, fun _ => rfl, fun _ z => by cases z⟩⟩
    · refine jv_iconst (-1) h dX12_in_18 (by decide) ?_
      exact jv_iret h hr dX12_in_19 ⟨_, rfl, rfl, by
    have e : sp_in S p s = (-1, none) := (by unfold sp_in; rw [if_neg (by simp_all)])
    rw [e]
    exact ⟨rfl, rfl, MFr.rf _ _, fun _ => rfl, fun _ z => by cases z⟩⟩
set_option maxHeartbeats 4000000 in
set_option maxRecDepth 100000 in
theorem cm_out {g : GT} {T : TT} {Mi : MI} {Ml : ML} {Y : Nat} {S : Nat → Nat} (hM : ModS g T Y) (hN : NowR Mi (Y + 1) S) (hW : WF S) {u : Nat} {U : Nat → Nat → Nat} (hD : UndR Mi Y U u) (p : Int32) : Ct g yX12_out cX12_out 2 (some .int) 4 0 0 [.ref Y, .int p] T Mi Ml (Gi T (fun rv Mi' Ml' => rv = (sp_out S p).1 ∧ Ml' = Ml ∧ MFr Mi Mi' Y ∧ ((sp_out S p).2 = none → Mi' = Mi) ∧ ∀ S', (sp_out S p).2 = some S' → NowR Mi' (Y + 1) S' ∧ UndR Mi' Y (puU U u S) (min (u + 1) 8))) := by
  refine Ct.of' (plainFor_of_name (by decide +kernel)) (by exact Nat.le_of_ble_eq_true rfl) ?_
  intro x hg hR h hr hnm hnl
  subst hg
  obtain ⟨hY, ⟨r0, a0⟩, ⟨r1, a1⟩, ⟨r5, a5⟩, ⟨r6, a6⟩, ⟨r7, a7⟩, ⟨r9, a9⟩, ⟨r12, a12⟩, ⟨r13, a13⟩, ⟨r14, a14⟩, ⟨r15, a15⟩, r16, a16⟩ := id hM
  obtain ⟨w0, w1, w2, w3, w4, w5, w6, w7⟩ := id hW
  refine jv_aload_n h dX12_out_0 rfl ?_
  refine jv_iload_n h dX12_out_1 rfl ?_
  refine jv_VRi [_] h dX12_out_2 cw_X12_81 cf_11 (by assumption) (cm_isPerson (by assumption) (by assumption) (by assumption) _) (by decide) rfl rfl (Nat.le_of_ble_eq_true rfl) ⟨Nat.zero_le _, Nat.zero_le _⟩ ?_
  refine jv_bne 10 h dX12_out_5 (by decide) (fun c5 => ?_) (fun c5 => ?_)
  · obtain ⟨i, rfl, -, hi⟩ := isB_t c5
    have hi := hi
    have w7i := w7 i hi
    have hsp : sp_out S (nI i) = (if S (21 + 6 * i) = 0 then (-2, none) else (nI (flN (S 2) (plN (S 2) (S (21 + 6 * i) - 1) (S 1))), some (ouS S i))) := by unfold sp_out; rw [if_pos c5, pn_nI (by omega)]
    refine jv_aload_n h dX12_out_10 rfl ?_
    refine jv_iload_n h dX12_out_11 rfl ?_
    refine jv_iconst (nI 3) h dX12_out_12 (by decide) ?_
    refine jv_VRi [_, _] h dX12_out_13 cw_X12_54 cf_11 (by assumption) (cm_told (by assumption) (by repeat (with_reducible first | exact NF_nI _ | assumption | refine NF_add ?_ ?_ | refine NF_mul ?_ ?_)) (by repeat (with_reducible first | exact NF_nI _ | assumption | refine NF_add ?_ ?_ | refine NF_mul ?_ ?_)) (by omega) (by first | assumption | exact hN.n0 | exact hN.n1 | exact hN.n2 | exact hN.n3 | exact hN.n4 | exact hN.n5 | exact hN.dy (by omega) | exact hN.p3 (by omega) | exact hN.p0 (by omega) | exact hN.p1 (by omega) | exact hN.p2 (by omega) | exact hN.p4 (by omega) | exact hN.p5 (by omega))) (by decide) rfl rfl (Nat.le_of_ble_eq_true rfl) ⟨Nat.zero_le _, Nat.zero_le _⟩ ?_
    refine jv_if_ge 22 h dX12_out_16 (by decide) (fun c16 => ?_) (fun c16 => ?_)
    · rw [i32_le0, carI_neg (by omega)] at c16
      refine jv_aload_n h dX12_out_22 rfl ?_
      refine jv_VGv [] h dX12_out_23 cw_X12_148 cf_11 (by assumption) (cm_notes (by assumption) (by assumption) (by assumption) (by assumption)) (by decide) rfl rfl (Nat.le_of_ble_eq_true rfl) ⟨Nat.zero_le _, Nat.zero_le _⟩ (fun Mi23 Ml23 hp23 => ?_)
      have hm9 := hp23.1
      subst hm9
      obtain ⟨-, g1, g2, g3⟩ := hp23
      have hN2 : NowR Mi23 (Y + 1) S := hN.fr (g1 _ (by omega) (by omega))
      refine jv_aload_n h dX12_out_26 rfl ?_
      refine jv_iload_n h dX12_out_27 rfl ?_
      refine jv_VGv [_] h dX12_out_28 cw_X12_151 cf_11 (by assumption) (cm_getsOut hM hN2 hW (NF_nI _) hi c16) (by decide) rfl rfl (Nat.le_of_ble_eq_true rfl) ⟨Nat.zero_le _, Nat.zero_le _⟩ (fun Mi28 Ml28 hp28 => ?_)
      have hm9 := hp28.1
      subst hm9
      obtain ⟨-, k1, k2⟩ := hp28
      have hf9 : Mi28 (Y + 1) (18 + 6 * i + 2) = nI (flN (S 2) (plN (S 2) (S (21 + 6 * i) - 1) (S 1))) := by rw [k2.p2 (by omega), ouS_f.1]
      refine jv_aload_n h dX12_out_31 rfl ?_
      refine jv_iload_n h dX12_out_32 rfl ?_
      refine jv_iconst (nI 2) h dX12_out_33 (by decide) ?_
      refine jv_VRi [_, _] h dX12_out_34 cw_X12_54 cf_11 (by assumption) (cm_told hM (NF_nI _) (NF_nI _) (by omega) hf9) (by decide) rfl rfl (Nat.le_of_ble_eq_true rfl) ⟨Nat.zero_le _, Nat.zero_le _⟩ ?_
      exact jv_iret h hr dX12_out_37 ⟨_, rfl, rfl, by
    rw [hsp, if_neg c16]
    refine ⟨rfl, rfl, ⟨fun a h1 h2 h3 => by rw [k1 a h2, g1 a h1 h3], fun q hq => by rw [k1 Y (by omega), g2 q hq]⟩, (fun z => by cases z), fun S' hS' => ?_⟩
    cases hS'
    exact ⟨k2, g3.fr (k1 _ (by omega)) (k1 _ (by omega))⟩⟩
    · rw [i32_le0, carI_neg (by omega)] at c16
      simp at c16
      refine jv_bipush (-2) h dX12_out_19 (by decide) ?_
      exact jv_iret h hr dX12_out_21 ⟨_, rfl, rfl, by
    have e : sp_out S (nI i) = (-2, none) := (by rw [hsp, if_pos c16])
    rw [e]
    exact ⟨rfl, rfl, MFr.rf _ _, fun _ => rfl, fun _ z => by cases z⟩⟩
  · refine jv_iconst (-1) h dX12_out_8 (by decide) ?_
    exact jv_iret h hr dX12_out_9 ⟨_, rfl, rfl, by
    have e : sp_out S p = (-1, none) := (by unfold sp_out; rw [if_neg (by simp_all)])
    rw [e]
    exact ⟨rfl, rfl, MFr.rf _ _, fun _ => rfl, fun _ z => by cases z⟩⟩
set_option maxHeartbeats 4000000 in
set_option maxRecDepth 100000 in
theorem cm_person {g : GT} {T : TT} {Mi : MI} {Ml : ML} {Y : Nat} {S : Nat → Nat} (hM : ModS g T Y) (hN : NowR Mi (Y + 1) S) (hW : WF S) {u : Nat} {U : Nat → Nat → Nat} (hD : UndR Mi Y U u) (k w f d : Int32) : Ct g yX12_person cX12_person 5 (some .int) 3 0 0 [.ref Y, .int k, .int w, .int f, .int d] T Mi Ml (Gi T (fun rv Mi' Ml' => rv = (sp_person S k w f d).1 ∧ Ml' = Ml ∧ MFr Mi Mi' Y ∧ ((sp_person S k w f d).2 = none → Mi' = Mi) ∧ ∀ S', (sp_person S k w f d).2 = some S' → NowR Mi' (Y + 1) S' ∧ UndR Mi' Y U 0)) := by
  refine Ct.of' (plainFor_of_name (by decide +kernel)) (by exact Nat.le_of_ble_eq_true rfl) ?_
  intro x hg hR h hr hnm hnl
  subst hg
  obtain ⟨hY, ⟨r0, a0⟩, ⟨r1, a1⟩, ⟨r5, a5⟩, ⟨r6, a6⟩, ⟨r7, a7⟩, ⟨r9, a9⟩, ⟨r12, a12⟩, ⟨r13, a13⟩, ⟨r14, a14⟩, ⟨r15, a15⟩, r16, a16⟩ := id hM
  obtain ⟨w0, w1, w2, w3, w4, w5, w6, w7⟩ := id hW
  refine jv_iload_n h dX12_person_0 rfl ?_
  refine jv_i2l h dX12_person_1 ?_
  refine jv_lconst (lN 0) h dX12_person_2 (by decide) ?_
  refine jv_ldc2 h dX12_person_3 gw_956 ?_
  refine jv_SRi [_, _, _] h dX12_person_6 cw_X12_44 (c_mwithin (m := 0) (n := 5) _ (by decide) (by decide)) (by decide) rfl rfl (Nat.le_of_ble_eq_true rfl) ⟨Nat.zero_le _, Nat.zero_le _⟩ ?_
  refine jv_beq 40 h dX12_person_9 (by decide) (fun c9 => ?_) (fun c9 => ?_)
  · refine jv_iconst (-1) h dX12_person_40 (by decide) ?_
    exact jv_iret h hr dX12_person_41 ⟨_, rfl, rfl, by
    have e : sp_person S k w f d = (-1, none) := (by unfold sp_person; rw [if_neg (by simp_all)])
    rw [e]
    exact ⟨rfl, rfl, MFr.rf _ _, fun _ => rfl, fun _ z => by cases z⟩⟩
  · refine jv_iload_n h dX12_person_12 rfl ?_
    refine jv_i2l h dX12_person_13 ?_
    refine jv_lconst (lN 1) h dX12_person_14 (by decide) ?_
    refine jv_ldc2 h dX12_person_15 gw_960 ?_
    refine jv_SRi [_, _, _] h dX12_person_18 cw_X12_44 (c_mwithin (m := 1) (n := 10) _ (by decide) (by decide)) (by decide) rfl rfl (Nat.le_of_ble_eq_true rfl) ⟨Nat.zero_le _, Nat.zero_le _⟩ ?_
    refine jv_beq 40 h dX12_person_21 (by decide) (fun c21 => ?_) (fun c21 => ?_)
    · refine jv_iconst (-1) h dX12_person_40 (by decide) ?_
      exact jv_iret h hr dX12_person_41 ⟨_, rfl, rfl, by
    have e : sp_person S k w f d = (-1, none) := (by unfold sp_person; rw [if_neg (by simp_all)])
    rw [e]
    exact ⟨rfl, rfl, MFr.rf _ _, fun _ => rfl, fun _ z => by cases z⟩⟩
    · refine jv_aload_n h dX12_person_24 rfl ?_
      refine jv_iload_n h dX12_person_25 rfl ?_
      refine jv_VRi [_] h dX12_person_26 cw_X12_70 cf_11 (by assumption) (cm_isFloor (by assumption) (by assumption) (by assumption) _) (by decide) rfl rfl (Nat.le_of_ble_eq_true rfl) ⟨Nat.zero_le _, Nat.zero_le _⟩ ?_
      refine jv_beq 40 h dX12_person_29 (by decide) (fun c29 => ?_) (fun c29 => ?_)
      · refine jv_iconst (-1) h dX12_person_40 (by decide) ?_
        exact jv_iret h hr dX12_person_41 ⟨_, rfl, rfl, by
    have e : sp_person S k w f d = (-1, none) := (by unfold sp_person; rw [if_neg (by simp_all)])
    rw [e]
    exact ⟨rfl, rfl, MFr.rf _ _, fun _ => rfl, fun _ z => by cases z⟩⟩
      · refine jv_iload h dX12_person_32 rfl ?_
        refine jv_SRi [_] h dX12_person_34 cw_X12_74 (cm_isDay _) (by decide) rfl rfl (Nat.le_of_ble_eq_true rfl) ⟨Nat.zero_le _, Nat.zero_le _⟩ ?_
        refine jv_bne 42 h dX12_person_37 (by decide) (fun c37 => ?_) (fun c37 => ?_)
        · obtain ⟨k9, rfl, -, hk9⟩ := isB_t c9
          obtain ⟨w9, rfl, hw91, hw92⟩ := isB_t c21
          obtain ⟨f9, rfl, -, hf9⟩ := isB_t c29
          obtain ⟨d9, rfl, -, hd9⟩ := isB_t c37
          have hsp : sp_person S (nI k9) (nI w9) (nI f9) (nI d9) = (if S 0 = 6 then (-3, none) else (nI (S 0), some (addS S k9 w9 f9 d9))) := by unfold sp_person; rw [if_pos ⟨by assumption, by assumption, by assumption, by assumption⟩, pn_nI (by omega), pn_nI (by omega), pn_nI (by omega), pn_nI (by omega)]
          refine jv_aload_n h dX12_person_42 rfl ?_
          refine jv_gr 0 h dX12_person_43 cf_11 (by decide) gw_900 (by assumption) (by assumption) ?_
          refine jv_iconst (nI 0) h dX12_person_46 (by decide) ?_
          refine jv_iav h dX12_person_47 (by assumption) (by repeat (with_reducible first | exact NF_nI _ | assumption | refine NF_add ?_ ?_ | refine NF_mul ?_ ?_)) ⟨by omega, by decide⟩ (by first | assumption | exact hN.n0 | exact hN.n1 | exact hN.n2 | exact hN.n3 | exact hN.n4 | exact hN.n5 | exact hN.dy (by omega) | exact hN.p3 (by omega) | exact hN.p0 (by omega) | exact hN.p1 (by omega) | exact hN.p2 (by omega) | exact hN.p4 (by omega) | exact hN.p5 (by omega)) ?_
          refine jv_bipush (nI 6) h dX12_person_48 (by decide) ?_
          refine jv_nne 56 h dX12_person_50 (by decide) (by repeat (with_reducible first | exact NF_nI _ | assumption | refine NF_add ?_ ?_ | refine NF_mul ?_ ?_)) (by repeat (with_reducible first | exact NF_nI _ | assumption | refine NF_add ?_ ?_ | refine NF_mul ?_ ?_)) ⟨by omega, by omega⟩ (fun c50 => ?_) (fun c50 => ?_)
          · refine jv_aload_n h dX12_person_56 rfl ?_
            refine jv_iload_n h dX12_person_57 rfl ?_
            refine jv_iload_n h dX12_person_58 rfl ?_
            refine jv_iload_n h dX12_person_59 rfl ?_
            refine jv_iload h dX12_person_60 rfl ?_
            refine jv_VGv [_, _, _, _] h dX12_person_62 cw_X12_77 cf_11 (by assumption) (cm_comesIn (by assumption) (by assumption) (by assumption) (by repeat (with_reducible first | exact NF_nI _ | assumption | refine NF_add ?_ ?_ | refine NF_mul ?_ ?_)) (by repeat (with_reducible first | exact NF_nI _ | assumption | refine NF_add ?_ ?_ | refine NF_mul ?_ ?_)) (by repeat (with_reducible first | exact NF_nI _ | assumption | refine NF_add ?_ ?_ | refine NF_mul ?_ ?_)) (by repeat (with_reducible first | exact NF_nI _ | assumption | refine NF_add ?_ ?_ | refine NF_mul ?_ ?_)) (by omega)) (by decide) rfl rfl (Nat.le_of_ble_eq_true rfl) ⟨Nat.zero_le _, Nat.zero_le _⟩ (fun Mi62 Ml62 hp62 => ?_)
            have hm9 := hp62.1
            subst hm9
            obtain ⟨-, g1, g2, g3, g4⟩ := hp62
            have hf9 : Mi62 (Y + 1) 0 = nI (S 0 + 1) := by rw [g4.n0, addS_p.1]
            refine jv_aload_n h dX12_person_65 rfl ?_
            refine jv_gr 0 h dX12_person_66 cf_11 (by decide) gw_900 (by assumption) (by assumption) ?_
            refine jv_iconst (nI 0) h dX12_person_69 (by decide) ?_
            refine jv_iav h dX12_person_70 (by assumption) (by repeat (with_reducible first | exact NF_nI _ | assumption | refine NF_add ?_ ?_ | refine NF_mul ?_ ?_)) ⟨by omega, by decide⟩ (by exact hf9) ?_
            refine jv_iconst (nI 1) h dX12_person_71 (by decide) ?_
            first | refine jv_isubN h dX12_person_72 (by repeat (with_reducible first | exact NF_nI _ | assumption | refine NF_add ?_ ?_ | refine NF_mul ?_ ?_)) (by repeat (with_reducible first | exact NF_nI _ | assumption | refine NF_add ?_ ?_ | refine NF_mul ?_ ?_)) (by omega) ?_ | refine jv_isub h dX12_person_72 ?_
            exact jv_iret h hr dX12_person_73 ⟨_, rfl, rfl, by
    rw [hsp, if_neg c50]
    refine ⟨by congr 1, rfl, ⟨fun a h1 h2 h3 => g1 a h2 h1, g2⟩, (fun z => by cases z), fun S' hS' => ?_⟩
    cases hS'
    exact ⟨g4, g3, by omega, fun j hj => absurd hj (by omega)⟩⟩
          · refine jv_bipush (-3) h dX12_person_53 (by decide) ?_
            exact jv_iret h hr dX12_person_55 ⟨_, rfl, rfl, by
    have e : sp_person S (nI k9) (nI w9) (nI f9) (nI d9) = (-3, none) := (by rw [hsp, if_pos c50])
    rw [e]
    exact ⟨rfl, rfl, MFr.rf _ _, fun _ => rfl, fun _ z => by cases z⟩⟩
        · refine jv_iconst (-1) h dX12_person_40 (by decide) ?_
          exact jv_iret h hr dX12_person_41 ⟨_, rfl, rfl, by
    have e : sp_person S k w f d = (-1, none) := (by unfold sp_person; rw [if_neg (by simp_all)])
    rw [e]
    exact ⟨rfl, rfl, MFr.rf _ _, fun _ => rfl, fun _ z => by cases z⟩⟩
set_option maxHeartbeats 4000000 in
set_option maxRecDepth 100000 in
theorem cm_steps {g : GT} {T : TT} {Mi : MI} {Ml : ML} {Y : Nat} {z : SU} (hM : ModS g T Y) (hN : NowR Mi (Y + 1) z.1) (hD : UndR Mi Y z.2.1 z.2.2) (hZ : WFU z) (k : Int32) : Ct g yX12_steps cX12_steps 3 (some .int) 5 0 0 [.ref Y, .int k] T Mi Ml (Gi T (fun rv Mi' Ml' => rv = (sp_steps z k).1 ∧ Ml' = Ml ∧ MFr Mi Mi' Y ∧ NowR Mi' (Y + 1) (sp_steps z k).2.1 ∧ UndR Mi' Y (sp_steps z k).2.2.1 (sp_steps z k).2.2.2)) := by
  refine Ct.of' (plainFor_of_name (by decide +kernel)) (by exact Nat.le_of_ble_eq_true rfl) ?_
  intro x hg hR h hr hnm hnl
  subst hg
  obtain ⟨hY, ⟨r0, a0⟩, ⟨r1, a1⟩, ⟨r5, a5⟩, ⟨r6, a6⟩, ⟨r7, a7⟩, ⟨r9, a9⟩, ⟨r12, a12⟩, ⟨r13, a13⟩, ⟨r14, a14⟩, ⟨r15, a15⟩, r16, a16⟩ := id hM
  have hW := hZ.1
  obtain ⟨d1, d2, d3⟩ := id hD
  obtain ⟨w0, w1, w2, w3, w4, w5, w6, w7⟩ := id hW
  refine jv_iload_n h dX12_steps_0 rfl ?_
  refine jv_i2l h dX12_steps_1 ?_
  refine jv_lconst (lN 1) h dX12_steps_2 (by decide) ?_
  refine jv_ldc2 h dX12_steps_3 gw_1026 ?_
  refine jv_SRi [_, _, _] h dX12_steps_6 cw_X12_44 (c_mwithin (m := 1) (n := 61) _ (by decide) (by decide)) (by decide) rfl rfl (Nat.le_of_ble_eq_true rfl) ⟨Nat.zero_le _, Nat.zero_le _⟩ ?_
  refine jv_bne 14 h dX12_steps_9 (by decide) (fun c9 => ?_) (fun c9 => ?_)
  · obtain ⟨k9, rfl, -, hk9⟩ := isB_t c9
    have hsp : sp_steps z (nI k9) = (if 9999 < z.1 1 + k9 then (-3, z) else (nI (rdN (stT z k9).1), stT z k9)) := by unfold sp_steps; rw [if_pos c9, pn_nI (by omega)]
    refine jv_aload_n h dX12_steps_14 rfl ?_
    refine jv_gr 0 h dX12_steps_15 cf_11 (by decide) gw_900 (by assumption) (by assumption) ?_
    refine jv_iconst (nI 1) h dX12_steps_18 (by decide) ?_
    refine jv_iav h dX12_steps_19 (by assumption) (by repeat (with_reducible first | exact NF_nI _ | assumption | refine NF_add ?_ ?_ | refine NF_mul ?_ ?_)) ⟨by omega, by decide⟩ (by first | assumption | exact hN.n0 | exact hN.n1 | exact hN.n2 | exact hN.n3 | exact hN.n4 | exact hN.n5 | exact hN.dy (by omega) | exact hN.p3 (by omega) | exact hN.p0 (by omega) | exact hN.p1 (by omega) | exact hN.p2 (by omega) | exact hN.p4 (by omega) | exact hN.p5 (by omega)) ?_
    refine jv_iload_n h dX12_steps_20 rfl ?_
    first | refine jv_iaddN h dX12_steps_21 (by repeat (with_reducible first | exact NF_nI _ | assumption | refine NF_add ?_ ?_ | refine NF_mul ?_ ?_)) (by repeat (with_reducible first | exact NF_nI _ | assumption | refine NF_add ?_ ?_ | refine NF_mul ?_ ?_)) ?_ | refine jv_iadd h dX12_steps_21 ?_
    refine jv_sipush (nI 9999) h dX12_steps_22 (by decide) ?_
    refine jv_nle 31 h dX12_steps_25 (by decide) (by repeat (with_reducible first | exact NF_nI _ | assumption | refine NF_add ?_ ?_ | refine NF_mul ?_ ?_)) (by repeat (with_reducible first | exact NF_nI _ | assumption | refine NF_add ?_ ?_ | refine NF_mul ?_ ?_)) ⟨by omega, by omega⟩ (fun c25 => ?_) (fun c25 => ?_)
    · refine jv_iconst (nI 0) h dX12_steps_31 (by decide) ?_
      refine jv_istore_n h dX12_steps_32 (lt_nl hnl (by decide)) ?_
      have hl33 : ∀ (n : Nat) (i : Nat) (M1 : MI), k9 - i < n → i ≤ k9 → MFr Mi M1 Y → NowR M1 (Y + 1) (stT z i).1 → UndR M1 Y (stT z i).2.1 (stT z i).2.2 → V x 0 0 T M1 Ml 33 [some (.ref Y), some (.int (nI k9)), some (.int (nI i))] [] := by
        intro n
        induction n with
        | zero => intro i M1 hN9 hi f1 f2 f3; exact absurd hN9 (by omega)
        | succ n ih =>
          intro i M1 hN9 hi f1 f2 f3
          refine jv_iload_n h dX12_steps_33 rfl ?_
          refine jv_iload_n h dX12_steps_34 rfl ?_
          refine jv_nge 52 h dX12_steps_35 (by decide) (by repeat (with_reducible first | exact NF_nI _ | assumption | refine NF_add ?_ ?_ | refine NF_mul ?_ ?_)) (by repeat (with_reducible first | exact NF_nI _ | assumption | refine NF_add ?_ ?_ | refine NF_mul ?_ ?_)) ⟨by omega, by omega⟩ (fun c35 => ?_) (fun c35 => ?_)
          · obtain ⟨hz1, hz2⟩ := stT_WF hZ i (by omega)
            have hie : i = k9 := by omega
            subst hie
            refine jv_aload_n h dX12_steps_52 rfl ?_
            refine jv_VRi [] h dX12_steps_53 cw_X12_107 cf_11 (by assumption) (cm_riders hM f2 hz1.1) (by decide) rfl rfl (Nat.le_of_ble_eq_true rfl) ⟨Nat.zero_le _, Nat.zero_le _⟩ ?_
            exact jv_iret h hr dX12_steps_56 ⟨_, rfl, rfl, by
    rw [hsp, if_neg (by omega)]
    exact ⟨rfl, rfl, f1, f2, f3⟩⟩
          · obtain ⟨hz1, hz2⟩ := stT_WF hZ i (by omega)
            refine jv_aload_n h dX12_steps_38 rfl ?_
            refine jv_VGv [] h dX12_steps_39 cw_X12_148 cf_11 (by assumption) (cm_notes hM f2 hz1.1 f3) (by decide) rfl rfl (Nat.le_of_ble_eq_true rfl) ⟨Nat.zero_le _, Nat.zero_le _⟩ (fun Mi39 Ml39 hp39 => ?_)
            have hm9 := hp39.1
            subst hm9
            obtain ⟨-, g1, g2, g3⟩ := hp39
            refine jv_aload_n h dX12_steps_42 rfl ?_
            refine jv_VGv [] h dX12_steps_43 cw_X12_158 cf_11 (by assumption) (cm_goesOn hM (f2.fr (g1 _ (by omega) (by omega))) hz1.1 (by omega)) (by decide) rfl rfl (Nat.le_of_ble_eq_true rfl) ⟨Nat.zero_le _, Nat.zero_le _⟩ (fun Mi43 Ml43 hp43 => ?_)
            refine jv_iinc (nI (i + 1)) h dX12_steps_46 rfl (lt_nl hnl (by decide)) (nI_inc i) ?_
            refine jv_goto 33 h dX12_steps_49 (by decide) ?_
            have hm9 := hp43.1
            subst hm9
            obtain ⟨-, k1, k2⟩ := hp43
            exact ih (i + 1) _ (by omega) (by omega) (f1.tr ⟨fun a h1 h2 h3 => by rw [k1 a h2, g1 a h1 h3], fun q hq => by rw [k1 Y (by omega), g2 q hq]⟩) k2 (g3.fr (k1 _ (by omega)) (k1 _ (by omega)))
      exact hl33 (k9 + 1) 0 _ (by omega) (by omega) (MFr.rf _ _) hN hD
    · refine jv_bipush (-3) h dX12_steps_28 (by decide) ?_
      exact jv_iret h hr dX12_steps_30 ⟨_, rfl, rfl, by
    have e : sp_steps z (nI k9) = (-3, z) := (by rw [hsp, if_pos (by omega)])
    rw [e]
    exact ⟨rfl, rfl, MFr.rf _ _, hN, hD⟩⟩
  · refine jv_iconst (-1) h dX12_steps_12 (by decide) ?_
    exact jv_iret h hr dX12_steps_13 ⟨_, rfl, rfl, by
    have e : sp_steps z k = (-1, z) := (by unfold sp_steps; rw [if_neg (by simp [c9])])
    rw [e]
    exact ⟨rfl, rfl, MFr.rf _ _, hN, hD⟩⟩
set_option maxHeartbeats 4000000 in
set_option maxRecDepth 100000 in
theorem cm_size {g : GT} {T : TT} {Mi : MI} {Ml : ML} {v : Int32} {k : Nat} (hv : NF v k) (hk : k < 64) : Ct g yX12_size cX12_size 3 (some .int) 1 0 0 [.int v] T Mi Ml (Ri T Mi Ml (nI (pcN k))) := by
  refine Ct.of' (plainFor_of_name (by decide +kernel)) (by exact Nat.le_of_ble_eq_true rfl) ?_
  intro x hg hR h hr hnm hnl
  subst hg
  obtain rfl : v = nI k := hv
  refine jv_iconst (nI 0) h dX12_size_0 (by decide) ?_
  refine jv_istore_n h dX12_size_1 (lt_nl hnl (by decide)) ?_
  refine jv_iload_n h dX12_size_2 rfl ?_
  refine jv_istore_n h dX12_size_3 (lt_nl hnl (by decide)) ?_
  have hl4 : ∀ (n : Nat) (i l : Nat), l < n → l < 64 → i + pcN l = pcN k → V x 0 0 T Mi Ml 4 [some (.int (nI k)), some (.int (nI i)), some (.int (nI l))] [] := by
    intro n
    induction n with
    | zero => intro i l hN9 hl hz; exact absurd hN9 (by omega)
    | succ n ih =>
      intro i l hN9 hl hz
      refine jv_iload_n h dX12_size_4 rfl ?_
      refine jv_zeq 20 h dX12_size_5 (by decide) (by repeat (with_reducible first | exact NF_nI _ | assumption | refine NF_add ?_ ?_ | refine NF_mul ?_ ?_)) (by omega) (fun c5 => ?_) (fun c5 => ?_)
      · refine jv_iload_n h dX12_size_20 rfl ?_
        exact jv_iret h hr dX12_size_21 ⟨by subst c5; rw [show i = pcN k by rw [← hz]; rfl], rfl, rfl, rfl⟩
      · obtain ⟨e1, e2, e3⟩ := clE hl (by omega)
        refine jv_iinc (nI (i + 1)) h dX12_size_8 rfl (lt_nl hnl (by decide)) (nI_inc i) ?_
        refine jv_iload_n h dX12_size_11 rfl ?_
        refine jv_iload_n h dX12_size_12 rfl ?_
        refine jv_iconst (nI 1) h dX12_size_13 (by decide) ?_
        first | refine jv_isubN h dX12_size_14 (by repeat (with_reducible first | exact NF_nI _ | assumption | refine NF_add ?_ ?_ | refine NF_mul ?_ ?_)) (by repeat (with_reducible first | exact NF_nI _ | assumption | refine NF_add ?_ ?_ | refine NF_mul ?_ ?_)) (by omega) ?_ | refine jv_isub h dX12_size_14 ?_
        refine jv_iand h dX12_size_15 ?_
        rw [e1]
        refine jv_istore_n h dX12_size_16 (lt_nl hnl (by decide)) ?_
        refine jv_goto 4 h dX12_size_17 (by decide) ?_
        exact ih (i + 1) _ (by omega) (by omega) (by omega)
  exact hl4 (k + 1) 0 k (by omega) hk (by omega)
set_option maxHeartbeats 4000000 in
set_option maxRecDepth 100000 in
theorem cm_drift {g : GT} {T : TT} {Mi : MI} {Ml : ML} {Y : Nat} {z : SU} (hM : ModS g T Y) (hN : NowR Mi (Y + 1) z.1) (hD : UndR Mi Y z.2.1 z.2.2) (hZ : WFU z) (k : Int32) : Ct g yX12_drift cX12_drift 4 (some .int) 5 0 0 [.ref Y, .int k] T Mi Ml (Gi T (fun rv Mi' Ml' => rv = (sp_drift z k).1 ∧ Ml' = Ml ∧ MFr Mi Mi' Y ∧ NowR Mi' (Y + 1) (sp_drift z k).2.1 ∧ UndR Mi' Y (sp_drift z k).2.2.1 (sp_drift z k).2.2.2)) := by
  refine Ct.of' (plainFor_of_name (by decide +kernel)) (by exact Nat.le_of_ble_eq_true rfl) ?_
  intro x hg hR h hr hnm hnl
  subst hg
  obtain ⟨hY, ⟨r0, a0⟩, ⟨r1, a1⟩, ⟨r5, a5⟩, ⟨r6, a6⟩, ⟨r7, a7⟩, ⟨r9, a9⟩, ⟨r12, a12⟩, ⟨r13, a13⟩, ⟨r14, a14⟩, ⟨r15, a15⟩, r16, a16⟩ := id hM
  have hW := hZ.1
  obtain ⟨d1, d2, d3⟩ := id hD
  obtain ⟨w0, w1, w2, w3, w4, w5, w6, w7⟩ := id hW
  refine jv_iload_n h dX12_drift_0 rfl ?_
  refine jv_i2l h dX12_drift_1 ?_
  refine jv_lconst (lN 1) h dX12_drift_2 (by decide) ?_
  refine jv_ldc2 h dX12_drift_3 gw_1026 ?_
  refine jv_SRi [_, _, _] h dX12_drift_6 cw_X12_44 (c_mwithin (m := 1) (n := 61) _ (by decide) (by decide)) (by decide) rfl rfl (Nat.le_of_ble_eq_true rfl) ⟨Nat.zero_le _, Nat.zero_le _⟩ ?_
  refine jv_bne 14 h dX12_drift_9 (by decide) (fun c9 => ?_) (fun c9 => ?_)
  · obtain ⟨k9, rfl, -, hk9⟩ := isB_t c9
    have hsp : sp_drift z (nI k9) = (if 9999 < z.1 1 + k9 then (-3, z) else (nI (drC z k9), drT z k9)) := by unfold sp_drift; rw [if_pos c9, pn_nI (by omega)]
    refine jv_aload_n h dX12_drift_14 rfl ?_
    refine jv_gr 0 h dX12_drift_15 cf_11 (by decide) gw_900 (by assumption) (by assumption) ?_
    refine jv_iconst (nI 1) h dX12_drift_18 (by decide) ?_
    refine jv_iav h dX12_drift_19 (by assumption) (by repeat (with_reducible first | exact NF_nI _ | first | assumption | exact NF_l2 | refine NF_add ?_ ?_ | refine NF_mul ?_ ?_)) ⟨by omega, by decide⟩ (by first | assumption | exact hN.n0 | exact hN.n1 | exact hN.n2 | exact hN.n3 | exact hN.n4 | exact hN.n5 | exact hN.dy (by omega) | exact hN.p3 (by omega) | exact hN.p0 (by omega) | exact hN.p1 (by omega) | exact hN.p2 (by omega) | exact hN.p4 (by omega) | exact hN.p5 (by omega)) ?_
    refine jv_iload_n h dX12_drift_20 rfl ?_
    first | refine jv_iaddN h dX12_drift_21 (by repeat (with_reducible first | exact NF_nI _ | first | assumption | exact NF_l2 | refine NF_add ?_ ?_ | refine NF_mul ?_ ?_)) (by repeat (with_reducible first | exact NF_nI _ | first | assumption | exact NF_l2 | refine NF_add ?_ ?_ | refine NF_mul ?_ ?_)) ?_ | refine jv_iadd h dX12_drift_21 ?_
    refine jv_sipush (nI 9999) h dX12_drift_22 (by decide) ?_
    refine jv_nle 31 h dX12_drift_25 (by decide) (by repeat (with_reducible first | exact NF_nI _ | first | assumption | exact NF_l2 | refine NF_add ?_ ?_ | refine NF_mul ?_ ?_)) (by repeat (with_reducible first | exact NF_nI _ | first | assumption | exact NF_l2 | refine NF_add ?_ ?_ | refine NF_mul ?_ ?_)) ⟨by omega, by omega⟩ (fun c25 => ?_) (fun c25 => ?_)
    · refine jv_iconst (nI 0) h dX12_drift_31 (by decide) ?_
      refine jv_istore_n h dX12_drift_32 (lt_nl hnl (by decide)) ?_
      refine jv_iconst (nI 0) h dX12_drift_33 (by decide) ?_
      refine jv_istore_n h dX12_drift_34 (lt_nl hnl (by decide)) ?_
      have hl35 : ∀ (n : Nat) (i : Nat) (M1 : MI), k9 - i < n → i ≤ k9 → MFr Mi M1 Y → NowR M1 (Y + 1) (drT z i).1 → UndR M1 Y (drT z i).2.1 (drT z i).2.2 → V x 0 0 T M1 Ml 35 [some (.ref Y), some (.int (nI k9)), some (.int (nI (drC z i))), some (.int (nI i))] [] := by
        intro n
        induction n with
        | zero => intro i M1 hN9 hi f1 f2 f3; exact absurd hN9 (by omega)
        | succ n ih =>
          intro i M1 hN9 hi f1 f2 f3
          refine jv_iload_n h dX12_drift_35 rfl ?_
          refine jv_iload_n h dX12_drift_36 rfl ?_
          refine jv_nge 108 h dX12_drift_37 (by decide) (by repeat (with_reducible first | exact NF_nI _ | first | assumption | exact NF_l2 | refine NF_add ?_ ?_ | refine NF_mul ?_ ?_)) (by repeat (with_reducible first | exact NF_nI _ | first | assumption | exact NF_l2 | refine NF_add ?_ ?_ | refine NF_mul ?_ ?_)) ⟨by omega, by omega⟩ (fun c37 => ?_) (fun c37 => ?_)
          · have hie : i = k9 := by omega
            subst hie
            refine jv_iload_n h dX12_drift_108 rfl ?_
            exact jv_iret h hr dX12_drift_109 ⟨_, rfl, rfl, by
    rw [hsp, if_neg (by omega)]
    exact ⟨rfl, rfl, f1, f2, f3⟩⟩
          · obtain ⟨hz1, hz2⟩ := drT_WF hZ i (by omega)
            have hdl := hz1.1.2.2.2.2.2.1
            have hrd := rdN_lt hz1.1
            have hpc := pcN_le (rdN (drT z i).1)
            have hdr := drN_lt ((drT z i).1 5)
            refine jv_aload_n h dX12_drift_40 rfl ?_
            refine jv_VGv [] h dX12_drift_41 cw_X12_148 cf_11 (by assumption) (cm_notes hM f2 hz1.1 f3) (by decide) rfl rfl (Nat.le_of_ble_eq_true rfl) ⟨Nat.zero_le _, Nat.zero_le _⟩ (fun Mi41 Ml41 hp41 => ?_)
            have hm9 := hp41.1
            subst hm9
            obtain ⟨-, g1, g2, g3⟩ := hp41
            have n8 : NowR Mi41 (Y + 1) (drT z i).1 := f2.fr (g1 _ (by omega) (by omega))
            refine jv_aload_n h dX12_drift_44 rfl ?_
            refine jv_gr 0 h dX12_drift_45 cf_11 (by decide) gw_900 (by assumption) (by assumption) ?_
            refine jv_iconst (nI 5) h dX12_drift_48 (by decide) ?_
            refine jv_aload_n h dX12_drift_49 rfl ?_
            refine jv_gr 0 h dX12_drift_50 cf_11 (by decide) gw_900 (by assumption) (by assumption) ?_
            refine jv_iconst (nI 5) h dX12_drift_53 (by decide) ?_
            refine jv_iav h dX12_drift_54 (by assumption) (by repeat (with_reducible first | exact NF_nI _ | first | assumption | exact NF_l2 | refine NF_add ?_ ?_ | refine NF_mul ?_ ?_)) ⟨by omega, by decide⟩ (by exact n8.n5) ?_
            refine jv_i2l h dX12_drift_55 ?_
            refine jv_ldc2 h dX12_drift_56 gw_1107 ?_
            refine jv_lmul h dX12_drift_59 ?_
            refine jv_ldc2 h dX12_drift_60 gw_1108 ?_
            refine jv_ladd h dX12_drift_63 ?_
            refine jv_ldc2 h dX12_drift_64 gw_1109 ?_
            refine jv_land h dX12_drift_67 ?_
            refine jv_l2i h dX12_drift_68 ?_
            rw [l_dr (by omega)]
            refine jv_iast h dX12_drift_69 (by assumption) (by repeat (with_reducible first | exact NF_nI _ | first | assumption | exact NF_l2 | refine NF_add ?_ ?_ | refine NF_mul ?_ ?_)) ⟨by omega, by decide⟩ ?_
            have n9 : NowR (upd2 Mi41 (Y + 1) 5 (nI (drN ((drT z i).1 5)))) (Y + 1) (dwS (drT z i).1) := (n8.set (j := 5) (w := drN ((drT z i).1 5)) (by rw [eN_lo (by decide)])).cg (fun k _ => by unfold dwS setS; rfl)
            have hd9 : upd2 Mi41 (Y + 1) 5 (nI (drN ((drT z i).1 5))) (Y + 1) 5 = nI (drN ((drT z i).1 5)) := upd2_same _ _ _ _
            refine jv_aload_n h dX12_drift_70 rfl ?_
            refine jv_gr 0 h dX12_drift_71 cf_11 (by decide) gw_900 (by assumption) (by assumption) ?_
            refine jv_iconst (nI 5) h dX12_drift_74 (by decide) ?_
            refine jv_iav h dX12_drift_75 (by assumption) (by repeat (with_reducible first | exact NF_nI _ | first | assumption | exact NF_l2 | refine NF_add ?_ ?_ | refine NF_mul ?_ ?_)) ⟨by omega, by decide⟩ (by exact hd9) ?_
            refine jv_ldc h dX12_drift_76 gw_1110 ?_
            refine jv_idivN h dX12_drift_78 (by repeat (with_reducible first | exact NF_nI _ | first | assumption | exact NF_l2 | refine NF_add ?_ ?_ | refine NF_mul ?_ ?_)) (by repeat (with_reducible first | exact NF_nI _ | first | assumption | exact NF_l2 | refine NF_add ?_ ?_ | refine NF_mul ?_ ?_)) (by omega) ⟨by omega, by omega⟩ ?_
            refine jv_bipush (nI 12) h dX12_drift_79 (by decide) ?_
            refine jv_iremN h dX12_drift_81 (by repeat (with_reducible first | exact NF_nI _ | first | assumption | exact NF_l2 | refine NF_add ?_ ?_ | refine NF_mul ?_ ?_)) (by repeat (with_reducible first | exact NF_nI _ | first | assumption | exact NF_l2 | refine NF_add ?_ ?_ | refine NF_mul ?_ ?_)) (by omega) ⟨by omega, by omega⟩ ?_
            refine jv_aload_n h dX12_drift_82 rfl ?_
            refine jv_VRi [] h dX12_drift_83 cw_X12_107 cf_11 (by assumption) (cm_riders hM n9 (dwS_WF hz1.1)) (by decide) rfl rfl (Nat.le_of_ble_eq_true rfl) ⟨Nat.zero_le _, Nat.zero_le _⟩ ?_
            rw [rd_dw]
            refine jv_SRi [_] h dX12_drift_86 cw_X12_168 (cm_size (NF_nI _) hrd) (by decide) rfl rfl (Nat.le_of_ble_eq_true rfl) ⟨Nat.zero_le _, Nat.zero_le _⟩ ?_
            refine jv_nge 98 h dX12_drift_89 (by decide) (by repeat (with_reducible first | exact NF_nI _ | first | assumption | exact NF_l2 | refine NF_add ?_ ?_ | refine NF_mul ?_ ?_)) (by repeat (with_reducible first | exact NF_nI _ | first | assumption | exact NF_l2 | refine NF_add ?_ ?_ | refine NF_mul ?_ ?_)) ⟨by omega, by omega⟩ (fun c89 => ?_) (fun c89 => ?_)
            · refine jv_aload_n h dX12_drift_98 rfl ?_
              refine jv_VGv [] h dX12_drift_99 cw_X12_158 cf_11 (by assumption) (cm_goesOn hM n9 (dwS_WF hz1.1) (by rw [dwS_o (by decide)]; omega)) (by decide) rfl rfl (Nat.le_of_ble_eq_true rfl) ⟨Nat.zero_le _, Nat.zero_le _⟩ (fun Mi99 Ml99 hp99 => ?_)
              refine jv_iinc (nI (i + 1)) h dX12_drift_102 rfl (lt_nl hnl (by decide)) (nI_inc i) ?_
              refine jv_goto 35 h dX12_drift_105 (by decide) ?_
              have e : drC z (i + 1) = drC z i + (if stB (drT z i).1 = true then 1 else 0) := rfl
              have eT : drT z (i + 1) = puT (drT z i) (dS (drT z i).1) := rfl
              first
              | (have hs : stB (drT z i).1 = true := by unfold stB; simp; omega
                 rw [if_pos hs] at e
                 have key := ih (i + 1) (upd2 Mi41 (Y + 1) 5 (nI (drN ((drT z i).1 5)))) (by omega) (by omega) (f1.tr ⟨fun a h1 h2 h3 => by rw [upd2_row _ _ h2, g1 a h1 h3], fun q hq => by rw [upd2_row _ _ (by omega), g2 q hq]⟩) (by rw [eT]; show NowR _ _ (dS _); unfold dS; rw [if_pos hs]; exact n9) (g3.fr (upd2_row _ _ (by omega)) (upd2_row _ _ (by omega)))
                 rw [e] at key
                 exact key)
              | (have hs : stB (drT z i).1 = false := by unfold stB; simp; omega
                 rw [if_neg (by rw [hs]; decide), Nat.add_zero] at e
                 have hm9 := hp99.1
                 subst hm9
                 obtain ⟨-, k1, k2⟩ := hp99
                 have key := ih (i + 1) Mi99 (by omega) (by omega) (f1.tr ⟨fun a h1 h2 h3 => by rw [k1 a h2, upd2_row _ _ h2, g1 a h1 h3], fun q hq => by rw [k1 Y (by omega), upd2_row _ _ (by omega), g2 q hq]⟩) (by rw [eT]; show NowR _ _ (dS _); unfold dS; rw [if_neg (by rw [hs]; decide)]; exact k2) (g3.fr (by rw [k1 Y (by omega), upd2_row _ _ (by omega)]) (by rw [k1 _ (by omega), upd2_row _ _ (by omega)]))
                 rw [e] at key
                 exact key)
            · refine jv_iinc (nI (drC z i + 1)) h dX12_drift_92 rfl (lt_nl hnl (by decide)) (nI_inc _) ?_
              refine jv_goto 102 h dX12_drift_95 (by decide) ?_
              refine jv_iinc (nI (i + 1)) h dX12_drift_102 rfl (lt_nl hnl (by decide)) (nI_inc i) ?_
              refine jv_goto 35 h dX12_drift_105 (by decide) ?_
              have e : drC z (i + 1) = drC z i + (if stB (drT z i).1 = true then 1 else 0) := rfl
              have eT : drT z (i + 1) = puT (drT z i) (dS (drT z i).1) := rfl
              first
              | (have hs : stB (drT z i).1 = true := by unfold stB; simp; omega
                 rw [if_pos hs] at e
                 have key := ih (i + 1) (upd2 Mi41 (Y + 1) 5 (nI (drN ((drT z i).1 5)))) (by omega) (by omega) (f1.tr ⟨fun a h1 h2 h3 => by rw [upd2_row _ _ h2, g1 a h1 h3], fun q hq => by rw [upd2_row _ _ (by omega), g2 q hq]⟩) (by rw [eT]; show NowR _ _ (dS _); unfold dS; rw [if_pos hs]; exact n9) (g3.fr (upd2_row _ _ (by omega)) (upd2_row _ _ (by omega)))
                 rw [e] at key
                 exact key)
              | (have hs : stB (drT z i).1 = false := by unfold stB; simp; omega
                 rw [if_neg (by rw [hs]; decide), Nat.add_zero] at e
                 have hm9 := hp99.1
                 subst hm9
                 obtain ⟨-, k1, k2⟩ := hp99
                 have key := ih (i + 1) Mi99 (by omega) (by omega) (f1.tr ⟨fun a h1 h2 h3 => by rw [k1 a h2, upd2_row _ _ h2, g1 a h1 h3], fun q hq => by rw [k1 Y (by omega), upd2_row _ _ (by omega), g2 q hq]⟩) (by rw [eT]; show NowR _ _ (dS _); unfold dS; rw [if_neg (by rw [hs]; decide)]; exact k2) (g3.fr (by rw [k1 Y (by omega), upd2_row _ _ (by omega)]) (by rw [k1 _ (by omega), upd2_row _ _ (by omega)]))
                 rw [e] at key
                 exact key)
      exact hl35 (k9 + 1) 0 _ (by omega) (by omega) (MFr.rf _ _) hN hD
    · refine jv_bipush (-3) h dX12_drift_28 (by decide) ?_
      exact jv_iret h hr dX12_drift_30 ⟨_, rfl, rfl, by
    have e : sp_drift z (nI k9) = (-3, z) := (by rw [hsp, if_pos (by omega)])
    rw [e]
    exact ⟨rfl, rfl, MFr.rf _ _, hN, hD⟩⟩
  · refine jv_iconst (-1) h dX12_drift_12 (by decide) ?_
    exact jv_iret h hr dX12_drift_13 ⟨_, rfl, rfl, by
    have e : sp_drift z k = (-1, z) := (by unfold sp_drift; rw [if_neg (by simp [c9])])
    rw [e]
    exact ⟨rfl, rfl, MFr.rf _ _, hN, hD⟩⟩
