set_option maxHeartbeats 4000000 in
set_option maxRecDepth 100000 in
theorem cm_takes {g : GT} {T : TT} {Mi : MI} {Ml : ML} {Y ln p : Nat} {t : Nat → Nat} {fb : Bool} (hM : ModS g T Y) (hT : MTR Mi Y t ln) (hA : TA t ln) (hc : MCu Mi Y p fb) (hp : p ≤ ln) {v : Int32} {c : Nat} (hv : NF v c) (hc0 : c ≠ 0 ∧ c < 1000) : Ct g yX12_takes cX12_takes 2 none 2 0 0 [.ref Y, .int v] T Mi Ml (Gv T (fun Mi' Ml' => Ml' = Ml ∧ FrC Mi Mi' Y ∧ MCu Mi' Y (if (fb || !tkB t ln c p) = true then sk t ln p else sk t ln p + 1) (fb || !tkB t ln c p))) := by
  refine Ct.of' (plainFor_of_name (by decide +kernel)) (by exact Nat.le_of_ble_eq_true rfl) ?_
  intro x hg hR h hr hnm hnl
  subst hg
  obtain ⟨hY, ⟨r0, a0⟩, ⟨r1, a1⟩, ⟨r5, a5⟩, ⟨r6, a6⟩, ⟨r7, a7⟩, ⟨r9, a9⟩, ⟨r12, a12⟩, ⟨r13, a13⟩, ⟨r14, a14⟩, ⟨r15, a15⟩, r16, a16⟩ := id hM
  obtain ⟨t1, t2⟩ := id hT
  obtain ⟨u1, u2⟩ := id hc
  obtain ⟨n1, n2⟩ := id hA
  obtain rfl : v = nI c := hv
  have hlt := he_lt (p := p) hA
  refine jv_aload_n h dX12_takes_0 rfl ?_
  refine jv_aload_n h dX12_takes_1 rfl ?_
  refine jv_VGi [] h dX12_takes_2 cw_X12_124 cf_11 (by assumption) (cm_here hM hT hA hc hp) (by decide) rfl rfl (Nat.le_of_ble_eq_true rfl) ⟨Nat.zero_le _, Nat.zero_le _⟩ (fun v_2 Mi2 Ml2 hp2 => ?_)
  have hm9 := hp2.2.1
  subst Ml2
  obtain ⟨v9, -, e2, e3, e4⟩ := hp2
  subst v_2
  refine jv_iload_n h dX12_takes_5 rfl ?_
  refine jv_nne 13 h dX12_takes_6 (by decide) (by repeat (with_reducible first | exact NF_nI _ | assumption | refine NF_add ?_ ?_ | refine NF_mul ?_ ?_)) (by repeat (with_reducible first | exact NF_nI _ | assumption | refine NF_add ?_ ?_ | refine NF_mul ?_ ?_)) ⟨by omega, by omega⟩ (fun c6 => ?_) (fun c6 => ?_)
  · refine jv_iconst (nI 0) h dX12_takes_13 (by decide) ?_
    first | rw [show nI 1 = bI (tkB t ln c p) from by rw [he_tk hc0.1, decide_eq_true c6]; rfl] | rw [show nI 0 = bI (tkB t ln c p) from by rw [he_tk hc0.1, decide_eq_false c6]; rfl]
    refine jv_VGv [_] h dX12_takes_14 cw_X12_127 cf_11 (by assumption) (cm_must (fb := fb) (b := tkB t ln c p) hM e4) (by decide) rfl rfl (Nat.le_of_ble_eq_true rfl) ⟨Nat.zero_le _, Nat.zero_le _⟩ (fun Mi14 Ml14 hp14 => ?_)
    have hm9 := hp14.1
    subst Ml14
    obtain ⟨-, rfl⟩ := hp14
    have g3 : upd2 Mi2 Y 4 (bI (fb || !tkB t ln c p)) Y 3 = nI (sk t ln p) := (upd2_ne _ _ (by omega)).trans e3
    refine jv_aload_n h dX12_takes_17 rfl ?_
    refine jv_dup h dX12_takes_18 rfl ?_
    refine jv_gv 3 h dX12_takes_19 cf_11 (by decide) gw_903 (by assumption) (by assumption) ?_
    refine jv_aload_n h dX12_takes_22 rfl ?_
    refine jv_gv 4 h dX12_takes_23 cf_11 (by decide) gw_904 (by assumption) (by exact upd2_same _ _ _ _) ?_
    refine jv_beq 33 h dX12_takes_26 (by decide) (fun c26 => ?_) (fun c26 => ?_)
    · refine jv_iconst (nI 1) h dX12_takes_33 (by decide) ?_
      first | refine jv_iaddN h dX12_takes_34 (by repeat (with_reducible first | exact NF_nI _ | assumption | refine NF_add ?_ ?_ | refine NF_mul ?_ ?_)) (by repeat (with_reducible first | exact NF_nI _ | assumption | refine NF_add ?_ ?_ | refine NF_mul ?_ ?_)) ?_ | refine jv_iadd h dX12_takes_34 ?_
      refine jv_pi 3 h dX12_takes_35 cf_11 (by decide) gw_903 (by assumption) rfl rfl rfl ?_
      exact jv_vret h hr dX12_takes_38 ⟨rfl, rfl, rfl, e2.p4.p3, by rw [upd2_same]; first | (rw [if_pos c26, Nat.add_zero]; done) | (rw [if_neg (by rw [c26]; decide)]), by rw [upd2_ne _ _ (by omega), upd2_same]⟩
    · refine jv_iconst (nI 0) h dX12_takes_29 (by decide) ?_
      refine jv_goto 34 h dX12_takes_30 (by decide) ?_
      first | refine jv_iaddN h dX12_takes_34 (by repeat (with_reducible first | exact NF_nI _ | assumption | refine NF_add ?_ ?_ | refine NF_mul ?_ ?_)) (by repeat (with_reducible first | exact NF_nI _ | assumption | refine NF_add ?_ ?_ | refine NF_mul ?_ ?_)) ?_ | refine jv_iadd h dX12_takes_34 ?_
      refine jv_pi 3 h dX12_takes_35 cf_11 (by decide) gw_903 (by assumption) rfl rfl rfl ?_
      exact jv_vret h hr dX12_takes_38 ⟨rfl, rfl, rfl, e2.p4.p3, by rw [upd2_same]; first | (rw [if_pos c26, Nat.add_zero]; done) | (rw [if_neg (by rw [c26]; decide)]), by rw [upd2_ne _ _ (by omega), upd2_same]⟩
  · refine jv_iconst (nI 1) h dX12_takes_9 (by decide) ?_
    refine jv_goto 14 h dX12_takes_10 (by decide) ?_
    first | rw [show nI 1 = bI (tkB t ln c p) from by rw [he_tk hc0.1, decide_eq_true c6]; rfl] | rw [show nI 0 = bI (tkB t ln c p) from by rw [he_tk hc0.1, decide_eq_false c6]; rfl]
    refine jv_VGv [_] h dX12_takes_14 cw_X12_127 cf_11 (by assumption) (cm_must (fb := fb) (b := tkB t ln c p) hM e4) (by decide) rfl rfl (Nat.le_of_ble_eq_true rfl) ⟨Nat.zero_le _, Nat.zero_le _⟩ (fun Mi14 Ml14 hp14 => ?_)
    have hm9 := hp14.1
    subst Ml14
    obtain ⟨-, rfl⟩ := hp14
    have g3 : upd2 Mi2 Y 4 (bI (fb || !tkB t ln c p)) Y 3 = nI (sk t ln p) := (upd2_ne _ _ (by omega)).trans e3
    refine jv_aload_n h dX12_takes_17 rfl ?_
    refine jv_dup h dX12_takes_18 rfl ?_
    refine jv_gv 3 h dX12_takes_19 cf_11 (by decide) gw_903 (by assumption) (by assumption) ?_
    refine jv_aload_n h dX12_takes_22 rfl ?_
    refine jv_gv 4 h dX12_takes_23 cf_11 (by decide) gw_904 (by assumption) (by exact upd2_same _ _ _ _) ?_
    refine jv_beq 33 h dX12_takes_26 (by decide) (fun c26 => ?_) (fun c26 => ?_)
    · refine jv_iconst (nI 1) h dX12_takes_33 (by decide) ?_
      first | refine jv_iaddN h dX12_takes_34 (by repeat (with_reducible first | exact NF_nI _ | assumption | refine NF_add ?_ ?_ | refine NF_mul ?_ ?_)) (by repeat (with_reducible first | exact NF_nI _ | assumption | refine NF_add ?_ ?_ | refine NF_mul ?_ ?_)) ?_ | refine jv_iadd h dX12_takes_34 ?_
      refine jv_pi 3 h dX12_takes_35 cf_11 (by decide) gw_903 (by assumption) rfl rfl rfl ?_
      exact jv_vret h hr dX12_takes_38 ⟨rfl, rfl, rfl, e2.p4.p3, by rw [upd2_same]; first | (rw [if_pos c26, Nat.add_zero]; done) | (rw [if_neg (by rw [c26]; decide)]), by rw [upd2_ne _ _ (by omega), upd2_same]⟩
    · refine jv_iconst (nI 0) h dX12_takes_29 (by decide) ?_
      refine jv_goto 34 h dX12_takes_30 (by decide) ?_
      first | refine jv_iaddN h dX12_takes_34 (by repeat (with_reducible first | exact NF_nI _ | assumption | refine NF_add ?_ ?_ | refine NF_mul ?_ ?_)) (by repeat (with_reducible first | exact NF_nI _ | assumption | refine NF_add ?_ ?_ | refine NF_mul ?_ ?_)) ?_ | refine jv_iadd h dX12_takes_34 ?_
      refine jv_pi 3 h dX12_takes_35 cf_11 (by decide) gw_903 (by assumption) rfl rfl rfl ?_
      exact jv_vret h hr dX12_takes_38 ⟨rfl, rfl, rfl, e2.p4.p3, by rw [upd2_same]; first | (rw [if_pos c26, Nat.add_zero]; done) | (rw [if_neg (by rw [c26]; decide)]), by rw [upd2_ne _ _ (by omega), upd2_same]⟩
set_option maxHeartbeats 4000000 in
set_option maxRecDepth 100000 in
theorem cm_digitF {g : GT} {T : TT} {Mi : MI} {Ml : ML} {Y ln p : Nat} {t : Nat → Nat} (hM : ModS g T Y) (hT : MTR Mi Y t ln) (hA : TA t ln) (hc : MCu Mi Y p true) (hp : p ≤ ln) {v w : Int32} {lo hi : Nat} (hv : v.toInt = (lo : Int)) (hw : w.toInt + 1 = (hi : Int)) : Ct g yX12_digit cX12_digit 4 (some .int) 2 0 0 [.ref Y, .int v, .int w] T Mi Ml (Gi T (fun rv Mi' Ml' => rv = -1 ∧ Ml' = Ml ∧ FrC Mi Mi' Y ∧ MCu Mi' Y p true)) := by
  refine Ct.of' (plainFor_of_name (by decide +kernel)) (by exact Nat.le_of_ble_eq_true rfl) ?_
  intro x hg hR h hr hnm hnl
  subst hg
  obtain ⟨hY, ⟨r0, a0⟩, ⟨r1, a1⟩, ⟨r5, a5⟩, ⟨r6, a6⟩, ⟨r7, a7⟩, ⟨r9, a9⟩, ⟨r12, a12⟩, ⟨r13, a13⟩, ⟨r14, a14⟩, ⟨r15, a15⟩, r16, a16⟩ := id hM
  obtain ⟨t1, t2⟩ := id hT
  obtain ⟨u1, u2⟩ := id hc
  obtain ⟨n1, n2⟩ := id hA
  refine jv_aload_n h dX12_digit_0 rfl ?_
  refine jv_gv 4 h dX12_digit_1 cf_11 (by decide) gw_904 (by assumption) (by assumption) ?_
  refine jv_beq 11 h dX12_digit_4 (by decide) (fun c4 => ?_) (fun c4 => ?_)
  · cases c4
  · refine jv_iconst (-1) h dX12_digit_7 (by decide) ?_
    refine jv_goto 18 h dX12_digit_8 (by decide) ?_
    refine jv_istore_n h dX12_digit_18 (lt_nl hnl (by decide)) ?_
    refine jv_aload_n h dX12_digit_19 rfl ?_
    refine jv_iload_n h dX12_digit_20 rfl ?_
    refine jv_i2l h dX12_digit_21 ?_
    refine jv_iload_n h dX12_digit_22 rfl ?_
    refine jv_i2l h dX12_digit_23 ?_
    refine jv_iload_n h dX12_digit_24 rfl ?_
    refine jv_i2l h dX12_digit_25 ?_
    refine jv_SRi [_, _, _] h dX12_digit_26 cw_X12_44 (c_mwithin _ (by rw [l_i]; exact hv) (by rw [l_i]; exact hw)) (by decide) rfl rfl (Nat.le_of_ble_eq_true rfl) ⟨Nat.zero_le _, Nat.zero_le _⟩ ?_
    refine jv_VGv [_] h dX12_digit_29 cw_X12_127 cf_11 (by assumption) (cm_must (fb := true) hM u2) (by decide) rfl rfl (Nat.le_of_ble_eq_true rfl) ⟨Nat.zero_le _, Nat.zero_le _⟩ (fun Mi29 Ml29 hp29 => ?_)
    have hm9 := hp29.1
    subst Ml29
    obtain ⟨-, rfl⟩ := hp29
    have g3 : upd2 Mi Y 4 (bI (true || !isB (-1) lo hi)) Y 3 = nI p := (upd2_ne _ _ (by omega)).trans u1
    have g4 : upd2 Mi Y 4 (bI (true || !isB (-1) lo hi)) Y 4 = bI true := upd2_same _ _ _ _
    refine jv_aload_n h dX12_digit_32 rfl ?_
    refine jv_dup h dX12_digit_33 rfl ?_
    refine jv_gv 3 h dX12_digit_34 cf_11 (by decide) gw_903 (by assumption) (by assumption) ?_
    refine jv_aload_n h dX12_digit_37 rfl ?_
    refine jv_gv 4 h dX12_digit_38 cf_11 (by decide) gw_904 (by assumption) (by assumption) ?_
    refine jv_beq 48 h dX12_digit_41 (by decide) (fun c41 => ?_) (fun c41 => ?_)
    · cases c41
    · refine jv_iconst (nI 0) h dX12_digit_44 (by decide) ?_
      refine jv_goto 49 h dX12_digit_45 (by decide) ?_
      first | refine jv_iaddN h dX12_digit_49 (by repeat (with_reducible first | exact NF_nI _ | assumption | refine NF_add ?_ ?_ | refine NF_mul ?_ ?_)) (by repeat (with_reducible first | exact NF_nI _ | assumption | refine NF_add ?_ ?_ | refine NF_mul ?_ ?_)) ?_ | refine jv_iadd h dX12_digit_49 ?_
      refine jv_pi 3 h dX12_digit_50 cf_11 (by decide) gw_903 (by assumption) rfl rfl rfl ?_
      refine jv_iload_n h dX12_digit_53 rfl ?_
      exact jv_iret h hr dX12_digit_54 ⟨_, rfl, rfl, rfl, rfl, (FrC.rf _ _).p4.p3, by rw [upd2_same, Nat.add_zero], by rw [upd2_ne _ _ (by omega), upd2_same]; rfl⟩
set_option maxHeartbeats 4000000 in
set_option maxRecDepth 100000 in
theorem cm_digit {g : GT} {T : TT} {Mi : MI} {Ml : ML} {Y ln p : Nat} {t : Nat → Nat} (hM : ModS g T Y) (hT : MTR Mi Y t ln) (hA : TA t ln) (hc : MCu Mi Y p false) (hp : p ≤ ln) {v w : Int32} {lo hi : Nat} (hv : v.toInt = (lo : Int)) (hw : w.toInt + 1 = (hi : Int)) : Ct g yX12_digit cX12_digit 4 (some .int) 2 0 0 [.ref Y, .int v, .int w] T Mi Ml (Gi T (fun rv Mi' Ml' => (dgB t ln lo hi p = true → rv = nI (dgV t ln p)) ∧ Ml' = Ml ∧ FrC Mi Mi' Y ∧ MCu Mi' Y (poB t ln p (dgB t ln lo hi p)) (!dgB t ln lo hi p))) := by
  refine Ct.of' (plainFor_of_name (by decide +kernel)) (by exact Nat.le_of_ble_eq_true rfl) ?_
  intro x hg hR h hr hnm hnl
  subst hg
  obtain ⟨hY, ⟨r0, a0⟩, ⟨r1, a1⟩, ⟨r5, a5⟩, ⟨r6, a6⟩, ⟨r7, a7⟩, ⟨r9, a9⟩, ⟨r12, a12⟩, ⟨r13, a13⟩, ⟨r14, a14⟩, ⟨r15, a15⟩, r16, a16⟩ := id hM
  obtain ⟨t1, t2⟩ := id hT
  obtain ⟨u1, u2⟩ := id hc
  obtain ⟨n1, n2⟩ := id hA
  refine jv_aload_n h dX12_digit_0 rfl ?_
  refine jv_gv 4 h dX12_digit_1 cf_11 (by decide) gw_904 (by assumption) (by assumption) ?_
  refine jv_beq 11 h dX12_digit_4 (by decide) (fun c4 => ?_) (fun c4 => ?_)
  · refine jv_aload_n h dX12_digit_11 rfl ?_
    refine jv_VGi [] h dX12_digit_12 cw_X12_124 cf_11 (by assumption) (cm_here hM hT hA hc hp) (by decide) rfl rfl (Nat.le_of_ble_eq_true rfl) ⟨Nat.zero_le _, Nat.zero_le _⟩ (fun v_12 Mi12 Ml12 hp12 => ?_)
    have hm9 := hp12.2.1
    subst Ml12
    obtain ⟨v9, -, e2, e3, e4⟩ := hp12
    subst v_12
    refine jv_bipush (nI 48) h dX12_digit_15 (by decide) ?_
    refine jv_isub h dX12_digit_17 ?_
    refine jv_istore_n h dX12_digit_18 (lt_nl hnl (by decide)) ?_
    refine jv_aload_n h dX12_digit_19 rfl ?_
    refine jv_iload_n h dX12_digit_20 rfl ?_
    refine jv_i2l h dX12_digit_21 ?_
    refine jv_iload_n h dX12_digit_22 rfl ?_
    refine jv_i2l h dX12_digit_23 ?_
    refine jv_iload_n h dX12_digit_24 rfl ?_
    refine jv_i2l h dX12_digit_25 ?_
    refine jv_SRi [_, _, _] h dX12_digit_26 cw_X12_44 (c_mwithin _ (by rw [l_i]; exact hv) (by rw [l_i]; exact hw)) (by decide) rfl rfl (Nat.le_of_ble_eq_true rfl) ⟨Nat.zero_le _, Nat.zero_le _⟩ ?_
    rw [he_dg hA]
    refine jv_VGv [_] h dX12_digit_29 cw_X12_127 cf_11 (by assumption) (cm_must (fb := false) hM e4) (by decide) rfl rfl (Nat.le_of_ble_eq_true rfl) ⟨Nat.zero_le _, Nat.zero_le _⟩ (fun Mi29 Ml29 hp29 => ?_)
    have hm9 := hp29.1
    subst Ml29
    obtain ⟨-, rfl⟩ := hp29
    have g3 : upd2 Mi12 Y 4 (bI (false || !dgB t ln lo hi p)) Y 3 = nI (sk t ln p) := (upd2_ne _ _ (by omega)).trans e3
    have g4 : upd2 Mi12 Y 4 (bI (false || !dgB t ln lo hi p)) Y 4 = bI (!dgB t ln lo hi p) := upd2_same _ _ _ _
    refine jv_aload_n h dX12_digit_32 rfl ?_
    refine jv_dup h dX12_digit_33 rfl ?_
    refine jv_gv 3 h dX12_digit_34 cf_11 (by decide) gw_903 (by assumption) (by assumption) ?_
    refine jv_aload_n h dX12_digit_37 rfl ?_
    refine jv_gv 4 h dX12_digit_38 cf_11 (by decide) gw_904 (by assumption) (by assumption) ?_
    refine jv_beq 48 h dX12_digit_41 (by decide) (fun c41 => ?_) (fun c41 => ?_)
    · refine jv_iconst (nI 1) h dX12_digit_48 (by decide) ?_
      first | refine jv_iaddN h dX12_digit_49 (by repeat (with_reducible first | exact NF_nI _ | assumption | refine NF_add ?_ ?_ | refine NF_mul ?_ ?_)) (by repeat (with_reducible first | exact NF_nI _ | assumption | refine NF_add ?_ ?_ | refine NF_mul ?_ ?_)) ?_ | refine jv_iadd h dX12_digit_49 ?_
      refine jv_pi 3 h dX12_digit_50 cf_11 (by decide) gw_903 (by assumption) rfl rfl rfl ?_
      refine jv_iload_n h dX12_digit_53 rfl ?_
      exact jv_iret h hr dX12_digit_54 ⟨_, rfl, rfl, (fun z => by
    have := dg_t z
    unfold heN dgV
    rw [if_pos this.1]
    exact pk_sub this.2.2.2), rfl, e2.p4.p3, by
    rw [upd2_same]
    cases hb : dgB t ln lo hi p with
    | true => first | (rw [dg_p rfl]; done) | (rw [hb] at c41; cases c41)
    | false => first | (rw [dg_q rfl, Nat.add_zero]; done) | (rw [hb] at c41; cases c41), by rw [upd2_ne _ _ (by omega), upd2_same]; rfl⟩
    · refine jv_iconst (nI 0) h dX12_digit_44 (by decide) ?_
      refine jv_goto 49 h dX12_digit_45 (by decide) ?_
      first | refine jv_iaddN h dX12_digit_49 (by repeat (with_reducible first | exact NF_nI _ | assumption | refine NF_add ?_ ?_ | refine NF_mul ?_ ?_)) (by repeat (with_reducible first | exact NF_nI _ | assumption | refine NF_add ?_ ?_ | refine NF_mul ?_ ?_)) ?_ | refine jv_iadd h dX12_digit_49 ?_
      refine jv_pi 3 h dX12_digit_50 cf_11 (by decide) gw_903 (by assumption) rfl rfl rfl ?_
      refine jv_iload_n h dX12_digit_53 rfl ?_
      exact jv_iret h hr dX12_digit_54 ⟨_, rfl, rfl, (fun z => by
    have := dg_t z
    unfold heN dgV
    rw [if_pos this.1]
    exact pk_sub this.2.2.2), rfl, e2.p4.p3, by
    rw [upd2_same]
    cases hb : dgB t ln lo hi p with
    | true => first | (rw [dg_p rfl]; done) | (rw [hb] at c41; cases c41)
    | false => first | (rw [dg_q rfl, Nat.add_zero]; done) | (rw [hb] at c41; cases c41), by rw [upd2_ne _ _ (by omega), upd2_same]; rfl⟩
  · cases c4
