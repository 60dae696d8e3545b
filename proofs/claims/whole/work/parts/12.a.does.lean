theorem BlkR.set {Mi : MI} {B j v : Nat} {S : Nat → Nat} (h : BlkR Mi B S) (hj : 6 ≤ j) (h12 : j < 18) (h6 : S 2 ≤ 6) : BlkR (upd2 Mi (B + 1) (j - 6) (nI v)) B (setS S j v) := by
  obtain ⟨k0, k1, k2, k3⟩ := h
  refine ⟨by rw [upd2_row _ _ (by omega), setS_o (by omega)]; exact k0, by rw [upd2_row _ _ (by omega), setS_o (by omega)]; exact k1, by rw [upd2_row _ _ (by omega), setS_o (by omega)]; exact k2, fun k hk => ?_⟩
  rw [setS_o (by omega)] at hk
  by_cases hkj : k = j - 6
  · rw [hkj, upd2_same, show 6 + (j - 6) = j by omega, setS_s]
  · rw [upd2_ne _ _ (by omega), setS_o (by omega)]; exact k3 k hk
theorem ScnR.set {Mi : MI} {A j v : Nat} {S : Nat → Nat} (h : ScnR Mi A S) (hj : 2 ≤ j ∧ j < 18 ∧ j ≠ 5) : ScnR Mi A (setS S j v) := by
  obtain ⟨h1, h2, h3, h4⟩ := h
  refine ⟨by rw [setS_o (by omega)]; exact h1, by rw [setS_o (by omega)]; exact h2, by rw [setS_o (by omega)]; exact h3, fun p hp => ?_⟩
  rw [setS_o (by omega)] at hp
  unfold PerR
  rw [setS_o (by omega), setS_o (by omega), setS_o (by omega), setS_o (by omega), setS_o (by omega), setS_o (by omega)]
  exact h4 p hp
theorem BlkR.set' {Mi : MI} {B j v : Nat} {S : Nat → Nat} (h : BlkR Mi B S) (h6 : S 2 ≤ 6) (hj : j < 2 ∨ j = 5 ∨ 18 ≤ j) : BlkR Mi B (setS S j v) := by
  obtain ⟨k0, k1, k2, k3⟩ := h
  refine ⟨by rw [setS_o (by omega)]; exact k0, by rw [setS_o (by omega)]; exact k1, by rw [setS_o (by omega)]; exact k2, fun k hk => ?_⟩
  rw [setS_o (by omega)] at hk
  rw [setS_o (by omega)]
  exact k3 k hk
theorem BlkR.lim {Mi : MI} {B v : Nat} {S : Nat → Nat} (h : BlkR Mi B S) (h6 : S 2 ≤ 6) : BlkR (upd2 Mi B 1 (nI v)) B (setS S 3 v) ∧ BlkR (upd2 Mi B 2 (nI v)) B (setS S 4 v) := by
  obtain ⟨k0, k1, k2, k3⟩ := h
  refine ⟨⟨by rw [upd2_ne _ _ (by omega), setS_o (by omega)]; exact k0, by rw [upd2_same, setS_s], by rw [upd2_ne _ _ (by omega), setS_o (by omega)]; exact k2, fun k hk => ?_⟩, ⟨by rw [upd2_ne _ _ (by omega), setS_o (by omega)]; exact k0, by rw [upd2_ne _ _ (by omega), setS_o (by omega)]; exact k1, by rw [upd2_same, setS_s], fun k hk => ?_⟩⟩ <;> (rw [setS_o (by omega)] at hk; rw [upd2_row _ _ (by omega), setS_o (by omega)]; exact k3 k hk)
theorem ScnR.drw {Mi : MI} {A v : Nat} {S : Nat → Nat} (h : ScnR Mi A S) : ScnR (upd2 Mi A 3 (nI v)) A (setS S 5 v) := by
  obtain ⟨h1, h2, h3, h4⟩ := h
  refine ⟨by rw [upd2_ne _ _ (by omega), setS_o (by omega)]; exact h1, by rw [upd2_ne _ _ (by omega), setS_o (by omega)]; exact h2, by rw [upd2_same, setS_s], fun p hp => ?_⟩
  rw [setS_o (by omega)] at hp
  unfold PerR
  rw [upd2_row _ _ (by omega), setS_o (by omega), setS_o (by omega), setS_o (by omega), setS_o (by omega), setS_o (by omega), setS_o (by omega)]
  exact h4 p hp
theorem ScnR.car {Mi : MI} {A i c : Nat} {S : Nat → Nat} (h : ScnR Mi A S) : ScnR (upd2 Mi (A + 2 + i) 4 (nI c)) A (setS S (21 + 6 * i) (c + 1)) := by
  obtain ⟨h1, h2, h3, h4⟩ := h
  refine ⟨by rw [upd2_row _ _ (by omega), setS_o (by omega)]; exact h1, by rw [upd2_row _ _ (by omega), setS_o (by omega)]; exact h2, by rw [upd2_row _ _ (by omega), setS_o (by omega)]; exact h3, fun p hp => ?_⟩
  rw [setS_o (by omega)] at hp
  unfold PerR
  by_cases hpi : p = i
  · subst hpi
    obtain ⟨q0, q1, q2, q3, q4, q5⟩ := h4 p hp
    rw [upd2_ne _ _ (by omega), upd2_ne _ _ (by omega), upd2_ne _ _ (by omega), upd2_ne _ _ (by omega), upd2_same, upd2_ne _ _ (by omega), setS_o (by omega), setS_o (by omega), setS_o (by omega), setS_o (by omega), setS_s, setS_o (by omega)]
    exact ⟨q0, q1, q2, q3, (carI_s c).symm, q5⟩
  · rw [upd2_row _ _ (by omega), setS_o (by omega), setS_o (by omega), setS_o (by omega), setS_o (by omega), setS_o (by omega), setS_o (by omega)]
    exact h4 p hp

set_option maxHeartbeats 4000000 in
set_option maxRecDepth 100000 in
theorem c_day {g : GT} {T : TT} {Mi : MI} {Ml : ML} {X u nx : Nat} {S : Nat → Nat} {R : Nat → Nat → Nat} (hX : DayS g T X) (hL : BltR Mi (X + 1) S R u nx) (hW : WF S) (c v : Int32) : Ct g yX11_day cX11_day 4 (some .int) 3 0 0 [.ref X, .int c, .int v] T Mi Ml (Gi T (fun rv Mi' Ml' => rv = (sp_day S c v).1 ∧ Ml' = Ml ∧ Fr Mi Mi' (X + 1) (X + 78) ∧ BltR Mi' (X + 1) (sp_day S c v).2 R u nx)) := by
  refine Ct.of' (plainFor_of_name (by decide +kernel)) (by exact Nat.le_of_ble_eq_true rfl) ?_
  intro x hg hR h hr hnm hnl
  subst hg
  obtain ⟨x0, ⟨x1, x2⟩, ⟨x3, x4⟩, ⟨x5, x6, x7, x8⟩, ⟨x9, x10, x11, x12, x13, x14⟩, ⟨x15, x16⟩, ⟨x17, x18, x19, x20⟩, ⟨x21, x22, x23, x24⟩, ⟨x25, x26, x27, x28, x29, x30⟩, x31, x32, x33, x34, x35, x36⟩ := id hX
  obtain ⟨z1, z2, z3, z4, z5, z6, z7⟩ := id x2
  obtain ⟨e1, e2, e3⟩ := id z5
  obtain ⟨s1, s2, s3, s4, s5⟩ := id z6
  obtain ⟨h1, h2, h3, h4, h5⟩ := id z7
  obtain ⟨l1, l2, l3⟩ := id hL
  obtain ⟨y0, y1, y2, y3⟩ := id l1
  obtain ⟨v1, v2, v3, v4⟩ := id l2
  obtain ⟨r1, r2, r3, r4, r5, r6⟩ := id l3
  obtain ⟨w0, w1, w2, w3, w4, w5, w6, w7⟩ := id hW
  refine jv_aload_n h dX11_day_0 rfl ?_
  refine jv_iload_n h dX11_day_1 rfl ?_
  refine jv_VRi [_] h dX11_day_2 cw_X11_138 cf_10 (by first | assumption | exact s4 _ (by omega) | exact s5 _ (by omega)) (c_isCar (by first | assumption | exact s4 _ (by omega) | exact s5 _ (by omega)) (by first | assumption | exact s4 _ (by omega) | exact s5 _ (by omega)) (by first | assumption | exact s4 _ (by omega) | exact s5 _ (by omega)) _) (by decide) rfl rfl (Nat.le_of_ble_eq_true rfl) ⟨Nat.zero_le _, Nat.zero_le _⟩ ?_
  refine jv_beq 15 h dX11_day_5 (by decide) (fun c5 => ?_) (fun c5 => ?_)
  · refine jv_iconst (-1) h dX11_day_15 (by decide) ?_
    exact jv_iret h hr dX11_day_16 ⟨_, rfl, rfl, by
    have e : sp_day S c v = (-1, S) := (by unfold sp_day; rw [if_neg (by simp_all)])
    rw [e]
    exact ⟨rfl, rfl, Fr.rf _ _ _, hL⟩⟩
  · refine jv_iload_n h dX11_day_8 rfl ?_
    refine jv_SRi [_] h dX11_day_9 cw_X11_76 (c_isDay _) (by decide) rfl rfl (Nat.le_of_ble_eq_true rfl) ⟨Nat.zero_le _, Nat.zero_le _⟩ ?_
    refine jv_bne 17 h dX11_day_12 (by decide) (fun c12 => ?_) (fun c12 => ?_)
    · obtain ⟨c9, rfl, -, hc9⟩ := isB_t c5
      obtain ⟨v9, rfl, -, hv9⟩ := isB_t c12
      refine jv_aload_n h dX11_day_17 rfl ?_
      refine jv_gr 0 h dX11_day_18 cf_10 (by decide) gw_280 (by first | assumption | exact s4 _ (by omega) | exact s5 _ (by omega)) (by first | assumption | exact s4 _ (by omega) | exact s5 _ (by omega)) ?_
      refine jv_gr 0 h dX11_day_21 cf_0 (by decide) gw_162 (by first | assumption | exact s4 _ (by omega) | exact s5 _ (by omega)) (by first | assumption | exact s4 _ (by omega) | exact s5 _ (by omega)) ?_
      refine jv_gr 3 h dX11_day_24 cf_1 (by decide) gw_55 (by first | assumption | exact s4 _ (by omega) | exact s5 _ (by omega)) (by first | assumption | exact s4 _ (by omega) | exact s5 _ (by omega)) ?_
      refine jv_iload_n h dX11_day_27 rfl ?_
      refine jv_iav h dX11_day_28 (by first | assumption | exact s4 _ (by omega) | exact s5 _ (by omega)) (by repeat (with_reducible first | exact NF_nI _ | assumption | refine NF_add ?_ ?_ | refine NF_mul ?_ ?_)) ⟨by omega, by decide⟩ (by exact y3 _ (by omega)) ?_
      refine jv_istore_n h dX11_day_29 (lt_nl hnl (by decide)) ?_
      refine jv_aload_n h dX11_day_30 rfl ?_
      refine jv_gr 0 h dX11_day_31 cf_10 (by decide) gw_280 (by first | assumption | exact s4 _ (by omega) | exact s5 _ (by omega)) (by first | assumption | exact s4 _ (by omega) | exact s5 _ (by omega)) ?_
      refine jv_gr 0 h dX11_day_34 cf_0 (by decide) gw_162 (by first | assumption | exact s4 _ (by omega) | exact s5 _ (by omega)) (by first | assumption | exact s4 _ (by omega) | exact s5 _ (by omega)) ?_
      refine jv_gr 3 h dX11_day_37 cf_1 (by decide) gw_55 (by first | assumption | exact s4 _ (by omega) | exact s5 _ (by omega)) (by first | assumption | exact s4 _ (by omega) | exact s5 _ (by omega)) ?_
      refine jv_iload_n h dX11_day_40 rfl ?_
      refine jv_iload_n h dX11_day_41 rfl ?_
      refine jv_iast h dX11_day_42 (by first | assumption | exact s4 _ (by omega) | exact s5 _ (by omega)) (by repeat (with_reducible first | exact NF_nI _ | assumption | refine NF_add ?_ ?_ | refine NF_mul ?_ ?_)) ⟨by omega, by decide⟩ ?_
      refine jv_iload_n h dX11_day_43 rfl ?_
      exact jv_iret h hr dX11_day_44 ⟨_, rfl, rfl, by
    have e : sp_day S (nI c9) (nI v9) = (nI (S (6 + c9)), setS S (6 + c9) v9) := by unfold sp_day; rw [if_pos ⟨by assumption, by assumption⟩, pn_nI (by omega), pn_nI (by omega)]
    rw [e]
    refine ⟨rfl, rfl, Fr.up (by omega), ?_, ?_, ?_⟩
    · have := l1.set (v := v9) (j := 6 + c9) (by omega) (by omega) (by omega)
      rw [show 6 + c9 - 6 = c9 by omega] at this
      exact this
    · exact (l2.fr w0 (fun a h1 h2 => upd2_row _ _ (by omega))).set (by omega)
    · exact l3.fr (fun a h1 h2 => upd2_row _ _ (by omega))⟩
    · refine jv_iconst (-1) h dX11_day_15 (by decide) ?_
      exact jv_iret h hr dX11_day_16 ⟨_, rfl, rfl, by
    have e : sp_day S c v = (-1, S) := (by unfold sp_day; rw [if_neg (by simp_all)])
    rw [e]
    exact ⟨rfl, rfl, Fr.rf _ _ _, hL⟩⟩
set_option maxHeartbeats 4000000 in
set_option maxRecDepth 100000 in
theorem c_rule {g : GT} {T : TT} {Mi : MI} {Ml : ML} {X u nx : Nat} {S : Nat → Nat} {R : Nat → Nat → Nat} (hX : DayS g T X) (hL : BltR Mi (X + 1) S R u nx) (hW : WF S) (w v : Int32) : Ct g yX11_rule cX11_rule 4 (some .int) 2 0 0 [.ref X, .int w, .int v] T Mi Ml (Gi T (fun rv Mi' Ml' => rv = (sp_rule S w v).1 ∧ Ml' = Ml ∧ Fr Mi Mi' (X + 1) (X + 78) ∧ BltR Mi' (X + 1) (sp_rule S w v).2 R u nx)) := by
  refine Ct.of' (plainFor_of_name (by decide +kernel)) (by exact Nat.le_of_ble_eq_true rfl) ?_
  intro x hg hR h hr hnm hnl
  subst hg
  obtain ⟨x0, ⟨x1, x2⟩, ⟨x3, x4⟩, ⟨x5, x6, x7, x8⟩, ⟨x9, x10, x11, x12, x13, x14⟩, ⟨x15, x16⟩, ⟨x17, x18, x19, x20⟩, ⟨x21, x22, x23, x24⟩, ⟨x25, x26, x27, x28, x29, x30⟩, x31, x32, x33, x34, x35, x36⟩ := id hX
  obtain ⟨z1, z2, z3, z4, z5, z6, z7⟩ := id x2
  obtain ⟨e1, e2, e3⟩ := id z5
  obtain ⟨s1, s2, s3, s4, s5⟩ := id z6
  obtain ⟨h1, h2, h3, h4, h5⟩ := id z7
  obtain ⟨l1, l2, l3⟩ := id hL
  obtain ⟨y0, y1, y2, y3⟩ := id l1
  obtain ⟨v1, v2, v3, v4⟩ := id l2
  obtain ⟨r1, r2, r3, r4, r5, r6⟩ := id l3
  obtain ⟨w0, w1, w2, w3, w4, w5, w6, w7⟩ := id hW
  refine jv_iload_n h dX11_rule_0 rfl ?_
  refine jv_if_ne 38 h dX11_rule_1 (by decide) (fun c1 => ?_) (fun c1 => ?_)
  · refine jv_iload_n h dX11_rule_38 rfl ?_
    refine jv_iconst (nI 1) h dX11_rule_39 (by decide) ?_
    refine jv_icmp_ne 77 h dX11_rule_40 (by decide) (fun c40 => ?_) (fun c40 => ?_)
    · refine jv_iconst (-1) h dX11_rule_77 (by decide) ?_
      exact jv_iret h hr dX11_rule_78 ⟨_, rfl, rfl, by
    have e : sp_rule S w v = (-1, S) := (by unfold sp_rule; rw [if_neg (by simp_all), if_neg (by simp_all)])
    rw [e]
    exact ⟨rfl, rfl, Fr.rf _ _ _, hL⟩⟩
    · refine jv_iload_n h dX11_rule_43 rfl ?_
      refine jv_iconst (nI 2) h dX11_rule_44 (by decide) ?_
      refine jv_bipush (nI 24) h dX11_rule_45 (by decide) ?_
      refine jv_SRi [_, _, _] h dX11_rule_47 cw_X11_68 (c_within (m := 2) (n := 25) _ (by decide) (by decide)) (by decide) rfl rfl (Nat.le_of_ble_eq_true rfl) ⟨Nat.zero_le _, Nat.zero_le _⟩ ?_
      refine jv_beq 77 h dX11_rule_50 (by decide) (fun c50 => ?_) (fun c50 => ?_)
      · refine jv_iconst (-1) h dX11_rule_77 (by decide) ?_
        exact jv_iret h hr dX11_rule_78 ⟨_, rfl, rfl, by
    have e : sp_rule S w v = (-1, S) := (by unfold sp_rule; rw [if_neg (by simp_all), if_neg (by simp_all)])
    rw [e]
    exact ⟨rfl, rfl, Fr.rf _ _ _, hL⟩⟩
      · obtain ⟨v9, rfl, -, hv9⟩ := isB_t c50
        refine jv_aload_n h dX11_rule_53 rfl ?_
        refine jv_gr 0 h dX11_rule_54 cf_10 (by decide) gw_280 (by first | assumption | exact s4 _ (by omega) | exact s5 _ (by omega)) (by first | assumption | exact s4 _ (by omega) | exact s5 _ (by omega)) ?_
        refine jv_gr 0 h dX11_rule_57 cf_0 (by decide) gw_162 (by first | assumption | exact s4 _ (by omega) | exact s5 _ (by omega)) (by first | assumption | exact s4 _ (by omega) | exact s5 _ (by omega)) ?_
        refine jv_gv 2 h dX11_rule_60 cf_1 (by decide) gw_52 (by first | assumption | exact s4 _ (by omega) | exact s5 _ (by omega)) (by first | assumption | exact (upd2_ne _ _ (by omega)).trans (by assumption) | exact (upd2_ne _ _ (by omega)).trans ((upd2_ne _ _ (by omega)).trans (by assumption))) ?_
        refine jv_istore_n h dX11_rule_63 (lt_nl hnl (by decide)) ?_
        refine jv_aload_n h dX11_rule_64 rfl ?_
        refine jv_gr 0 h dX11_rule_65 cf_10 (by decide) gw_280 (by first | assumption | exact s4 _ (by omega) | exact s5 _ (by omega)) (by first | assumption | exact s4 _ (by omega) | exact s5 _ (by omega)) ?_
        refine jv_gr 0 h dX11_rule_68 cf_0 (by decide) gw_162 (by first | assumption | exact s4 _ (by omega) | exact s5 _ (by omega)) (by first | assumption | exact s4 _ (by omega) | exact s5 _ (by omega)) ?_
        refine jv_iload_n h dX11_rule_71 rfl ?_
        refine jv_pi 2 h dX11_rule_72 cf_1 (by decide) gw_52 (by first | assumption | exact s4 _ (by omega) | exact s5 _ (by omega)) rfl rfl rfl ?_
        refine jv_iload_n h dX11_rule_75 rfl ?_
        exact jv_iret h hr dX11_rule_76 ⟨_, rfl, rfl, by
    have e : sp_rule S w (nI v9) = (nI (S 4), setS S 4 v9) := by unfold sp_rule; rw [if_neg (by rw [c40]; simp; intro z; exact absurd z (by decide)), if_pos ⟨c40, c50⟩, pn_nI (by omega)]
    rw [e]
    exact ⟨rfl, rfl, Fr.up (by omega), (l1.lim (by omega)).2, (l2.fr w0 (fun a h1 h2 => upd2_row _ _ (by omega))).set (by omega), l3.fr (fun a h1 h2 => upd2_row _ _ (by omega))⟩⟩
  · refine jv_iload_n h dX11_rule_4 rfl ?_
    refine jv_iconst (nI 1) h dX11_rule_5 (by decide) ?_
    refine jv_bipush (nI 60) h dX11_rule_6 (by decide) ?_
    refine jv_SRi [_, _, _] h dX11_rule_8 cw_X11_68 (c_within (m := 1) (n := 61) _ (by decide) (by decide)) (by decide) rfl rfl (Nat.le_of_ble_eq_true rfl) ⟨Nat.zero_le _, Nat.zero_le _⟩ ?_
    refine jv_beq 38 h dX11_rule_11 (by decide) (fun c11 => ?_) (fun c11 => ?_)
    · refine jv_iload_n h dX11_rule_38 rfl ?_
      refine jv_iconst (nI 1) h dX11_rule_39 (by decide) ?_
      refine jv_icmp_ne 77 h dX11_rule_40 (by decide) (fun c40 => ?_) (fun c40 => ?_)
      · refine jv_iconst (-1) h dX11_rule_77 (by decide) ?_
        exact jv_iret h hr dX11_rule_78 ⟨_, rfl, rfl, by
    have e : sp_rule S w v = (-1, S) := (by unfold sp_rule; rw [if_neg (by simp_all), if_neg (by simp_all)])
    rw [e]
    exact ⟨rfl, rfl, Fr.rf _ _ _, hL⟩⟩
      · refine jv_iload_n h dX11_rule_43 rfl ?_
        refine jv_iconst (nI 2) h dX11_rule_44 (by decide) ?_
        refine jv_bipush (nI 24) h dX11_rule_45 (by decide) ?_
        refine jv_SRi [_, _, _] h dX11_rule_47 cw_X11_68 (c_within (m := 2) (n := 25) _ (by decide) (by decide)) (by decide) rfl rfl (Nat.le_of_ble_eq_true rfl) ⟨Nat.zero_le _, Nat.zero_le _⟩ ?_
        refine jv_beq 77 h dX11_rule_50 (by decide) (fun c50 => ?_) (fun c50 => ?_)
        · refine jv_iconst (-1) h dX11_rule_77 (by decide) ?_
          exact jv_iret h hr dX11_rule_78 ⟨_, rfl, rfl, by
    have e : sp_rule S w v = (-1, S) := (by unfold sp_rule; rw [if_neg (by simp_all), if_neg (by simp_all)])
    rw [e]
    exact ⟨rfl, rfl, Fr.rf _ _ _, hL⟩⟩
        · obtain ⟨v9, rfl, -, hv9⟩ := isB_t c50
          refine jv_aload_n h dX11_rule_53 rfl ?_
          refine jv_gr 0 h dX11_rule_54 cf_10 (by decide) gw_280 (by first | assumption | exact s4 _ (by omega) | exact s5 _ (by omega)) (by first | assumption | exact s4 _ (by omega) | exact s5 _ (by omega)) ?_
          refine jv_gr 0 h dX11_rule_57 cf_0 (by decide) gw_162 (by first | assumption | exact s4 _ (by omega) | exact s5 _ (by omega)) (by first | assumption | exact s4 _ (by omega) | exact s5 _ (by omega)) ?_
          refine jv_gv 2 h dX11_rule_60 cf_1 (by decide) gw_52 (by first | assumption | exact s4 _ (by omega) | exact s5 _ (by omega)) (by first | assumption | exact (upd2_ne _ _ (by omega)).trans (by assumption) | exact (upd2_ne _ _ (by omega)).trans ((upd2_ne _ _ (by omega)).trans (by assumption))) ?_
          refine jv_istore_n h dX11_rule_63 (lt_nl hnl (by decide)) ?_
          refine jv_aload_n h dX11_rule_64 rfl ?_
          refine jv_gr 0 h dX11_rule_65 cf_10 (by decide) gw_280 (by first | assumption | exact s4 _ (by omega) | exact s5 _ (by omega)) (by first | assumption | exact s4 _ (by omega) | exact s5 _ (by omega)) ?_
          refine jv_gr 0 h dX11_rule_68 cf_0 (by decide) gw_162 (by first | assumption | exact s4 _ (by omega) | exact s5 _ (by omega)) (by first | assumption | exact s4 _ (by omega) | exact s5 _ (by omega)) ?_
          refine jv_iload_n h dX11_rule_71 rfl ?_
          refine jv_pi 2 h dX11_rule_72 cf_1 (by decide) gw_52 (by first | assumption | exact s4 _ (by omega) | exact s5 _ (by omega)) rfl rfl rfl ?_
          refine jv_iload_n h dX11_rule_75 rfl ?_
          exact jv_iret h hr dX11_rule_76 ⟨_, rfl, rfl, by
    have e : sp_rule S w (nI v9) = (nI (S 4), setS S 4 v9) := by unfold sp_rule; rw [if_neg (by rw [c40]; simp; intro z; exact absurd z (by decide)), if_pos ⟨c40, c50⟩, pn_nI (by omega)]
    rw [e]
    exact ⟨rfl, rfl, Fr.up (by omega), (l1.lim (by omega)).2, (l2.fr w0 (fun a h1 h2 => upd2_row _ _ (by omega))).set (by omega), l3.fr (fun a h1 h2 => upd2_row _ _ (by omega))⟩⟩
    · obtain ⟨v9, rfl, -, hv9⟩ := isB_t c11
      refine jv_aload_n h dX11_rule_14 rfl ?_
      refine jv_gr 0 h dX11_rule_15 cf_10 (by decide) gw_280 (by first | assumption | exact s4 _ (by omega) | exact s5 _ (by omega)) (by first | assumption | exact s4 _ (by omega) | exact s5 _ (by omega)) ?_
      refine jv_gr 0 h dX11_rule_18 cf_0 (by decide) gw_162 (by first | assumption | exact s4 _ (by omega) | exact s5 _ (by omega)) (by first | assumption | exact s4 _ (by omega) | exact s5 _ (by omega)) ?_
      refine jv_gv 1 h dX11_rule_21 cf_1 (by decide) gw_49 (by first | assumption | exact s4 _ (by omega) | exact s5 _ (by omega)) (by first | assumption | exact (upd2_ne _ _ (by omega)).trans (by assumption) | exact (upd2_ne _ _ (by omega)).trans ((upd2_ne _ _ (by omega)).trans (by assumption))) ?_
      refine jv_istore_n h dX11_rule_24 (lt_nl hnl (by decide)) ?_
      refine jv_aload_n h dX11_rule_25 rfl ?_
      refine jv_gr 0 h dX11_rule_26 cf_10 (by decide) gw_280 (by first | assumption | exact s4 _ (by omega) | exact s5 _ (by omega)) (by first | assumption | exact s4 _ (by omega) | exact s5 _ (by omega)) ?_
      refine jv_gr 0 h dX11_rule_29 cf_0 (by decide) gw_162 (by first | assumption | exact s4 _ (by omega) | exact s5 _ (by omega)) (by first | assumption | exact s4 _ (by omega) | exact s5 _ (by omega)) ?_
      refine jv_iload_n h dX11_rule_32 rfl ?_
      refine jv_pi 1 h dX11_rule_33 cf_1 (by decide) gw_49 (by first | assumption | exact s4 _ (by omega) | exact s5 _ (by omega)) rfl rfl rfl ?_
      refine jv_iload_n h dX11_rule_36 rfl ?_
      exact jv_iret h hr dX11_rule_37 ⟨_, rfl, rfl, by
    have e : sp_rule S w (nI v9) = (nI (S 3), setS S 3 v9) := by unfold sp_rule; rw [if_pos ⟨c1, c11⟩, pn_nI (by omega)]
    rw [e]
    exact ⟨rfl, rfl, Fr.up (by omega), (l1.lim (by omega)).1, (l2.fr w0 (fun a h1 h2 => upd2_row _ _ (by omega))).set (by omega), l3.fr (fun a h1 h2 => upd2_row _ _ (by omega))⟩⟩
set_option maxHeartbeats 4000000 in
set_option maxRecDepth 100000 in
theorem c_seed {g : GT} {T : TT} {Mi : MI} {Ml : ML} {X u nx : Nat} {S : Nat → Nat} {R : Nat → Nat → Nat} (hX : DayS g T X) (hL : BltR Mi (X + 1) S R u nx) (hW : WF S) (v : Int32) : Ct g yX11_seed cX11_seed 3 (some .int) 1 0 0 [.ref X, .int v] T Mi Ml (Gi T (fun rv Mi' Ml' => rv = (sp_seed S v).1 ∧ Ml' = Ml ∧ Fr Mi Mi' (X + 1) (X + 78) ∧ BltR Mi' (X + 1) (sp_seed S v).2 R u nx)) := by
  refine Ct.of' (plainFor_of_name (by decide +kernel)) (by exact Nat.le_of_ble_eq_true rfl) ?_
  intro x hg hR h hr hnm hnl
  subst hg
  obtain ⟨x0, ⟨x1, x2⟩, ⟨x3, x4⟩, ⟨x5, x6, x7, x8⟩, ⟨x9, x10, x11, x12, x13, x14⟩, ⟨x15, x16⟩, ⟨x17, x18, x19, x20⟩, ⟨x21, x22, x23, x24⟩, ⟨x25, x26, x27, x28, x29, x30⟩, x31, x32, x33, x34, x35, x36⟩ := id hX
  obtain ⟨z1, z2, z3, z4, z5, z6, z7⟩ := id x2
  obtain ⟨e1, e2, e3⟩ := id z5
  obtain ⟨s1, s2, s3, s4, s5⟩ := id z6
  obtain ⟨h1, h2, h3, h4, h5⟩ := id z7
  obtain ⟨l1, l2, l3⟩ := id hL
  obtain ⟨y0, y1, y2, y3⟩ := id l1
  obtain ⟨v1, v2, v3, v4⟩ := id l2
  obtain ⟨r1, r2, r3, r4, r5, r6⟩ := id l3
  obtain ⟨w0, w1, w2, w3, w4, w5, w6, w7⟩ := id hW
  refine jv_iload_n h dX11_seed_0 rfl ?_
  refine jv_if_ge 6 h dX11_seed_1 (by decide) (fun c1 => ?_) (fun c1 => ?_)
  · obtain ⟨v9, hv9, rfl⟩ := nI_of ((i32_le0 v).mp c1)
    refine jv_aload_n h dX11_seed_6 rfl ?_
    refine jv_gr 0 h dX11_seed_7 cf_10 (by decide) gw_280 (by first | assumption | exact s4 _ (by omega) | exact s5 _ (by omega)) (by first | assumption | exact s4 _ (by omega) | exact s5 _ (by omega)) ?_
    refine jv_gr 1 h dX11_seed_10 cf_0 (by decide) gw_165 (by first | assumption | exact s4 _ (by omega) | exact s5 _ (by omega)) (by first | assumption | exact s4 _ (by omega) | exact s5 _ (by omega)) ?_
    refine jv_gv 3 h dX11_seed_13 cf_5 (by decide) gw_131 (by first | assumption | exact s4 _ (by omega) | exact s5 _ (by omega)) (by first | assumption | exact (upd2_ne _ _ (by omega)).trans (by assumption) | exact (upd2_ne _ _ (by omega)).trans ((upd2_ne _ _ (by omega)).trans (by assumption))) ?_
    refine jv_istore_n h dX11_seed_16 (lt_nl hnl (by decide)) ?_
    refine jv_aload_n h dX11_seed_17 rfl ?_
    refine jv_gr 0 h dX11_seed_18 cf_10 (by decide) gw_280 (by first | assumption | exact s4 _ (by omega) | exact s5 _ (by omega)) (by first | assumption | exact s4 _ (by omega) | exact s5 _ (by omega)) ?_
    refine jv_gr 1 h dX11_seed_21 cf_0 (by decide) gw_165 (by first | assumption | exact s4 _ (by omega) | exact s5 _ (by omega)) (by first | assumption | exact s4 _ (by omega) | exact s5 _ (by omega)) ?_
    refine jv_iload_n h dX11_seed_24 rfl ?_
    refine jv_pi 3 h dX11_seed_25 cf_5 (by decide) gw_131 (by first | assumption | exact s4 _ (by omega) | exact s5 _ (by omega)) rfl rfl rfl ?_
    refine jv_iload_n h dX11_seed_28 rfl ?_
    exact jv_iret h hr dX11_seed_29 ⟨_, rfl, rfl, by
    have e : sp_seed S (nI v9) = (nI (S 5), setS S 5 v9) := by unfold sp_seed; rw [if_neg (nI_pos hv9), pn_nI hv9]
    rw [e]
    exact ⟨rfl, rfl, Fr.up (by omega), (l1.fr (upd2_row _ _ (by omega)) (upd2_row _ _ (by omega))).set' (by omega) (by omega), l2.drw, l3.fr (fun a h1 h2 => upd2_row _ _ (by omega))⟩⟩
  · refine jv_iconst (-1) h dX11_seed_4 (by decide) ?_
    exact jv_iret h hr dX11_seed_5 ⟨_, rfl, rfl, by
    have e : sp_seed S v = (-1, S) := (by unfold sp_seed; rw [if_pos (by rw [i32_le0] at c1; simpa using c1)])
    rw [e]
    exact ⟨rfl, rfl, Fr.rf _ _ _, hL⟩⟩
set_option maxHeartbeats 4000000 in
set_option maxRecDepth 100000 in
theorem c_in {g : GT} {T : TT} {Mi : MI} {Ml : ML} {X u nx : Nat} {S : Nat → Nat} {R : Nat → Nat → Nat} (hX : DayS g T X) (hL : BltR Mi (X + 1) S R u nx) (hW : WF S) (p s : Int32) : Ct g yX11_in cX11_in 5 (some .int) 5 0 0 [.ref X, .int p, .int s] T Mi Ml (Gi T (fun rv Mi' Ml' => rv = (sp_in S p s).1 ∧ Ml' = Ml ∧ Fr Mi Mi' (X + 1) (X + 78) ∧ ((sp_in S p s).2 = none → Mi' = Mi) ∧ ∀ S', (sp_in S p s).2 = some S' → BltR Mi' (X + 1) S' (updR R nx S) (min (u + 1) 8) ((nx + 1) % 8))) := by
  refine Ct.of' (plainFor_of_name (by decide +kernel)) (by exact Nat.le_of_ble_eq_true rfl) ?_
  intro x hg hR h hr hnm hnl
  subst hg
  obtain ⟨x0, ⟨x1, x2⟩, ⟨x3, x4⟩, ⟨x5, x6, x7, x8⟩, ⟨x9, x10, x11, x12, x13, x14⟩, ⟨x15, x16⟩, ⟨x17, x18, x19, x20⟩, ⟨x21, x22, x23, x24⟩, ⟨x25, x26, x27, x28, x29, x30⟩, x31, x32, x33, x34, x35, x36⟩ := id hX
  obtain ⟨z1, z2, z3, z4, z5, z6, z7⟩ := id x2
  obtain ⟨e1, e2, e3⟩ := id z5
  obtain ⟨s1, s2, s3, s4, s5⟩ := id z6
  obtain ⟨h1, h2, h3, h4, h5⟩ := id z7
  obtain ⟨l1, l2, l3⟩ := id hL
  obtain ⟨y0, y1, y2, y3⟩ := id l1
  obtain ⟨v1, v2, v3, v4⟩ := id l2
  obtain ⟨r1, r2, r3, r4, r5, r6⟩ := id l3
  obtain ⟨w0, w1, w2, w3, w4, w5, w6, w7⟩ := id hW
  refine jv_aload_n h dX11_in_0 rfl ?_
  refine jv_iload_n h dX11_in_1 rfl ?_
  refine jv_VRi [_] h dX11_in_2 cw_X11_99 cf_10 (by first | assumption | exact s4 _ (by omega) | exact s5 _ (by omega)) (c_isPerson (by first | assumption | exact s4 _ (by omega) | exact s5 _ (by omega)) (by first | assumption | exact s4 _ (by omega) | exact s5 _ (by omega)) (by first | assumption | exact s4 _ (by omega) | exact s5 _ (by omega)) _) (by decide) rfl rfl (Nat.le_of_ble_eq_true rfl) ⟨Nat.zero_le _, Nat.zero_le _⟩ ?_
  refine jv_beq 15 h dX11_in_5 (by decide) (fun c5 => ?_) (fun c5 => ?_)
  · refine jv_iconst (-1) h dX11_in_15 (by decide) ?_
    exact jv_iret h hr dX11_in_16 ⟨_, rfl, rfl, by
    have e : sp_in S p s = (-1, none) := (by unfold sp_in; rw [if_neg (by simp_all)])
    rw [e]
    exact ⟨rfl, rfl, Fr.rf _ _ _, fun _ => rfl, fun _ z => by cases z⟩⟩
  · refine jv_iload_n h dX11_in_8 rfl ?_
    refine jv_SRi [_] h dX11_in_9 cw_X11_211 (c_isSide _) (by decide) rfl rfl (Nat.le_of_ble_eq_true rfl) ⟨Nat.zero_le _, Nat.zero_le _⟩ ?_
    refine jv_bne 17 h dX11_in_12 (by decide) (fun c12 => ?_) (fun c12 => ?_)
    · obtain ⟨i, rfl, -, hi⟩ := isB_t c5
      obtain ⟨s9, rfl, -, hs9⟩ := isB_t c12
      have hi := hi
      have w7i := w7 i hi
      obtain ⟨q0, q1, q2, q3, q4, q5⟩ := v4 i hi
      have hpb := pbN_lt (h := S 2) (f := S (20 + 6 * i)) (s := s9) (by omega)
      have hci := ciN_lt (h := S 2) (c := pbN (S 2) (S (20 + 6 * i)) s9) (s := S 1) (by omega)
      have hld := ldN_le hW (ciN (S 2) (pbN (S 2) (S (20 + 6 * i)) s9) (S 1)) (S 0) (Nat.le_refl _)
      have hwg := wgN_le hW hi
      have hwe : wgN S i = S (19 + 6 * i) * tmN (S (18 + 6 * i)) := rfl
      have hsp : sp_in S (nI i) (nI s9) = (if S (21 + 6 * i) ≠ 0 then (-2, none) else if S (18 + 6 * i) ≠ 3 ∧ S 3 < ldN S (ciN (S 2) (pbN (S 2) (S (20 + 6 * i)) s9) (S 1)) (S 0) + wgN S i then (-3, none) else (nI (ciN (S 2) (pbN (S 2) (S (20 + 6 * i)) s9) (S 1)), some (setS S (21 + 6 * i) (ciN (S 2) (pbN (S 2) (S (20 + 6 * i)) s9) (S 1) + 1)))) := by unfold sp_in; rw [if_pos ⟨by assumption, by assumption⟩, pn_nI (by omega), pn_nI (by omega)]
      refine jv_aload_n h dX11_in_17 rfl ?_
      refine jv_gr 0 h dX11_in_18 cf_10 (by decide) gw_280 (by first | assumption | exact s4 _ (by omega) | exact s5 _ (by omega)) (by first | assumption | exact s4 _ (by omega) | exact s5 _ (by omega)) ?_
      refine jv_gr 1 h dX11_in_21 cf_0 (by decide) gw_165 (by first | assumption | exact s4 _ (by omega) | exact s5 _ (by omega)) (by first | assumption | exact s4 _ (by omega) | exact s5 _ (by omega)) ?_
      refine jv_gr 0 h dX11_in_24 cf_5 (by decide) gw_119 (by first | assumption | exact s4 _ (by omega) | exact s5 _ (by omega)) (by first | assumption | exact s4 _ (by omega) | exact s5 _ (by omega)) ?_
      refine jv_iload_n h dX11_in_27 rfl ?_
      refine jv_aald h dX11_in_28 (by first | assumption | exact s4 _ (by omega) | exact s5 _ (by omega)) (by decide) (by repeat (with_reducible first | exact NF_nI _ | assumption | refine NF_add ?_ ?_ | refine NF_mul ?_ ?_)) ⟨by omega, by decide⟩ (by first | assumption | exact s4 _ (by omega) | exact s5 _ (by omega)) ?_
      refine jv_astore_n h dX11_in_29 (lt_nl hnl (by decide)) ?_
      refine jv_aload_n h dX11_in_30 rfl ?_
      refine jv_VRi [] h dX11_in_31 cw_X11_125 cf_4 (by first | assumption | exact s4 _ (by omega) | exact s5 _ (by omega)) (c_rides (by first | assumption | exact s4 _ (by omega) | exact s5 _ (by omega)) (by first | assumption | exact (upd2_ne _ _ (by omega)).trans (by assumption) | exact (upd2_ne _ _ (by omega)).trans ((upd2_ne _ _ (by omega)).trans (by assumption))) (by omega)) (by decide) rfl rfl (Nat.le_of_ble_eq_true rfl) ⟨Nat.zero_le _, Nat.zero_le _⟩ ?_
      refine jv_beq 40 h dX11_in_34 (by decide) (fun c34 => ?_) (fun c34 => ?_)
      · simp at c34
        refine jv_aload_n h dX11_in_40 rfl ?_
        refine jv_gr 0 h dX11_in_41 cf_10 (by decide) gw_280 (by first | assumption | exact s4 _ (by omega) | exact s5 _ (by omega)) (by first | assumption | exact s4 _ (by omega) | exact s5 _ (by omega)) ?_
        refine jv_aload_n h dX11_in_44 rfl ?_
        refine jv_gv 2 h dX11_in_45 cf_4 (by decide) gw_93 (by first | assumption | exact s4 _ (by omega) | exact s5 _ (by omega)) (by first | assumption | exact (upd2_ne _ _ (by omega)).trans (by assumption) | exact (upd2_ne _ _ (by omega)).trans ((upd2_ne _ _ (by omega)).trans (by assumption))) ?_
        refine jv_iload_n h dX11_in_48 rfl ?_
        refine jv_iconst (nI 0) h dX11_in_49 (by decide) ?_
        refine jv_VRi [_, _, _] h dX11_in_50 cw_X11_217 cf_0 (by first | assumption | exact s4 _ (by omega) | exact s5 _ (by omega)) (c_carBy (by first | assumption | exact s4 _ (by omega) | exact s5 _ (by omega)) (by first | assumption | exact s4 _ (by omega) | exact s5 _ (by omega)) (by first | assumption | exact s4 _ (by omega) | exact s5 _ (by omega)) (by repeat (with_reducible first | exact NF_nI _ | assumption | refine NF_add ?_ ?_ | refine NF_mul ?_ ?_)) (by repeat (with_reducible first | exact NF_nI _ | assumption | refine NF_add ?_ ?_ | refine NF_mul ?_ ?_)) (by repeat (with_reducible first | exact NF_nI _ | assumption | refine NF_add ?_ ?_ | refine NF_mul ?_ ?_)) (by omega)) (by decide) rfl rfl (Nat.le_of_ble_eq_true rfl) ⟨Nat.zero_le _, Nat.zero_le _⟩ ?_
        rw [show S 1 + 0 = S 1 from Nat.add_zero _]
        refine jv_istore h dX11_in_53 (lt_nl hnl (by decide)) ?_
        refine jv_aload_n h dX11_in_55 rfl ?_
        refine jv_ge 0 h dX11_in_56 cf_4 (by decide) gw_85 (by first | assumption | exact s4 _ (by omega) | exact s5 _ (by omega)) (by first | assumption | exact s4 _ (by omega) | exact s5 _ (by omega)) (by omega) ?_
        refine jv_gen (L := [0, 0, 0, 1, 0]) (List.mem_of_getElem? (i := 2) rfl) h dX11_in_59 (by omega) gw_1238 (alE (by omega)) ?_
        refine jv_bne 98 h dX11_in_62 (by decide) (fun c62 => ?_) (fun c62 => ?_)
        · simp at c62
          refine jv_aload_n h dX11_in_98 rfl ?_
          refine jv_gr 0 h dX11_in_99 cf_10 (by decide) gw_280 (by first | assumption | exact s4 _ (by omega) | exact s5 _ (by omega)) (by first | assumption | exact s4 _ (by omega) | exact s5 _ (by omega)) ?_
          refine jv_gr 2 h dX11_in_102 cf_0 (by decide) gw_168 (by first | assumption | exact s4 _ (by omega) | exact s5 _ (by omega)) (by first | assumption | exact s4 _ (by omega) | exact s5 _ (by omega)) ?_
          refine jv_aload_n h dX11_in_105 rfl ?_
          refine jv_gr 0 h dX11_in_106 cf_10 (by decide) gw_280 (by first | assumption | exact s4 _ (by omega) | exact s5 _ (by omega)) (by first | assumption | exact s4 _ (by omega) | exact s5 _ (by omega)) ?_
          refine jv_gr 1 h dX11_in_109 cf_0 (by decide) gw_165 (by first | assumption | exact s4 _ (by omega) | exact s5 _ (by omega)) (by first | assumption | exact s4 _ (by omega) | exact s5 _ (by omega)) ?_
          refine jv_VGv [_] h dX11_in_112 cw_X11_225 cf_3 (by first | assumption | exact s4 _ (by omega) | exact s5 _ (by omega)) (c_push z7 l3 z6 l2 hW (by omega)) (by decide) rfl rfl (Nat.le_of_ble_eq_true rfl) ⟨Nat.zero_le _, Nat.zero_le _⟩ (fun Mi112 Ml112 hp112 => ?_)
          have f1z := hp112.2.1
          have f2z := hp112.2.2
          have hm9 := hp112.1
          subst hm9
          refine jv_aload_n h dX11_in_115 rfl ?_
          refine jv_iload h dX11_in_116 rfl ?_
          refine jv_pi 4 h dX11_in_118 cf_4 (by decide) gw_98 (by first | assumption | exact s4 _ (by omega) | exact s5 _ (by omega)) rfl rfl rfl ?_
          refine jv_iload h dX11_in_121 rfl ?_
          exact jv_iret h hr dX11_in_123 ⟨_, rfl, rfl, by
    rw [hsp, if_neg (by simp [c34]), if_neg (by omega)]
    refine ⟨rfl, rfl, Fr.tr (l := X + 1) (h := X + 78) f1z (Fr.up (lo := X + 1) (hi := X + 78) (by omega)) (by omega), (fun z => by cases z), fun S' hS' => ?_⟩
    cases hS'
    exact ⟨((l1.fr (f1z _ (by omega)) (f1z _ (by omega))).fr (upd2_row _ _ (by omega)) (upd2_row _ _ (by omega))).set' (by omega) (by omega), (l2.fr w0 (fun a h1 h2 => f1z a (by omega))).car, f2z.fr (fun a h1 h2 => upd2_row _ _ (by omega))⟩⟩
        · simp at c62
          refine jv_aload_n h dX11_in_65 rfl ?_
          refine jv_gr 0 h dX11_in_66 cf_10 (by decide) gw_280 (by first | assumption | exact s4 _ (by omega) | exact s5 _ (by omega)) (by first | assumption | exact s4 _ (by omega) | exact s5 _ (by omega)) ?_
          refine jv_gr 1 h dX11_in_69 cf_0 (by decide) gw_165 (by first | assumption | exact s4 _ (by omega) | exact s5 _ (by omega)) (by first | assumption | exact s4 _ (by omega) | exact s5 _ (by omega)) ?_
          refine jv_iload h dX11_in_72 rfl ?_
          refine jv_VRi [_] h dX11_in_74 cw_X11_165 cf_5 (by first | assumption | exact s4 _ (by omega) | exact s5 _ (by omega)) (c_load (by first | assumption | exact s4 _ (by omega) | exact s5 _ (by omega)) (by first | assumption | exact s4 _ (by omega) | exact s5 _ (by omega)) (by first | assumption | exact s4 _ (by omega) | exact s5 _ (by omega)) (by repeat (with_reducible first | exact NF_nI _ | assumption | refine NF_add ?_ ?_ | refine NF_mul ?_ ?_)) (by omega)) (by decide) rfl rfl (Nat.le_of_ble_eq_true rfl) ⟨Nat.zero_le _, Nat.zero_le _⟩ ?_
          refine jv_aload_n h dX11_in_77 rfl ?_
          refine jv_VRi [] h dX11_in_78 cw_X11_117 cf_4 (by first | assumption | exact s4 _ (by omega) | exact s5 _ (by omega)) (c_weighs (by first | assumption | exact s4 _ (by omega) | exact s5 _ (by omega)) (by first | assumption | exact (upd2_ne _ _ (by omega)).trans (by assumption) | exact (upd2_ne _ _ (by omega)).trans ((upd2_ne _ _ (by omega)).trans (by assumption))) (by first | assumption | exact (upd2_ne _ _ (by omega)).trans (by assumption) | exact (upd2_ne _ _ (by omega)).trans ((upd2_ne _ _ (by omega)).trans (by assumption))) (by omega)) (by decide) rfl rfl (Nat.le_of_ble_eq_true rfl) ⟨Nat.zero_le _, Nat.zero_le _⟩ ?_
          first | refine jv_iaddN h dX11_in_81 (by repeat (with_reducible first | exact NF_nI _ | assumption | refine NF_add ?_ ?_ | refine NF_mul ?_ ?_)) (by repeat (with_reducible first | exact NF_nI _ | assumption | refine NF_add ?_ ?_ | refine NF_mul ?_ ?_)) ?_ | refine jv_iadd h dX11_in_81 ?_
          refine jv_aload_n h dX11_in_82 rfl ?_
          refine jv_gr 0 h dX11_in_83 cf_10 (by decide) gw_280 (by first | assumption | exact s4 _ (by omega) | exact s5 _ (by omega)) (by first | assumption | exact s4 _ (by omega) | exact s5 _ (by omega)) ?_
          refine jv_gr 0 h dX11_in_86 cf_0 (by decide) gw_162 (by first | assumption | exact s4 _ (by omega) | exact s5 _ (by omega)) (by first | assumption | exact s4 _ (by omega) | exact s5 _ (by omega)) ?_
          refine jv_gv 1 h dX11_in_89 cf_1 (by decide) gw_49 (by first | assumption | exact s4 _ (by omega) | exact s5 _ (by omega)) (by first | assumption | exact (upd2_ne _ _ (by omega)).trans (by assumption) | exact (upd2_ne _ _ (by omega)).trans ((upd2_ne _ _ (by omega)).trans (by assumption))) ?_
          refine jv_nle 98 h dX11_in_92 (by decide) (by repeat (with_reducible first | exact NF_nI _ | assumption | refine NF_add ?_ ?_ | refine NF_mul ?_ ?_)) (by repeat (with_reducible first | exact NF_nI _ | assumption | refine NF_add ?_ ?_ | refine NF_mul ?_ ?_)) ⟨by omega, by omega⟩ (fun c92 => ?_) (fun c92 => ?_)
          · refine jv_aload_n h dX11_in_98 rfl ?_
            refine jv_gr 0 h dX11_in_99 cf_10 (by decide) gw_280 (by first | assumption | exact s4 _ (by omega) | exact s5 _ (by omega)) (by first | assumption | exact s4 _ (by omega) | exact s5 _ (by omega)) ?_
            refine jv_gr 2 h dX11_in_102 cf_0 (by decide) gw_168 (by first | assumption | exact s4 _ (by omega) | exact s5 _ (by omega)) (by first | assumption | exact s4 _ (by omega) | exact s5 _ (by omega)) ?_
            refine jv_aload_n h dX11_in_105 rfl ?_
            refine jv_gr 0 h dX11_in_106 cf_10 (by decide) gw_280 (by first | assumption | exact s4 _ (by omega) | exact s5 _ (by omega)) (by first | assumption | exact s4 _ (by omega) | exact s5 _ (by omega)) ?_
            refine jv_gr 1 h dX11_in_109 cf_0 (by decide) gw_165 (by first | assumption | exact s4 _ (by omega) | exact s5 _ (by omega)) (by first | assumption | exact s4 _ (by omega) | exact s5 _ (by omega)) ?_
            refine jv_VGv [_] h dX11_in_112 cw_X11_225 cf_3 (by first | assumption | exact s4 _ (by omega) | exact s5 _ (by omega)) (c_push z7 l3 z6 l2 hW (by omega)) (by decide) rfl rfl (Nat.le_of_ble_eq_true rfl) ⟨Nat.zero_le _, Nat.zero_le _⟩ (fun Mi112 Ml112 hp112 => ?_)
            have f1z := hp112.2.1
            have f2z := hp112.2.2
            have hm9 := hp112.1
            subst hm9
            refine jv_aload_n h dX11_in_115 rfl ?_
            refine jv_iload h dX11_in_116 rfl ?_
            refine jv_pi 4 h dX11_in_118 cf_4 (by decide) gw_98 (by first | assumption | exact s4 _ (by omega) | exact s5 _ (by omega)) rfl rfl rfl ?_
            refine jv_iload h dX11_in_121 rfl ?_
            exact jv_iret h hr dX11_in_123 ⟨_, rfl, rfl, by
    rw [hsp, if_neg (by simp [c34]), if_neg (by omega)]
    refine ⟨rfl, rfl, Fr.tr (l := X + 1) (h := X + 78) f1z (Fr.up (lo := X + 1) (hi := X + 78) (by omega)) (by omega), (fun z => by cases z), fun S' hS' => ?_⟩
    cases hS'
    exact ⟨((l1.fr (f1z _ (by omega)) (f1z _ (by omega))).fr (upd2_row _ _ (by omega)) (upd2_row _ _ (by omega))).set' (by omega) (by omega), (l2.fr w0 (fun a h1 h2 => f1z a (by omega))).car, f2z.fr (fun a h1 h2 => upd2_row _ _ (by omega))⟩⟩
          · refine jv_bipush (-3) h dX11_in_95 (by decide) ?_
            exact jv_iret h hr dX11_in_97 ⟨_, rfl, rfl, by
    have e : sp_in S (nI i) (nI s9) = (-3, none) := (by rw [hsp, if_neg (by simp [c34]), if_pos ⟨c62, by omega⟩])
    rw [e]
    exact ⟨rfl, rfl, Fr.rf _ _ _, fun _ => rfl, fun _ z => by cases z⟩⟩
      · simp at c34
        refine jv_bipush (-2) h dX11_in_37 (by decide) ?_
        exact jv_iret h hr dX11_in_39 ⟨_, rfl, rfl, by
    have e : sp_in S (nI i) (nI s9) = (-2, none) := (by rw [hsp, if_pos c34])
    rw [e]
    exact ⟨rfl, rfl, Fr.rf _ _ _, fun _ => rfl, fun _ z => by cases z⟩⟩
    · refine jv_iconst (-1) h dX11_in_15 (by decide) ?_
      exact jv_iret h hr dX11_in_16 ⟨_, rfl, rfl, by
    have e : sp_in S p s = (-1, none) := (by unfold sp_in; rw [if_neg (by simp_all)])
    rw [e]
    exact ⟨rfl, rfl, Fr.rf _ _ _, fun _ => rfl, fun _ z => by cases z⟩⟩
theorem ouS_o {S : Nat → Nat} {i j : Nat} (h1 : j ≠ 20 + 6 * i) (h2 : j ≠ 21 + 6 * i) (h3 : j ≠ 22 + 6 * i) : ouS S i j = S j := by
  unfold ouS; rw [setS_o h3, setS_o h2, setS_o h1]
theorem ouS_f {S : Nat → Nat} {i : Nat} : ouS S i (20 + 6 * i) = flN (S 2) (plN (S 2) (S (21 + 6 * i) - 1) (S 1)) ∧ ouS S i (21 + 6 * i) = 0 ∧ ouS S i (22 + 6 * i) = S (6 + (S (21 + 6 * i) - 1)) := by
  unfold ouS
  refine ⟨?_, ?_, ?_⟩
  · rw [setS_o (by omega), setS_o (by omega), setS_s]
  · rw [setS_o (by omega), setS_s]
  · rw [setS_s]
theorem BlkR.out {Mi : MI} {B i : Nat} {S : Nat → Nat} (h : BlkR Mi B S) (h6 : S 2 ≤ 6) : BlkR Mi B (ouS S i) := by
  obtain ⟨k0, k1, k2, k3⟩ := h
  refine ⟨by rw [ouS_o (by omega) (by omega) (by omega)]; exact k0, by rw [ouS_o (by omega) (by omega) (by omega)]; exact k1, by rw [ouS_o (by omega) (by omega) (by omega)]; exact k2, fun k hk => ?_⟩
  rw [ouS_o (by omega) (by omega) (by omega)] at hk
  rw [ouS_o (by omega) (by omega) (by omega)]
  exact k3 k hk
theorem ScnR.out {Mi Mi' : MI} {A i : Nat} {S : Nat → Nat} (h : ScnR Mi A S) (hf : Fr Mi Mi' (A + 2 + i) (A + 2 + i + 1)) (g2 : Mi' (A + 2 + i) 0 = Mi (A + 2 + i) 0) (g3 : Mi' (A + 2 + i) 1 = Mi (A + 2 + i) 1) (g4 : Mi' (A + 2 + i) 2 = nI (flN (S 2) (plN (S 2) (S (21 + 6 * i) - 1) (S 1)))) (g5 : Mi' (A + 2 + i) 3 = nI (S (6 + (S (21 + 6 * i) - 1)))) (g6 : Mi' (A + 2 + i) 4 = -1) (g7 : Mi' (A + 2 + i) 5 = Mi (A + 2 + i) 5) : ScnR Mi' A (ouS S i) := by
  obtain ⟨h1, h2, h3, h4⟩ := h
  refine ⟨by rw [hf A (by omega), ouS_o (by omega) (by omega) (by omega)]; exact h1, by rw [hf A (by omega), ouS_o (by omega) (by omega) (by omega)]; exact h2, by rw [hf A (by omega), ouS_o (by omega) (by omega) (by omega)]; exact h3, fun p hp => ?_⟩
  rw [ouS_o (by omega) (by omega) (by omega)] at hp
  unfold PerR
  by_cases hpi : p = i
  · subst hpi
    obtain ⟨q0, q1, q2, q3, q4, q5⟩ := h4 p hp
    obtain ⟨e1, e2, e3⟩ := ouS_f (S := S) (i := p)
    rw [g2, g3, g4, g5, g6, g7, e1, e2, e3, ouS_o (by omega) (by omega) (by omega), ouS_o (by omega) (by omega) (by omega), ouS_o (by omega) (by omega) (by omega)]
    exact ⟨q0, q1, rfl, rfl, rfl, q5⟩
  · rw [hf _ (by omega), ouS_o (by omega) (by omega) (by omega), ouS_o (by omega) (by omega) (by omega), ouS_o (by omega) (by omega) (by omega), ouS_o (by omega) (by omega) (by omega), ouS_o (by omega) (by omega) (by omega), ouS_o (by omega) (by omega) (by omega)]
    exact h4 p hp

set_option maxHeartbeats 4000000 in
set_option maxRecDepth 100000 in
theorem c_out {g : GT} {T : TT} {Mi : MI} {Ml : ML} {X u nx : Nat} {S : Nat → Nat} {R : Nat → Nat → Nat} (hX : DayS g T X) (hL : BltR Mi (X + 1) S R u nx) (hW : WF S) (p : Int32) : Ct g yX11_out cX11_out 3 (some .int) 5 0 0 [.ref X, .int p] T Mi Ml (Gi T (fun rv Mi' Ml' => rv = (sp_out S p).1 ∧ Ml' = Ml ∧ Fr Mi Mi' (X + 1) (X + 78) ∧ ((sp_out S p).2 = none → Mi' = Mi) ∧ ∀ S', (sp_out S p).2 = some S' → BltR Mi' (X + 1) S' (updR R nx S) (min (u + 1) 8) ((nx + 1) % 8))) := by
  refine Ct.of' (plainFor_of_name (by decide +kernel)) (by exact Nat.le_of_ble_eq_true rfl) ?_
  intro x hg hR h hr hnm hnl
  subst hg
  obtain ⟨x0, ⟨x1, x2⟩, ⟨x3, x4⟩, ⟨x5, x6, x7, x8⟩, ⟨x9, x10, x11, x12, x13, x14⟩, ⟨x15, x16⟩, ⟨x17, x18, x19, x20⟩, ⟨x21, x22, x23, x24⟩, ⟨x25, x26, x27, x28, x29, x30⟩, x31, x32, x33, x34, x35, x36⟩ := id hX
  obtain ⟨z1, z2, z3, z4, z5, z6, z7⟩ := id x2
  obtain ⟨e1, e2, e3⟩ := id z5
  obtain ⟨s1, s2, s3, s4, s5⟩ := id z6
  obtain ⟨h1, h2, h3, h4, h5⟩ := id z7
  obtain ⟨l1, l2, l3⟩ := id hL
  obtain ⟨y0, y1, y2, y3⟩ := id l1
  obtain ⟨v1, v2, v3, v4⟩ := id l2
  obtain ⟨r1, r2, r3, r4, r5, r6⟩ := id l3
  obtain ⟨w0, w1, w2, w3, w4, w5, w6, w7⟩ := id hW
  refine jv_aload_n h dX11_out_0 rfl ?_
  refine jv_iload_n h dX11_out_1 rfl ?_
  refine jv_VRi [_] h dX11_out_2 cw_X11_99 cf_10 (by first | assumption | exact s4 _ (by omega) | exact s5 _ (by omega)) (c_isPerson (by first | assumption | exact s4 _ (by omega) | exact s5 _ (by omega)) (by first | assumption | exact s4 _ (by omega) | exact s5 _ (by omega)) (by first | assumption | exact s4 _ (by omega) | exact s5 _ (by omega)) _) (by decide) rfl rfl (Nat.le_of_ble_eq_true rfl) ⟨Nat.zero_le _, Nat.zero_le _⟩ ?_
  refine jv_bne 10 h dX11_out_5 (by decide) (fun c5 => ?_) (fun c5 => ?_)
  · obtain ⟨i, rfl, -, hi⟩ := isB_t c5
    have hi := hi
    have w7i := w7 i hi
    obtain ⟨q0, q1, q2, q3, q4, q5⟩ := v4 i hi
    have hpl := plN_lt (h := S 2) (c := S (21 + 6 * i) - 1) (s := S 1) (by omega)
    have hsp : sp_out S (nI i) = (if S (21 + 6 * i) = 0 then (-2, none) else (nI (flN (S 2) (plN (S 2) (S (21 + 6 * i) - 1) (S 1))), some (ouS S i))) := by unfold sp_out; rw [if_pos c5, pn_nI (by omega)]
    refine jv_aload_n h dX11_out_10 rfl ?_
    refine jv_gr 0 h dX11_out_11 cf_10 (by decide) gw_280 (by first | assumption | exact s4 _ (by omega) | exact s5 _ (by omega)) (by first | assumption | exact s4 _ (by omega) | exact s5 _ (by omega)) ?_
    refine jv_gr 1 h dX11_out_14 cf_0 (by decide) gw_165 (by first | assumption | exact s4 _ (by omega) | exact s5 _ (by omega)) (by first | assumption | exact s4 _ (by omega) | exact s5 _ (by omega)) ?_
    refine jv_gr 0 h dX11_out_17 cf_5 (by decide) gw_119 (by first | assumption | exact s4 _ (by omega) | exact s5 _ (by omega)) (by first | assumption | exact s4 _ (by omega) | exact s5 _ (by omega)) ?_
    refine jv_iload_n h dX11_out_20 rfl ?_
    refine jv_aald h dX11_out_21 (by first | assumption | exact s4 _ (by omega) | exact s5 _ (by omega)) (by decide) (by repeat (with_reducible first | exact NF_nI _ | assumption | refine NF_add ?_ ?_ | refine NF_mul ?_ ?_)) ⟨by omega, by decide⟩ (by first | assumption | exact s4 _ (by omega) | exact s5 _ (by omega)) ?_
    refine jv_astore_n h dX11_out_22 (lt_nl hnl (by decide)) ?_
    refine jv_aload_n h dX11_out_23 rfl ?_
    refine jv_VRi [] h dX11_out_24 cw_X11_125 cf_4 (by first | assumption | exact s4 _ (by omega) | exact s5 _ (by omega)) (c_rides (by first | assumption | exact s4 _ (by omega) | exact s5 _ (by omega)) (by first | assumption | exact (upd2_ne _ _ (by omega)).trans (by assumption) | exact (upd2_ne _ _ (by omega)).trans ((upd2_ne _ _ (by omega)).trans (by assumption))) (by omega)) (by decide) rfl rfl (Nat.le_of_ble_eq_true rfl) ⟨Nat.zero_le _, Nat.zero_le _⟩ ?_
    refine jv_bne 33 h dX11_out_27 (by decide) (fun c27 => ?_) (fun c27 => ?_)
    · simp at c27
      refine jv_aload_n h dX11_out_33 rfl ?_
      refine jv_gr 0 h dX11_out_34 cf_10 (by decide) gw_280 (by first | assumption | exact s4 _ (by omega) | exact s5 _ (by omega)) (by first | assumption | exact s4 _ (by omega) | exact s5 _ (by omega)) ?_
      refine jv_gr 2 h dX11_out_37 cf_0 (by decide) gw_168 (by first | assumption | exact s4 _ (by omega) | exact s5 _ (by omega)) (by first | assumption | exact s4 _ (by omega) | exact s5 _ (by omega)) ?_
      refine jv_aload_n h dX11_out_40 rfl ?_
      refine jv_gr 0 h dX11_out_41 cf_10 (by decide) gw_280 (by first | assumption | exact s4 _ (by omega) | exact s5 _ (by omega)) (by first | assumption | exact s4 _ (by omega) | exact s5 _ (by omega)) ?_
      refine jv_gr 1 h dX11_out_44 cf_0 (by decide) gw_165 (by first | assumption | exact s4 _ (by omega) | exact s5 _ (by omega)) (by first | assumption | exact s4 _ (by omega) | exact s5 _ (by omega)) ?_
      refine jv_VGv [_] h dX11_out_47 cw_X11_225 cf_3 (by first | assumption | exact s4 _ (by omega) | exact s5 _ (by omega)) (c_push z7 l3 z6 l2 hW (by omega)) (by decide) rfl rfl (Nat.le_of_ble_eq_true rfl) ⟨Nat.zero_le _, Nat.zero_le _⟩ (fun Mi47 Ml47 hp47 => ?_)
      have f1z := hp47.2.1
      have f2z := hp47.2.2
      have hm9 := hp47.1
      subst hm9
      have l2p : ScnR Mi47 (X + 1 + 3) S := l2.fr w0 (fun a h1 h2 => f1z a (by omega))
      have l1p : BlkR Mi47 (X + 1 + 1) S := l1.fr (f1z _ (by omega)) (f1z _ (by omega))
      obtain ⟨Q0, Q1, Q2, Q3, Q4, Q5⟩ := l2p.2.2.2 i hi
      have hc9 : Mi47 (X + 1 + 3 + 2 + i) 4 = nI (S (21 + 6 * i) - 1) := by rw [Q4]; unfold carI; rw [if_neg c27]
      have hd9 : Mi47 (X + 1 + 1 + 1) (S (21 + 6 * i) - 1) = nI (S (6 + (S (21 + 6 * i) - 1))) := l1p.2.2.2 _ (by omega)
      have hs9 : Mi47 (X + 1 + 3) 2 = nI (S 1) := l2p.2.1
      have hh9 : Mi47 (X + 1 + 1) 0 = nI (S 2) := l1p.1
      refine jv_aload_n h dX11_out_50 rfl ?_
      refine jv_aload_n h dX11_out_51 rfl ?_
      refine jv_gr 0 h dX11_out_52 cf_10 (by decide) gw_280 (by first | assumption | exact s4 _ (by omega) | exact s5 _ (by omega)) (by first | assumption | exact s4 _ (by omega) | exact s5 _ (by omega)) ?_
      refine jv_gr 0 h dX11_out_55 cf_0 (by decide) gw_162 (by first | assumption | exact s4 _ (by omega) | exact s5 _ (by omega)) (by first | assumption | exact s4 _ (by omega) | exact s5 _ (by omega)) ?_
      refine jv_aload_n h dX11_out_58 rfl ?_
      refine jv_gr 0 h dX11_out_59 cf_10 (by decide) gw_280 (by first | assumption | exact s4 _ (by omega) | exact s5 _ (by omega)) (by first | assumption | exact s4 _ (by omega) | exact s5 _ (by omega)) ?_
      refine jv_gr 1 h dX11_out_62 cf_0 (by decide) gw_165 (by first | assumption | exact s4 _ (by omega) | exact s5 _ (by omega)) (by first | assumption | exact s4 _ (by omega) | exact s5 _ (by omega)) ?_
      refine jv_gv 2 h dX11_out_65 cf_5 (by decide) gw_127 (by first | assumption | exact s4 _ (by omega) | exact s5 _ (by omega)) (by exact hs9) ?_
      refine jv_VGv [_, _] h dX11_out_68 cw_X11_229 cf_4 (by first | assumption | exact s4 _ (by omega) | exact s5 _ (by omega)) (c_getOut (s4 i (by omega)) z5 hh9 hc9 hd9 (NF_nI _) (by omega) (by omega)) (by decide) rfl rfl (Nat.le_of_ble_eq_true rfl) ⟨Nat.zero_le _, Nat.zero_le _⟩ (fun Mi68 Ml68 hp68 => ?_)
      have hm9 := hp68.1
      subst hm9
      obtain ⟨-, g1, g2, g3, g4, g5, g6, g7⟩ := hp68
      refine jv_aload_n h dX11_out_71 rfl ?_
      refine jv_gv 2 h dX11_out_72 cf_4 (by decide) gw_93 (by first | assumption | exact s4 _ (by omega) | exact s5 _ (by omega)) (by first | assumption | exact (upd2_ne _ _ (by omega)).trans (by assumption) | exact (upd2_ne _ _ (by omega)).trans ((upd2_ne _ _ (by omega)).trans (by assumption))) ?_
      exact jv_iret h hr dX11_out_75 ⟨_, rfl, rfl, by
    rw [hsp, if_neg c27]
    refine ⟨rfl, rfl, Fr.tr (l := X + 1) (h := X + 78) f1z g1 (by omega), (fun z => by cases z), fun S' hS' => ?_⟩
    cases hS'
    exact ⟨(l1p.fr (g1 _ (by omega)) (g1 _ (by omega))).out (by omega), l2p.out g1 g2 g3 g4 g5 g6 g7, f2z.fr (fun a h1 h2 => g1 a (by omega))⟩⟩
    · simp at c27
      refine jv_bipush (-2) h dX11_out_30 (by decide) ?_
      exact jv_iret h hr dX11_out_32 ⟨_, rfl, rfl, by
    have e : sp_out S (nI i) = (-2, none) := (by rw [hsp, if_pos c27])
    rw [e]
    exact ⟨rfl, rfl, Fr.rf _ _ _, fun _ => rfl, fun _ z => by cases z⟩⟩
  · refine jv_iconst (-1) h dX11_out_8 (by decide) ?_
    exact jv_iret h hr dX11_out_9 ⟨_, rfl, rfl, by
    have e : sp_out S p = (-1, none) := (by unfold sp_out; rw [if_neg (by simp_all)])
    rw [e]
    exact ⟨rfl, rfl, Fr.rf _ _ _, fun _ => rfl, fun _ z => by cases z⟩⟩
