theorem ScnR.cg {Mi : MI} {A : Nat} {S S' : Nat → Nat} (h : ScnR Mi A S) (e0 : S' 0 = S 0) (e1 : S' 1 = S 1) (e5 : S' 5 = S 5) (ep : ∀ p, p < S 0 → ∀ t, t < 6 → S' (18 + 6 * p + t) = S (18 + 6 * p + t)) : ScnR Mi A S' := by
  obtain ⟨h1, h2, h3, h4⟩ := h
  refine ⟨by rw [e0]; exact h1, by rw [e1]; exact h2, by rw [e5]; exact h3, fun p hp => ?_⟩
  rw [e0] at hp
  have a0 := ep p hp 0 (by omega)
  have a1 := ep p hp 1 (by omega)
  have a2 := ep p hp 2 (by omega)
  have a3 := ep p hp 3 (by omega)
  have a4 := ep p hp 4 (by omega)
  have a5 := ep p hp 5 (by omega)
  rw [show 18 + 6 * p + 0 = 18 + 6 * p by omega] at a0
  rw [show 18 + 6 * p + 1 = 19 + 6 * p by omega] at a1
  rw [show 18 + 6 * p + 2 = 20 + 6 * p by omega] at a2
  rw [show 18 + 6 * p + 3 = 21 + 6 * p by omega] at a3
  rw [show 18 + 6 * p + 4 = 22 + 6 * p by omega] at a4
  rw [show 18 + 6 * p + 5 = 23 + 6 * p by omega] at a5
  unfold PerR
  rw [a0, a1, a2, a3, a4, a5]
  exact h4 p hp
theorem BlkR.cg {Mi : MI} {B : Nat} {S S' : Nat → Nat} (h : BlkR Mi B S) (e2 : S' 2 = S 2) (e3 : S' 3 = S 3) (e4 : S' 4 = S 4) (ek : ∀ k, k < 2 * S 2 → S' (6 + k) = S (6 + k)) : BlkR Mi B S' := by
  obtain ⟨h1, h2, h3, h4⟩ := h
  refine ⟨by rw [e2]; exact h1, by rw [e3]; exact h2, by rw [e4]; exact h3, fun k hk => ?_⟩
  rw [e2] at hk
  rw [ek k hk]
  exact h4 k hk
theorem unS_o {S V : Nat → Nat} {j : Nat} (h : j ≠ 1 ∧ j ≠ 5 ∧ j < 18) : unS S V j = S j := by unfold unS; rw [if_neg (by omega)]
theorem unS_v {S V : Nat → Nat} {j : Nat} (h : j = 1 ∨ j = 5 ∨ 18 ≤ j) : unS S V j = V j := by unfold unS; rw [if_pos h]

set_option maxHeartbeats 4000000 in
set_option maxRecDepth 100000 in
theorem c_steps {g : GT} {T : TT} {Mi : MI} {Ml : ML} {X nx : Nat} {z : SU} {R : Nat → Nat → Nat} (hX : DayS g T X) (hL : BltR Mi (X + 1) z.1 R z.2.2 nx) (hU : UR R z.2.1 z.2.2 nx) (hZ : WFU z) (k : Int32) : Ct g yX11_steps cX11_steps 3 (some .int) 7 0 0 [.ref X, .int k] T Mi Ml (Gi T (fun rv Mi' Ml' => rv = (sp_steps z k).1 ∧ Ml' = Ml ∧ Fr Mi Mi' (X + 1) (X + 78) ∧ NowC Mi' X (sp_steps z k).2.1 (sp_steps z k).2.2.1 (sp_steps z k).2.2.2)) := by
  refine Ct.of' (plainFor_of_name (by decide +kernel)) (by exact Nat.le_of_ble_eq_true rfl) ?_
  intro x hg hR h hr hnm hnl
  subst hg
  obtain ⟨x0, ⟨x1, x2⟩, ⟨x3, x4⟩, ⟨x5, x6, x7, x8⟩, ⟨x9, x10, x11, x12, x13, x14⟩, ⟨x15, x16⟩, ⟨x17, x18, x19, x20⟩, ⟨x21, x22, x23, x24⟩, ⟨x25, x26, x27, x28, x29, x30⟩, x31, x32, x33, x34, x35, x36⟩ := id hX
  obtain ⟨z1, z2, z3, z4, z5, z6, z7⟩ := id x2
  obtain ⟨e1, e2, e3⟩ := id z5
  obtain ⟨s1, s2, s3, s4, s5⟩ := id z6
  obtain ⟨h1, h2, h3, h4, h5⟩ := id z7
  obtain ⟨l1, l2, l3⟩ := id hL
  obtain ⟨y0, y1, y2, y3⟩ := id l1
  obtain ⟨v1, v2, v3, v4⟩ := id l2
  obtain ⟨r1, r2, r3, r4, r5, r6⟩ := id l3
  have hW := hZ.1
  obtain ⟨w0, w1, w2, w3, w4, w5, w6, w7⟩ := id hW
  refine jv_iload_n h dX11_steps_0 rfl ?_
  refine jv_iconst (nI 1) h dX11_steps_1 (by decide) ?_
  refine jv_bipush (nI 60) h dX11_steps_2 (by decide) ?_
  refine jv_SRi [_, _, _] h dX11_steps_4 cw_X11_68 (c_within (m := 1) (n := 61) _ (by decide) (by decide)) (by decide) rfl rfl (Nat.le_of_ble_eq_true rfl) ⟨Nat.zero_le _, Nat.zero_le _⟩ ?_
  refine jv_bne 12 h dX11_steps_7 (by decide) (fun c7 => ?_) (fun c7 => ?_)
  · obtain ⟨k9, rfl, -, hk9⟩ := isB_t c7
    have hsp : sp_steps z (nI k9) = (if 9999 < z.1 1 + k9 then (-3, z) else (nI (rdN (stT z k9).1), stT z k9)) := by unfold sp_steps; rw [if_pos c7, pn_nI (by omega)]
    refine jv_aload_n h dX11_steps_12 rfl ?_
    refine jv_gr 0 h dX11_steps_13 cf_10 (by decide) gw_280 (by first | assumption | exact s4 _ (by omega) | exact s5 _ (by omega)) (by first | assumption | exact s4 _ (by omega) | exact s5 _ (by omega)) ?_
    refine jv_gr 1 h dX11_steps_16 cf_0 (by decide) gw_165 (by first | assumption | exact s4 _ (by omega) | exact s5 _ (by omega)) (by first | assumption | exact s4 _ (by omega) | exact s5 _ (by omega)) ?_
    refine jv_gv 2 h dX11_steps_19 cf_5 (by decide) gw_127 (by first | assumption | exact s4 _ (by omega) | exact s5 _ (by omega)) (by first | assumption | exact (upd2_ne _ _ (by omega)).trans (by assumption) | exact (upd2_ne _ _ (by omega)).trans ((upd2_ne _ _ (by omega)).trans (by assumption))) ?_
    refine jv_iload_n h dX11_steps_22 rfl ?_
    first | refine jv_iaddN h dX11_steps_23 (by repeat (with_reducible first | exact NF_nI _ | assumption | refine NF_add ?_ ?_ | refine NF_mul ?_ ?_)) (by repeat (with_reducible first | exact NF_nI _ | assumption | refine NF_add ?_ ?_ | refine NF_mul ?_ ?_)) ?_ | refine jv_iadd h dX11_steps_23 ?_
    refine jv_sipush (nI 9999) h dX11_steps_24 (by decide) ?_
    refine jv_nle 33 h dX11_steps_27 (by decide) (by repeat (with_reducible first | exact NF_nI _ | assumption | refine NF_add ?_ ?_ | refine NF_mul ?_ ?_)) (by repeat (with_reducible first | exact NF_nI _ | assumption | refine NF_add ?_ ?_ | refine NF_mul ?_ ?_)) ⟨by omega, by omega⟩ (fun c27 => ?_) (fun c27 => ?_)
    · refine jv_iconst (nI 0) h dX11_steps_33 (by decide) ?_
      refine jv_istore_n h dX11_steps_34 (lt_nl hnl (by decide)) ?_
      have hl35 : ∀ (n : Nat) (i : Nat) (M1 : MI), k9 - i < n → i ≤ k9 → Fr Mi M1 (X + 1) (X + 78) → NowC M1 X (stT z i).1 (stT z i).2.1 (stT z i).2.2 → V x 0 0 T M1 Ml 35 [some (.ref X), some (.int (nI k9)), some (.int (nI i))] [] := by
        intro n
        induction n with
        | zero => intro i M1 hN9 hi f1 f2; exact absurd hN9 (by omega)
        | succ n ih =>
          intro i M1 hN9 hi f1 f2
          refine jv_iload_n h dX11_steps_35 rfl ?_
          refine jv_iload_n h dX11_steps_36 rfl ?_
          refine jv_nge 53 h dX11_steps_37 (by decide) (by repeat (with_reducible first | exact NF_nI _ | assumption | refine NF_add ?_ ?_ | refine NF_mul ?_ ?_)) (by repeat (with_reducible first | exact NF_nI _ | assumption | refine NF_add ?_ ?_ | refine NF_mul ?_ ?_)) ⟨by omega, by omega⟩ (fun c37 => ?_) (fun c37 => ?_)
          · obtain ⟨R1, nx1, b1, u1⟩ := f2
            obtain ⟨hz1, hz2⟩ := stT_WF hZ i (by omega)
            have hie : i = k9 := by omega
            subst hie
            refine jv_aload_n h dX11_steps_53 rfl ?_
            refine jv_gr 0 h dX11_steps_54 cf_10 (by decide) gw_280 (by first | assumption | exact s4 _ (by omega) | exact s5 _ (by omega)) (by first | assumption | exact s4 _ (by omega) | exact s5 _ (by omega)) ?_
            refine jv_gr 1 h dX11_steps_57 cf_0 (by decide) gw_165 (by first | assumption | exact s4 _ (by omega) | exact s5 _ (by omega)) (by first | assumption | exact s4 _ (by omega) | exact s5 _ (by omega)) ?_
            refine jv_VRi [] h dX11_steps_60 cw_X11_202 cf_5 (by first | assumption | exact s4 _ (by omega) | exact s5 _ (by omega)) (c_allRiders z6 b1.2.1 hz1.1) (by decide) rfl rfl (Nat.le_of_ble_eq_true rfl) ⟨Nat.zero_le _, Nat.zero_le _⟩ ?_
            exact jv_iret h hr dX11_steps_63 ⟨_, rfl, rfl, by
    rw [hsp, if_neg (by omega)]
    exact ⟨rfl, rfl, f1, R1, nx1, b1, u1⟩⟩
          · obtain ⟨R1, nx1, b1, u1⟩ := f2
            obtain ⟨hz1, hz2⟩ := stT_WF hZ i (by omega)
            refine jv_aload_n h dX11_steps_40 rfl ?_
            refine jv_gr 0 h dX11_steps_41 cf_10 (by decide) gw_280 (by first | assumption | exact s4 _ (by omega) | exact s5 _ (by omega)) (by first | assumption | exact s4 _ (by omega) | exact s5 _ (by omega)) ?_
            refine jv_VGv [] h dX11_steps_44 cw_X11_233 cf_0 (by first | assumption | exact s4 _ (by omega) | exact s5 _ (by omega)) (c_bstep x2 b1 hz1.1) (by decide) rfl rfl (Nat.le_of_ble_eq_true rfl) ⟨Nat.zero_le _, Nat.zero_le _⟩ (fun Mi44 Ml44 hp44 => ?_)
            refine jv_iinc (nI (i + 1)) h dX11_steps_47 rfl (lt_nl hnl (by decide)) (nI_inc i) ?_
            refine jv_goto 35 h dX11_steps_50 (by decide) ?_
            have hm9 := hp44.1
            subst hm9
            exact ih (i + 1) _ (by omega) (by omega) (Fr.tr (l := X + 1) (h := X + 78) f1 hp44.2.1 (by omega)) (NowC.put hp44.2.2 u1 hz1.2.1 b1.2.2.2.2.2.1)
      exact hl35 (k9 + 1) 0 _ (by omega) (by omega) (Fr.rf _ _ _) ⟨R, nx, hL, hU⟩
    · refine jv_bipush (-3) h dX11_steps_30 (by decide) ?_
      exact jv_iret h hr dX11_steps_32 ⟨_, rfl, rfl, by
    have e : sp_steps z (nI k9) = (-3, z) := (by rw [hsp, if_pos (by omega)])
    rw [e]
    exact ⟨rfl, rfl, Fr.rf _ _ _, R, nx, hL, hU⟩⟩
  · refine jv_iconst (-1) h dX11_steps_10 (by decide) ?_
    exact jv_iret h hr dX11_steps_11 ⟨_, rfl, rfl, by
    have e : sp_steps z k = (-1, z) := (by unfold sp_steps; rw [if_neg (by simp [c7])])
    rw [e]
    exact ⟨rfl, rfl, Fr.rf _ _ _, R, nx, hL, hU⟩⟩
set_option maxHeartbeats 4000000 in
set_option maxRecDepth 100000 in
theorem c_drift {g : GT} {T : TT} {Mi : MI} {Ml : ML} {X nx : Nat} {z : SU} {R : Nat → Nat → Nat} (hX : DayS g T X) (hL : BltR Mi (X + 1) z.1 R z.2.2 nx) (hU : UR R z.2.1 z.2.2 nx) (hZ : WFU z) (k : Int32) : Ct g yX11_drift cX11_drift 4 (some .int) 7 0 0 [.ref X, .int k] T Mi Ml (Gi T (fun rv Mi' Ml' => rv = (sp_drift z k).1 ∧ Ml' = Ml ∧ Fr Mi Mi' (X + 1) (X + 78) ∧ NowC Mi' X (sp_drift z k).2.1 (sp_drift z k).2.2.1 (sp_drift z k).2.2.2)) := by
  refine Ct.of' (plainFor_of_name (by decide +kernel)) (by exact Nat.le_of_ble_eq_true rfl) ?_
  intro x hg hR h hr hnm hnl
  subst hg
  obtain ⟨x0, ⟨x1, x2⟩, ⟨x3, x4⟩, ⟨x5, x6, x7, x8⟩, ⟨x9, x10, x11, x12, x13, x14⟩, ⟨x15, x16⟩, ⟨x17, x18, x19, x20⟩, ⟨x21, x22, x23, x24⟩, ⟨x25, x26, x27, x28, x29, x30⟩, x31, x32, x33, x34, x35, x36⟩ := id hX
  obtain ⟨z1, z2, z3, z4, z5, z6, z7⟩ := id x2
  obtain ⟨e1, e2, e3⟩ := id z5
  obtain ⟨s1, s2, s3, s4, s5⟩ := id z6
  obtain ⟨h1, h2, h3, h4, h5⟩ := id z7
  obtain ⟨l1, l2, l3⟩ := id hL
  obtain ⟨y0, y1, y2, y3⟩ := id l1
  obtain ⟨v1, v2, v3, v4⟩ := id l2
  obtain ⟨r1, r2, r3, r4, r5, r6⟩ := id l3
  have hW := hZ.1
  obtain ⟨w0, w1, w2, w3, w4, w5, w6, w7⟩ := id hW
  refine jv_iload_n h dX11_drift_0 rfl ?_
  refine jv_iconst (nI 1) h dX11_drift_1 (by decide) ?_
  refine jv_bipush (nI 60) h dX11_drift_2 (by decide) ?_
  refine jv_SRi [_, _, _] h dX11_drift_4 cw_X11_68 (c_within (m := 1) (n := 61) _ (by decide) (by decide)) (by decide) rfl rfl (Nat.le_of_ble_eq_true rfl) ⟨Nat.zero_le _, Nat.zero_le _⟩ ?_
  refine jv_bne 12 h dX11_drift_7 (by decide) (fun c7 => ?_) (fun c7 => ?_)
  · obtain ⟨k9, rfl, -, hk9⟩ := isB_t c7
    have hsp : sp_drift z (nI k9) = (if 9999 < z.1 1 + k9 then (-3, z) else (nI (drC z k9), drT z k9)) := by unfold sp_drift; rw [if_pos c7, pn_nI (by omega)]
    refine jv_aload_n h dX11_drift_12 rfl ?_
    refine jv_gr 0 h dX11_drift_13 cf_10 (by decide) gw_280 (by first | assumption | exact s4 _ (by omega) | exact s5 _ (by omega)) (by first | assumption | exact s4 _ (by omega) | exact s5 _ (by omega)) ?_
    refine jv_gr 1 h dX11_drift_16 cf_0 (by decide) gw_165 (by first | assumption | exact s4 _ (by omega) | exact s5 _ (by omega)) (by first | assumption | exact s4 _ (by omega) | exact s5 _ (by omega)) ?_
    refine jv_gv 2 h dX11_drift_19 cf_5 (by decide) gw_127 (by first | assumption | exact s4 _ (by omega) | exact s5 _ (by omega)) (by first | assumption | exact (upd2_ne _ _ (by omega)).trans (by assumption) | exact (upd2_ne _ _ (by omega)).trans ((upd2_ne _ _ (by omega)).trans (by assumption))) ?_
    refine jv_iload_n h dX11_drift_22 rfl ?_
    first | refine jv_iaddN h dX11_drift_23 (by repeat (with_reducible first | exact NF_nI _ | assumption | refine NF_add ?_ ?_ | refine NF_mul ?_ ?_)) (by repeat (with_reducible first | exact NF_nI _ | assumption | refine NF_add ?_ ?_ | refine NF_mul ?_ ?_)) ?_ | refine jv_iadd h dX11_drift_23 ?_
    refine jv_sipush (nI 9999) h dX11_drift_24 (by decide) ?_
    refine jv_nle 33 h dX11_drift_27 (by decide) (by repeat (with_reducible first | exact NF_nI _ | assumption | refine NF_add ?_ ?_ | refine NF_mul ?_ ?_)) (by repeat (with_reducible first | exact NF_nI _ | assumption | refine NF_add ?_ ?_ | refine NF_mul ?_ ?_)) ⟨by omega, by omega⟩ (fun c27 => ?_) (fun c27 => ?_)
    · refine jv_iconst (nI 0) h dX11_drift_33 (by decide) ?_
      refine jv_istore_n h dX11_drift_34 (lt_nl hnl (by decide)) ?_
      refine jv_iconst (nI 0) h dX11_drift_35 (by decide) ?_
      refine jv_istore_n h dX11_drift_36 (lt_nl hnl (by decide)) ?_
      have hl37 : ∀ (n : Nat) (i : Nat) (M1 : MI), k9 - i < n → i ≤ k9 → Fr Mi M1 (X + 1) (X + 78) → NowC M1 X (drT z i).1 (drT z i).2.1 (drT z i).2.2 → V x 0 0 T M1 Ml 37 [some (.ref X), some (.int (nI k9)), some (.int (nI (drC z i))), some (.int (nI i))] [] := by
        intro n
        induction n with
        | zero => intro i M1 hN9 hi f1 f2; exact absurd hN9 (by omega)
        | succ n ih =>
          intro i M1 hN9 hi f1 f2
          refine jv_iload_n h dX11_drift_37 rfl ?_
          refine jv_iload_n h dX11_drift_38 rfl ?_
          refine jv_nge 61 h dX11_drift_39 (by decide) (by repeat (with_reducible first | exact NF_nI _ | assumption | refine NF_add ?_ ?_ | refine NF_mul ?_ ?_)) (by repeat (with_reducible first | exact NF_nI _ | assumption | refine NF_add ?_ ?_ | refine NF_mul ?_ ?_)) ⟨by omega, by omega⟩ (fun c39 => ?_) (fun c39 => ?_)
          · have hie : i = k9 := by omega
            subst hie
            refine jv_iload_n h dX11_drift_61 rfl ?_
            exact jv_iret h hr dX11_drift_62 ⟨_, rfl, rfl, by
    rw [hsp, if_neg (by omega)]
    exact ⟨rfl, rfl, f1, f2⟩⟩
          · obtain ⟨R1, nx1, b1, u1⟩ := f2
            obtain ⟨hz1, hz2⟩ := drT_WF hZ i (by omega)
            refine jv_aload_n h dX11_drift_42 rfl ?_
            refine jv_gr 0 h dX11_drift_43 cf_10 (by decide) gw_280 (by first | assumption | exact s4 _ (by omega) | exact s5 _ (by omega)) (by first | assumption | exact s4 _ (by omega) | exact s5 _ (by omega)) ?_
            refine jv_VGi [] h dX11_drift_46 cw_X11_236 cf_0 (by first | assumption | exact s4 _ (by omega) | exact s5 _ (by omega)) (c_byDraw x2 b1 hz1.1) (by decide) rfl rfl (Nat.le_of_ble_eq_true rfl) ⟨Nat.zero_le _, Nat.zero_le _⟩ (fun v_46 Mi46 Ml46 hp46 => ?_)
            have hm9 := hp46.2.1
            subst hm9
            obtain ⟨hv9, -, hf9, hb9⟩ := hp46
            subst hv9
            refine jv_bne 55 h dX11_drift_49 (by decide) (fun c49 => ?_) (fun c49 => ?_)
            · refine jv_iinc (nI (i + 1)) h dX11_drift_55 rfl (lt_nl hnl (by decide)) (nI_inc i) ?_
              refine jv_goto 37 h dX11_drift_58 (by decide) ?_
              have key := ih (i + 1) _ (by omega) (by omega) (Fr.tr (l := X + 1) (h := X + 78) f1 hf9 (by omega)) (NowC.put hb9 u1 hz1.2.1 b1.2.2.2.2.2.1)
              have e : drC z (i + 1) = drC z i + (if stB (drT z i).1 = true then 1 else 0) := rfl
              first
              | (rw [if_pos (by simpa using c49)] at e; rw [e] at key; exact key)
              | (rw [if_neg (by simpa using c49)] at e; rw [Nat.add_zero] at e; rw [e] at key; exact key)
            · refine jv_iinc (nI (drC z i + 1)) h dX11_drift_52 rfl (lt_nl hnl (by decide)) (nI_inc _) ?_
              refine jv_iinc (nI (i + 1)) h dX11_drift_55 rfl (lt_nl hnl (by decide)) (nI_inc i) ?_
              refine jv_goto 37 h dX11_drift_58 (by decide) ?_
              have key := ih (i + 1) _ (by omega) (by omega) (Fr.tr (l := X + 1) (h := X + 78) f1 hf9 (by omega)) (NowC.put hb9 u1 hz1.2.1 b1.2.2.2.2.2.1)
              have e : drC z (i + 1) = drC z i + (if stB (drT z i).1 = true then 1 else 0) := rfl
              first
              | (rw [if_pos (by simpa using c49)] at e; rw [e] at key; exact key)
              | (rw [if_neg (by simpa using c49)] at e; rw [Nat.add_zero] at e; rw [e] at key; exact key)
      exact hl37 (k9 + 1) 0 _ (by omega) (by omega) (Fr.rf _ _ _) ⟨R, nx, hL, hU⟩
    · refine jv_bipush (-3) h dX11_drift_30 (by decide) ?_
      exact jv_iret h hr dX11_drift_32 ⟨_, rfl, rfl, by
    have e : sp_drift z (nI k9) = (-3, z) := (by rw [hsp, if_pos (by omega)])
    rw [e]
    exact ⟨rfl, rfl, Fr.rf _ _ _, R, nx, hL, hU⟩⟩
  · refine jv_iconst (-1) h dX11_drift_10 (by decide) ?_
    exact jv_iret h hr dX11_drift_11 ⟨_, rfl, rfl, by
    have e : sp_drift z k = (-1, z) := (by unfold sp_drift; rw [if_neg (by simp [c7])])
    rw [e]
    exact ⟨rfl, rfl, Fr.rf _ _ _, R, nx, hL, hU⟩⟩
set_option maxHeartbeats 4000000 in
set_option maxRecDepth 100000 in
theorem c_undo {g : GT} {T : TT} {Mi : MI} {Ml : ML} {X nx : Nat} {z : SU} {R : Nat → Nat → Nat} (hX : DayS g T X) (hL : BltR Mi (X + 1) z.1 R z.2.2 nx) (hU : UR R z.2.1 z.2.2 nx) (hZ : WFU z)  : Ct g yX11_undo cX11_undo 1 (some .int) 5 0 0 [.ref X] T Mi Ml (Gi T (fun rv Mi' Ml' => rv = (sp_undo z).1 ∧ Ml' = Ml ∧ Fr Mi Mi' (X + 1) (X + 78) ∧ NowC Mi' X (sp_undo z).2.1 (sp_undo z).2.2.1 (sp_undo z).2.2.2)) := by
  refine Ct.of' (plainFor_of_name (by decide +kernel)) (by exact Nat.le_of_ble_eq_true rfl) ?_
  intro x hg hR h hr hnm hnl
  subst hg
  obtain ⟨x0, ⟨x1, x2⟩, ⟨x3, x4⟩, ⟨x5, x6, x7, x8⟩, ⟨x9, x10, x11, x12, x13, x14⟩, ⟨x15, x16⟩, ⟨x17, x18, x19, x20⟩, ⟨x21, x22, x23, x24⟩, ⟨x25, x26, x27, x28, x29, x30⟩, x31, x32, x33, x34, x35, x36⟩ := id hX
  obtain ⟨z1, z2, z3, z4, z5, z6, z7⟩ := id x2
  obtain ⟨e1, e2, e3⟩ := id z5
  obtain ⟨s1, s2, s3, s4, s5⟩ := id z6
  obtain ⟨h1, h2, h3, h4, h5⟩ := id z7
  obtain ⟨l1, l2, l3⟩ := id hL
  obtain ⟨y0, y1, y2, y3⟩ := id l1
  obtain ⟨v1, v2, v3, v4⟩ := id l2
  obtain ⟨r1, r2, r3, r4, r5, r6⟩ := id l3
  have hW := hZ.1
  obtain ⟨w0, w1, w2, w3, w4, w5, w6, w7⟩ := id hW
  refine jv_aload_n h dX11_undo_0 rfl ?_
  refine jv_gr 0 h dX11_undo_1 cf_10 (by decide) gw_280 (by first | assumption | exact s4 _ (by omega) | exact s5 _ (by omega)) (by first | assumption | exact s4 _ (by omega) | exact s5 _ (by omega)) ?_
  refine jv_gr 2 h dX11_undo_4 cf_0 (by decide) gw_168 (by first | assumption | exact s4 _ (by omega) | exact s5 _ (by omega)) (by first | assumption | exact s4 _ (by omega) | exact s5 _ (by omega)) ?_
  refine jv_gv 2 h dX11_undo_7 cf_3 (by decide) gw_153 (by first | assumption | exact s4 _ (by omega) | exact s5 _ (by omega)) (by first | assumption | exact (upd2_ne _ _ (by omega)).trans (by assumption) | exact (upd2_ne _ _ (by omega)).trans ((upd2_ne _ _ (by omega)).trans (by assumption))) ?_
  refine jv_zne 16 h dX11_undo_10 (by decide) (by repeat (with_reducible first | exact NF_nI _ | assumption | refine NF_add ?_ ?_ | refine NF_mul ?_ ?_)) (by omega) (fun c10 => ?_) (fun c10 => ?_)
  · refine jv_aload_n h dX11_undo_16 rfl ?_
    refine jv_gr 0 h dX11_undo_17 cf_10 (by decide) gw_280 (by first | assumption | exact s4 _ (by omega) | exact s5 _ (by omega)) (by first | assumption | exact s4 _ (by omega) | exact s5 _ (by omega)) ?_
    refine jv_gr 2 h dX11_undo_20 cf_0 (by decide) gw_168 (by first | assumption | exact s4 _ (by omega) | exact s5 _ (by omega)) (by first | assumption | exact s4 _ (by omega) | exact s5 _ (by omega)) ?_
    refine jv_aload_n h dX11_undo_23 rfl ?_
    refine jv_gr 0 h dX11_undo_24 cf_10 (by decide) gw_280 (by first | assumption | exact s4 _ (by omega) | exact s5 _ (by omega)) (by first | assumption | exact s4 _ (by omega) | exact s5 _ (by omega)) ?_
    refine jv_gr 1 h dX11_undo_27 cf_0 (by decide) gw_165 (by first | assumption | exact s4 _ (by omega) | exact s5 _ (by omega)) (by first | assumption | exact s4 _ (by omega) | exact s5 _ (by omega)) ?_
    refine jv_VGv [_] h dX11_undo_30 cw_X11_239 cf_3 (by first | assumption | exact s4 _ (by omega) | exact s5 _ (by omega)) (c_pop z7 l3 z6 (by omega) (by omega)) (by decide) rfl rfl (Nat.le_of_ble_eq_true rfl) ⟨Nat.zero_le _, Nat.zero_le _⟩ (fun Mi30 Ml30 hp30 => ?_)
    have hm9 := hp30.1
    subst hm9
    obtain ⟨-, g1, g2, g3⟩ := hp30
    refine jv_aload_n h dX11_undo_33 rfl ?_
    refine jv_gr 0 h dX11_undo_34 cf_10 (by decide) gw_280 (by first | assumption | exact s4 _ (by omega) | exact s5 _ (by omega)) (by first | assumption | exact s4 _ (by omega) | exact s5 _ (by omega)) ?_
    refine jv_gr 2 h dX11_undo_37 cf_0 (by decide) gw_168 (by first | assumption | exact s4 _ (by omega) | exact s5 _ (by omega)) (by first | assumption | exact s4 _ (by omega) | exact s5 _ (by omega)) ?_
    refine jv_gv 2 h dX11_undo_40 cf_3 (by decide) gw_153 (by first | assumption | exact s4 _ (by omega) | exact s5 _ (by omega)) (by exact g2.2.1) ?_
    exact jv_iret h hr dX11_undo_43 ⟨_, rfl, rfl, by
    have hsp : sp_undo z = (nI (z.2.2 - 1), (unS z.1 (z.2.1 (z.2.2 - 1)), z.2.1, z.2.2 - 1)) := by unfold sp_undo; rw [if_neg c10]
    rw [hsp]
    dsimp only
    have hrg := (rg_pop r3 r4 (show 0 < z.2.2 by omega) (show z.2.2 - 1 < z.2.2 by omega)).2
    have hUU : ∀ k, k < 54 → z.2.1 (z.2.2 - 1) k = R ((nx + 7) % 8) k := fun k hk => by rw [hU (z.2.2 - 1) (by omega) k hk, hrg]
    obtain ⟨wU, wU0, wU2⟩ := hZ.2.2 (z.2.2 - 1) (by omega)
    have h06 := wU.1
    refine ⟨rfl, rfl, fun a ha => g1 a (by omega) (by omega), R, (nx + 7) % 8, ⟨?_, ?_, g2⟩, hU.pop r3 r4 (by omega)⟩
    · exact (l1.fr (g1 _ (by omega) (by omega)) (g1 _ (by omega) (by omega))).cg (unS_o (by omega)) (unS_o (by omega)) (unS_o (by omega)) (fun k hk => unS_o (by omega))
    · refine g3.cg ?_ ?_ ?_ (fun p hp t ht => ?_)
      · rw [unS_o (by omega), ← wU0, hUU 0 (by omega)]
      · rw [unS_v (by omega), hUU 1 (by omega)]
      · rw [unS_v (by omega), hUU 5 (by omega)]
      · rw [← hUU 0 (by omega)] at hp
        rw [unS_v (by omega), hUU _ (by omega)]⟩
  · refine jv_bipush (-4) h dX11_undo_13 (by decide) ?_
    exact jv_iret h hr dX11_undo_15 ⟨_, rfl, rfl, by
    have e : sp_undo z = (-4, z) := (by unfold sp_undo; rw [if_pos c10])
    rw [e]
    exact ⟨rfl, rfl, Fr.rf _ _ _, R, nx, hL, hU⟩⟩
set_option maxHeartbeats 4000000 in
set_option maxRecDepth 100000 in
theorem c_image {g : GT} {T : TT} {Mi : MI} {Ml : ML} {X u nx : Nat} {S : Nat → Nat} {R : Nat → Nat → Nat} (hX : DayS g T X) (hL : BltR Mi (X + 1) S R u nx) (hW : WF S)  : Ct g yX11_image cX11_image 1 (some .int) 6 0 0 [.ref X] T Mi Ml (Gi T (fun rv Mi' Ml' => rv = nI 1 ∧ Ml' = Ml ∧ (∀ a, a ≠ X → (a < X + 78 ∨ X + 155 ≤ a) → Mi' a = Mi a) ∧ Mi' X 2 = bI true ∧ BltR Mi' (X + 78) S R u nx)) := by
  refine Ct.of' (plainFor_of_name (by decide +kernel)) (by exact Nat.le_of_ble_eq_true rfl) ?_
  intro x hg hR h hr hnm hnl
  subst hg
  obtain ⟨x0, ⟨x1, x2⟩, ⟨x3, x4⟩, ⟨x5, x6, x7, x8⟩, ⟨x9, x10, x11, x12, x13, x14⟩, ⟨x15, x16⟩, ⟨x17, x18, x19, x20⟩, ⟨x21, x22, x23, x24⟩, ⟨x25, x26, x27, x28, x29, x30⟩, x31, x32, x33, x34, x35, x36⟩ := id hX
  obtain ⟨z1, z2, z3, z4, z5, z6, z7⟩ := id x2
  obtain ⟨e1, e2, e3⟩ := id z5
  obtain ⟨s1, s2, s3, s4, s5⟩ := id z6
  obtain ⟨h1, h2, h3, h4, h5⟩ := id z7
  obtain ⟨l1, l2, l3⟩ := id hL
  obtain ⟨y0, y1, y2, y3⟩ := id l1
  obtain ⟨v1, v2, v3, v4⟩ := id l2
  obtain ⟨r1, r2, r3, r4, r5, r6⟩ := id l3
  obtain ⟨w0, w1, w2, w3, w4, w5, w6, w7⟩ := id hW
  refine jv_aload_n h dX11_image_0 rfl ?_
  refine jv_gr 1 h dX11_image_1 cf_10 (by decide) gw_281 (by first | assumption | exact s4 _ (by omega) | exact s5 _ (by omega)) (by first | assumption | exact s4 _ (by omega) | exact s5 _ (by omega)) ?_
  refine jv_aload_n h dX11_image_4 rfl ?_
  refine jv_gr 0 h dX11_image_5 cf_10 (by decide) gw_280 (by first | assumption | exact s4 _ (by omega) | exact s5 _ (by omega)) (by first | assumption | exact s4 _ (by omega) | exact s5 _ (by omega)) ?_
  refine jv_VGv [_] h dX11_image_8 cw_X11_283 cf_0 (by exact x4.1) (c_bltake x4 x2 hL hW (by omega)) (by decide) rfl rfl (Nat.le_of_ble_eq_true rfl) ⟨Nat.zero_le _, Nat.zero_le _⟩ (fun Mi8 Ml8 hp8 => ?_)
  refine jv_aload_n h dX11_image_11 rfl ?_
  refine jv_iconst (nI 1) h dX11_image_12 (by decide) ?_
  refine jv_pi 2 h dX11_image_13 cf_10 (by decide) gw_282 (by first | assumption | exact s4 _ (by omega) | exact s5 _ (by omega)) rfl rfl rfl ?_
  refine jv_iconst (nI 1) h dX11_image_16 (by decide) ?_
  exact jv_iret h hr dX11_image_17 ⟨_, rfl, rfl, by
    obtain ⟨rfl, f1, f2⟩ := hp8
    exact ⟨rfl, rfl, fun a h1 h2 => by rw [upd2_row _ _ h1, f1 a (by omega)], by rw [upd2_same]; rfl, f2.fr w0 (fun a h1 h2 => upd2_row _ _ (by omega))⟩⟩
set_option maxHeartbeats 4000000 in
set_option maxRecDepth 100000 in
theorem c_restore {g : GT} {T : TT} {Mi : MI} {Ml : ML} {X ku knx : Nat} {ik : Bool} {kS : Nat → Nat} {kR : Nat → Nat → Nat} (hX : DayS g T X) (hi : Mi X 2 = bI ik) (hL : ik = true → BltR Mi (X + 78) kS kR ku knx ∧ WF kS) : Ct g yX11_restore cX11_restore 1 (some .int) 6 0 0 [.ref X] T Mi Ml (Gi T (fun rv Mi' Ml' => Ml' = Ml ∧ (ik = false → rv = -4 ∧ Mi' = Mi) ∧ (ik = true → rv = nI 1 ∧ Fr Mi Mi' (X + 1) (X + 78) ∧ BltR Mi' (X + 1) kS kR ku knx))) := by
  refine Ct.of' (plainFor_of_name (by decide +kernel)) (by exact Nat.le_of_ble_eq_true rfl) ?_
  intro x hg hR h hr hnm hnl
  subst hg
  obtain ⟨x0, ⟨x1, x2⟩, ⟨x3, x4⟩, ⟨x5, x6, x7, x8⟩, ⟨x9, x10, x11, x12, x13, x14⟩, ⟨x15, x16⟩, ⟨x17, x18, x19, x20⟩, ⟨x21, x22, x23, x24⟩, ⟨x25, x26, x27, x28, x29, x30⟩, x31, x32, x33, x34, x35, x36⟩ := id hX
  refine jv_aload_n h dX11_restore_0 rfl ?_
  refine jv_gv 2 h dX11_restore_1 cf_10 (by decide) gw_282 (by assumption) (by assumption) ?_
  refine jv_bne 10 h dX11_restore_4 (by decide) (fun c4 => ?_) (fun c4 => ?_)
  · obtain ⟨hL1, hL2⟩ := hL c4
    refine jv_aload_n h dX11_restore_10 rfl ?_
    refine jv_gr 0 h dX11_restore_11 cf_10 (by decide) gw_280 (by assumption) (by assumption) ?_
    refine jv_aload_n h dX11_restore_14 rfl ?_
    refine jv_gr 1 h dX11_restore_15 cf_10 (by decide) gw_281 (by assumption) (by assumption) ?_
    refine jv_VGv [_] h dX11_restore_18 cw_X11_283 cf_0 (by exact x2.1) (c_bltake x2 x4 hL1 hL2 (by omega)) (by decide) rfl rfl (Nat.le_of_ble_eq_true rfl) ⟨Nat.zero_le _, Nat.zero_le _⟩ (fun Mi18 Ml18 hp18 => ?_)
    refine jv_iconst (nI 1) h dX11_restore_21 (by decide) ?_
    exact jv_iret h hr dX11_restore_22 ⟨_, rfl, rfl, by
    obtain ⟨rfl, f1, f2⟩ := hp18
    exact ⟨rfl, (fun q => by rw [c4] at q; cases q), fun _ => ⟨rfl, f1, f2⟩⟩⟩
  · refine jv_bipush (-4) h dX11_restore_7 (by decide) ?_
    exact jv_iret h hr dX11_restore_9 ⟨_, rfl, rfl, rfl, (fun _ => ⟨rfl, rfl⟩), fun q => by rw [c4] at q; cases q⟩
set_option maxHeartbeats 4000000 in
set_option maxRecDepth 100000 in
theorem c_person {g : GT} {T : TT} {Mi : MI} {Ml : ML} {X u nx : Nat} {S : Nat → Nat} {R : Nat → Nat → Nat} (hX : DayS g T X) (hL : BltR Mi (X + 1) S R u nx) (hW : WF S) (k w f d : Int32) : Ct g yX11_person cX11_person 5 (some .int) 3 0 0 [.ref X, .int k, .int w, .int f, .int d] T Mi Ml (Gi T (fun rv Mi' Ml' => rv = (sp_person S k w f d).1 ∧ Ml' = Ml ∧ Fr Mi Mi' (X + 1) (X + 78) ∧ ((sp_person S k w f d).2 = none → Mi' = Mi) ∧ ∀ S', (sp_person S k w f d).2 = some S' → BltR Mi' (X + 1) S' R 0 nx)) := by
  refine Ct.of' (plainFor_of_name (by decide +kernel)) (by exact Nat.le_of_ble_eq_true rfl) ?_
  intro x hg hR h hr hnm hnl
  subst hg
  obtain ⟨x0, ⟨x1, x2⟩, ⟨x3, x4⟩, ⟨x5, x6, x7, x8⟩, ⟨x9, x10, x11, x12, x13, x14⟩, ⟨x15, x16⟩, ⟨x17, x18, x19, x20⟩, ⟨x21, x22, x23, x24⟩, ⟨x25, x26, x27, x28, x29, x30⟩, x31, x32, x33, x34, x35, x36⟩ := id hX
  obtain ⟨z1, z2, z3, z4, z5, z6, z7⟩ := id x2
  obtain ⟨e1, e2, e3⟩ := id z5
  obtain ⟨s1, s2, s3, s4, s5⟩ := id z6
  obtain ⟨h1, h2, h3, h4, h5⟩ := id z7
  obtain ⟨l1, l2, l3⟩ := id hL
  obtain ⟨y0, y1, y2, y3⟩ := id l1
  obtain ⟨v1, v2, v3, v4⟩ := id l2
  obtain ⟨r1, r2, r3, r4, r5, r6⟩ := id l3
  obtain ⟨w0, w1, w2, w3, w4, w5, w6, w7⟩ := id hW
  refine jv_iload_n h dX11_person_0 rfl ?_
  refine jv_iconst (nI 0) h dX11_person_1 (by decide) ?_
  refine jv_kinds h dX11_person_2 gw_315 ?_
  refine jv_klen h dX11_person_5 ?_
  refine jv_iconst (nI 1) h dX11_person_6 (by decide) ?_
  first | refine jv_isubN h dX11_person_7 (by repeat (with_reducible first | exact NF_nI _ | assumption | refine NF_add ?_ ?_ | refine NF_mul ?_ ?_)) (by repeat (with_reducible first | exact NF_nI _ | assumption | refine NF_add ?_ ?_ | refine NF_mul ?_ ?_)) (by omega) ?_ | refine jv_isub h dX11_person_7 ?_
  refine jv_SRi [_, _, _] h dX11_person_8 cw_X11_68 (c_within (m := 0) (n := 5) _ (by decide) (by decide)) (by decide) rfl rfl (Nat.le_of_ble_eq_true rfl) ⟨Nat.zero_le _, Nat.zero_le _⟩ ?_
  refine jv_beq 40 h dX11_person_11 (by decide) (fun c11 => ?_) (fun c11 => ?_)
  · refine jv_iconst (-1) h dX11_person_40 (by decide) ?_
    exact jv_iret h hr dX11_person_41 ⟨_, rfl, rfl, by
    have e : sp_person S k w f d = (-1, none) := (by unfold sp_person; rw [if_neg (by simp_all)])
    rw [e]
    exact ⟨rfl, rfl, Fr.rf _ _ _, fun _ => rfl, fun _ z => by cases z⟩⟩
  · refine jv_iload_n h dX11_person_14 rfl ?_
    refine jv_iconst (nI 1) h dX11_person_15 (by decide) ?_
    refine jv_bipush (nI 9) h dX11_person_16 (by decide) ?_
    refine jv_SRi [_, _, _] h dX11_person_18 cw_X11_68 (c_within (m := 1) (n := 10) _ (by decide) (by decide)) (by decide) rfl rfl (Nat.le_of_ble_eq_true rfl) ⟨Nat.zero_le _, Nat.zero_le _⟩ ?_
    refine jv_beq 40 h dX11_person_21 (by decide) (fun c21 => ?_) (fun c21 => ?_)
    · refine jv_iconst (-1) h dX11_person_40 (by decide) ?_
      exact jv_iret h hr dX11_person_41 ⟨_, rfl, rfl, by
    have e : sp_person S k w f d = (-1, none) := (by unfold sp_person; rw [if_neg (by simp_all)])
    rw [e]
    exact ⟨rfl, rfl, Fr.rf _ _ _, fun _ => rfl, fun _ z => by cases z⟩⟩
    · refine jv_aload_n h dX11_person_24 rfl ?_
      refine jv_iload_n h dX11_person_25 rfl ?_
      refine jv_VRi [_] h dX11_person_26 cw_X11_72 cf_10 (by first | assumption | exact s4 _ (by omega) | exact s5 _ (by omega)) (c_isFloor (by first | assumption | exact s4 _ (by omega) | exact s5 _ (by omega)) (by first | assumption | exact s4 _ (by omega) | exact s5 _ (by omega)) (by first | assumption | exact s4 _ (by omega) | exact s5 _ (by omega)) _) (by decide) rfl rfl (Nat.le_of_ble_eq_true rfl) ⟨Nat.zero_le _, Nat.zero_le _⟩ ?_
      refine jv_beq 40 h dX11_person_29 (by decide) (fun c29 => ?_) (fun c29 => ?_)
      · refine jv_iconst (-1) h dX11_person_40 (by decide) ?_
        exact jv_iret h hr dX11_person_41 ⟨_, rfl, rfl, by
    have e : sp_person S k w f d = (-1, none) := (by unfold sp_person; rw [if_neg (by simp_all)])
    rw [e]
    exact ⟨rfl, rfl, Fr.rf _ _ _, fun _ => rfl, fun _ z => by cases z⟩⟩
      · refine jv_iload h dX11_person_32 rfl ?_
        refine jv_SRi [_] h dX11_person_34 cw_X11_76 (c_isDay _) (by decide) rfl rfl (Nat.le_of_ble_eq_true rfl) ⟨Nat.zero_le _, Nat.zero_le _⟩ ?_
        refine jv_bne 42 h dX11_person_37 (by decide) (fun c37 => ?_) (fun c37 => ?_)
        · obtain ⟨k9, rfl, -, hk9⟩ := isB_t c11
          obtain ⟨w9, rfl, hw91, hw92⟩ := isB_t c21
          obtain ⟨f9, rfl, -, hf9⟩ := isB_t c29
          obtain ⟨d9, rfl, -, hd9⟩ := isB_t c37
          have hsp : sp_person S (nI k9) (nI w9) (nI f9) (nI d9) = (if S 0 = 6 then (-3, none) else (nI (S 0), some (addS S k9 w9 f9 d9))) := by unfold sp_person; rw [if_pos ⟨by assumption, by assumption, by assumption, by assumption⟩, pn_nI (by omega), pn_nI (by omega), pn_nI (by omega), pn_nI (by omega)]
          refine jv_aload_n h dX11_person_42 rfl ?_
          refine jv_gr 0 h dX11_person_43 cf_10 (by decide) gw_280 (by first | assumption | exact s4 _ (by omega) | exact s5 _ (by omega)) (by first | assumption | exact s4 _ (by omega) | exact s5 _ (by omega)) ?_
          refine jv_gr 1 h dX11_person_46 cf_0 (by decide) gw_165 (by first | assumption | exact s4 _ (by omega) | exact s5 _ (by omega)) (by first | assumption | exact s4 _ (by omega) | exact s5 _ (by omega)) ?_
          refine jv_gv 1 h dX11_person_49 cf_5 (by decide) gw_122 (by first | assumption | exact s4 _ (by omega) | exact s5 _ (by omega)) (by first | assumption | exact (upd2_ne _ _ (by omega)).trans (by assumption) | exact (upd2_ne _ _ (by omega)).trans ((upd2_ne _ _ (by omega)).trans (by assumption))) ?_
          refine jv_bipush (nI 6) h dX11_person_52 (by decide) ?_
          refine jv_nlt 60 h dX11_person_54 (by decide) (by repeat (with_reducible first | exact NF_nI _ | assumption | refine NF_add ?_ ?_ | refine NF_mul ?_ ?_)) (by repeat (with_reducible first | exact NF_nI _ | assumption | refine NF_add ?_ ?_ | refine NF_mul ?_ ?_)) ⟨by omega, by omega⟩ (fun c54 => ?_) (fun c54 => ?_)
          · refine jv_aload_n h dX11_person_60 rfl ?_
            refine jv_gr 0 h dX11_person_61 cf_10 (by decide) gw_280 (by first | assumption | exact s4 _ (by omega) | exact s5 _ (by omega)) (by first | assumption | exact s4 _ (by omega) | exact s5 _ (by omega)) ?_
            refine jv_gr 1 h dX11_person_64 cf_0 (by decide) gw_165 (by first | assumption | exact s4 _ (by omega) | exact s5 _ (by omega)) (by first | assumption | exact s4 _ (by omega) | exact s5 _ (by omega)) ?_
            refine jv_kinds h dX11_person_67 gw_315 ?_
            refine jv_iload_n h dX11_person_70 rfl ?_
            refine jv_kald h dX11_person_71 (by repeat (with_reducible first | exact NF_nI _ | assumption | refine NF_add ?_ ?_ | refine NF_mul ?_ ?_)) (by omega) ?_
            refine jv_iload_n h dX11_person_72 rfl ?_
            refine jv_iload_n h dX11_person_73 rfl ?_
            refine jv_iload h dX11_person_74 rfl ?_
            refine jv_VGv [_, _, _, _] h dX11_person_76 cw_X11_86 cf_5 (by first | assumption | exact s4 _ (by omega) | exact s5 _ (by omega)) (c_sadd z6 l2 (by omega) (by omega) (NF_nI _) (NF_nI _) (NF_nI _)) (by decide) rfl rfl (Nat.le_of_ble_eq_true rfl) ⟨Nat.zero_le _, Nat.zero_le _⟩ (fun Mi76 Ml76 hp76 => ?_)
            have hm9 := hp76.1
            subst hm9
            obtain ⟨-, f1z, f2z⟩ := hp76
            refine jv_aload_n h dX11_person_79 rfl ?_
            refine jv_gr 0 h dX11_person_80 cf_10 (by decide) gw_280 (by first | assumption | exact s4 _ (by omega) | exact s5 _ (by omega)) (by first | assumption | exact s4 _ (by omega) | exact s5 _ (by omega)) ?_
            refine jv_gr 2 h dX11_person_83 cf_0 (by decide) gw_168 (by first | assumption | exact s4 _ (by omega) | exact s5 _ (by omega)) (by first | assumption | exact s4 _ (by omega) | exact s5 _ (by omega)) ?_
            refine jv_VGv [] h dX11_person_86 cw_X11_94 cf_3 (by first | assumption | exact s4 _ (by omega) | exact s5 _ (by omega)) (c_hclear z7.1) (by decide) rfl rfl (Nat.le_of_ble_eq_true rfl) ⟨Nat.zero_le _, Nat.zero_le _⟩ (fun Mi86 Ml86 hp86 => ?_)
            obtain ⟨hm9, hm8⟩ := hp86
            subst hm9 hm8
            have e0 : addS S k9 w9 f9 d9 0 = S 0 + 1 := addS_p.1
            have hc9 : upd2 Mi76 (X + 1 + 11) 2 (nI 0) (X + 1 + 3) 1 = nI (S 0 + 1) := by rw [upd2_row _ _ (by omega)]; rw [← e0]; exact f2z.1
            refine jv_aload_n h dX11_person_89 rfl ?_
            refine jv_gr 0 h dX11_person_90 cf_10 (by decide) gw_280 (by first | assumption | exact s4 _ (by omega) | exact s5 _ (by omega)) (by first | assumption | exact s4 _ (by omega) | exact s5 _ (by omega)) ?_
            refine jv_gr 1 h dX11_person_93 cf_0 (by decide) gw_165 (by first | assumption | exact s4 _ (by omega) | exact s5 _ (by omega)) (by first | assumption | exact s4 _ (by omega) | exact s5 _ (by omega)) ?_
            refine jv_gv 1 h dX11_person_96 cf_5 (by decide) gw_122 (by first | assumption | exact s4 _ (by omega) | exact s5 _ (by omega)) (by exact hc9) ?_
            refine jv_iconst (nI 1) h dX11_person_99 (by decide) ?_
            first | refine jv_isubN h dX11_person_100 (by repeat (with_reducible first | exact NF_nI _ | assumption | refine NF_add ?_ ?_ | refine NF_mul ?_ ?_)) (by repeat (with_reducible first | exact NF_nI _ | assumption | refine NF_add ?_ ?_ | refine NF_mul ?_ ?_)) (by omega) ?_ | refine jv_isub h dX11_person_100 ?_
            exact jv_iret h hr dX11_person_101 ⟨_, rfl, rfl, by
    rw [hsp, if_neg (by omega)]
    refine ⟨by congr 1, rfl, Fr.tr (l := X + 1) (h := X + 78) f1z (Fr.up (lo := X + 1) (hi := X + 78) (by omega)) (by omega), (fun z => by cases z), fun S' hS' => ?_⟩
    cases hS'
    refine ⟨?_, f2z.fr (by rw [e0]; omega) (fun a h1 h2 => upd2_row _ _ (by omega)), ?_⟩
    · have h26 : ∀ j, 1 ≤ j → j < 18 → addS S k9 w9 f9 d9 j = S j := fun j h1 h2 => addS_o (by omega) (by omega)
      exact ((l1.fr (f1z _ (by omega)) (f1z _ (by omega))).fr (upd2_row _ _ (by omega)) (upd2_row _ _ (by omega))).cg (h26 _ (by omega) (by omega)) (h26 _ (by omega) (by omega)) (h26 _ (by omega) (by omega)) (fun k hk => h26 _ (by omega) (by omega))
    · have l3' := l3.fr (fun a h1 h2 => f1z a (by omega))
      obtain ⟨a1, a2, a3, a4, a5, a6⟩ := l3'
      exact ⟨by rw [upd2_ne _ _ (by omega)]; exact a1, by rw [upd2_same], by omega, a4, fun k hk => (a5 k hk).fr (a6 k hk).1 (fun a h1 h2 => upd2_row _ _ (by omega)), a6⟩⟩
          · refine jv_bipush (-3) h dX11_person_57 (by decide) ?_
            exact jv_iret h hr dX11_person_59 ⟨_, rfl, rfl, by
    rw [hsp, if_pos (by omega)]
    exact ⟨rfl, rfl, Fr.rf _ _ _, fun _ => rfl, fun _ z => by cases z⟩⟩
        · refine jv_iconst (-1) h dX11_person_40 (by decide) ?_
          exact jv_iret h hr dX11_person_41 ⟨_, rfl, rfl, by
    have e : sp_person S k w f d = (-1, none) := (by unfold sp_person; rw [if_neg (by simp_all)])
    rw [e]
    exact ⟨rfl, rfl, Fr.rf _ _ _, fun _ => rfl, fun _ z => by cases z⟩⟩
