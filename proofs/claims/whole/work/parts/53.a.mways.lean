set_option maxHeartbeats 4000000 in
set_option maxRecDepth 100000 in
theorem c_changed {g : GT} {T : TT} {Mi : MI} {Ml : ML} {X u nx : Nat} {S : Nat → Nat} {R : Nat → Nat → Nat} (hX : DayS g T X) (hL : BltR Mi (X + 1) S R u nx) (hW : WF S) (h19 : S 1 ≤ 9999) (p f d w : Int32) : Ct g yX11_changed cX11_changed 5 (some .int) 8 0 0 [.ref X, .int p, .int f, .int d, .int w] T Mi Ml (Gi T (fun rv Mi' Ml' => rv = sp_changed S p f d w ∧ FrW Mi Ml Mi' Ml' X)) := by
  refine Ct.of' (plainFor_of_name (by decide +kernel)) (by exact Nat.le_of_ble_eq_true rfl) ?_
  intro x hg hR h hr hnm hnl
  subst hg
  obtain ⟨x0, ⟨x1, x2⟩, ⟨x3, x4⟩, ⟨x5, x6, x7, x8⟩, ⟨x9, x10, x11, x12, x13, x14⟩, ⟨x15, x16⟩, ⟨x17, x18, x19, x20⟩, ⟨x21, x22, x23, x24⟩, ⟨x25, x26, x27, x28, x29, x30⟩, x31, x32, x33, x34, x35, x36⟩ := id hX
  obtain ⟨z1, z2, z3, z4, z5, z6, z7⟩ := id x2
  obtain ⟨e1, e2, e3⟩ := id z5
  obtain ⟨s1, s2, s3, s4, s5⟩ := id z6
  obtain ⟨h1, h2, h3, h4, h5⟩ := id z7
  obtain ⟨l1, l2, l3⟩ := id hL
  obtain ⟨y0, y1, y2, y3⟩ := id l1
  obtain ⟨v1, v2, v3, v4⟩ := id l2
  obtain ⟨r1, r2, r3, r4, r5, r6⟩ := id l3
  obtain ⟨w0, w1, w2, w3, w4, w5, w6, w7⟩ := id hW
  have hK : WkS x.1 T (X + 176) := ⟨x18, x19, x20⟩
  refine jv_aload_n h dX11_changed_0 rfl ?_
  refine jv_iload_n h dX11_changed_1 rfl ?_
  refine jv_VRi [_] h dX11_changed_2 cw_X11_99 cf_10 (by first | assumption | exact s4 _ (by omega) | exact s5 _ (by omega)) (c_isPerson (by first | assumption | exact s4 _ (by omega) | exact s5 _ (by omega)) (by first | assumption | exact s4 _ (by omega) | exact s5 _ (by omega)) (by first | assumption | exact s4 _ (by omega) | exact s5 _ (by omega)) _) (by decide) rfl rfl (Nat.le_of_ble_eq_true rfl) ⟨Nat.zero_le _, Nat.zero_le _⟩ ?_
  refine jv_beq 33 h dX11_changed_5 (by decide) (fun c5 => ?_) (fun c5 => ?_)
  · refine jv_iconst (-1) h dX11_changed_33 (by decide) ?_
    exact jv_iret h hr dX11_changed_34 ⟨_, rfl, rfl, by unfold sp_changed; rw [if_neg (by simp_all)], FrW.rf _ _ _⟩
  · refine jv_aload_n h dX11_changed_8 rfl ?_
    refine jv_iload_n h dX11_changed_9 rfl ?_
    refine jv_VRi [_] h dX11_changed_10 cw_X11_72 cf_10 (by first | assumption | exact s4 _ (by omega) | exact s5 _ (by omega)) (c_isFloor (by first | assumption | exact s4 _ (by omega) | exact s5 _ (by omega)) (by first | assumption | exact s4 _ (by omega) | exact s5 _ (by omega)) (by first | assumption | exact s4 _ (by omega) | exact s5 _ (by omega)) _) (by decide) rfl rfl (Nat.le_of_ble_eq_true rfl) ⟨Nat.zero_le _, Nat.zero_le _⟩ ?_
    refine jv_beq 33 h dX11_changed_13 (by decide) (fun c13 => ?_) (fun c13 => ?_)
    · refine jv_iconst (-1) h dX11_changed_33 (by decide) ?_
      exact jv_iret h hr dX11_changed_34 ⟨_, rfl, rfl, by unfold sp_changed; rw [if_neg (by simp_all)], FrW.rf _ _ _⟩
    · refine jv_iload_n h dX11_changed_16 rfl ?_
      refine jv_SRi [_] h dX11_changed_17 cw_X11_76 (c_isDay _) (by decide) rfl rfl (Nat.le_of_ble_eq_true rfl) ⟨Nat.zero_le _, Nat.zero_le _⟩ ?_
      refine jv_beq 33 h dX11_changed_20 (by decide) (fun c20 => ?_) (fun c20 => ?_)
      · refine jv_iconst (-1) h dX11_changed_33 (by decide) ?_
        exact jv_iret h hr dX11_changed_34 ⟨_, rfl, rfl, by unfold sp_changed; rw [if_neg (by simp_all)], FrW.rf _ _ _⟩
      · refine jv_iload h dX11_changed_23 rfl ?_
        refine jv_iconst (nI 0) h dX11_changed_25 (by decide) ?_
        refine jv_iconst (nI 1) h dX11_changed_26 (by decide) ?_
        refine jv_SRi [_, _, _] h dX11_changed_27 cw_X11_68 (c_within (m := 0) (n := 2) _ (by decide) (by decide)) (by decide) rfl rfl (Nat.le_of_ble_eq_true rfl) ⟨Nat.zero_le _, Nat.zero_le _⟩ ?_
        refine jv_bne 35 h dX11_changed_30 (by decide) (fun c30 => ?_) (fun c30 => ?_)
        · obtain ⟨i, rfl, -, hi⟩ := isB_t c5
          obtain ⟨f9, rfl, -, hf9⟩ := isB_t c13
          obtain ⟨d9, rfl, -, hd9⟩ := isB_t c20
          obtain ⟨w9, rfl, -, hw9⟩ := isB_t c30
          have hsp : sp_changed S (nI i) (nI f9) (nI d9) (nI w9) = bcI (chZ S i (f9 * 7 + d9)) (decide (w9 = 1)) := by
            unfold sp_changed
            rw [if_pos ⟨c5, c13, c20, c30⟩, pn_nI (by omega), pn_nI (by omega), pn_nI (by omega), pn_nI (by omega)]
          have w7i := w7 i hi
          refine jv_aload_n h dX11_changed_35 rfl ?_
          refine jv_gr 6 h dX11_changed_36 cf_10 (by decide) gw_286 (by first | assumption | exact s4 _ (by omega) | exact s5 _ (by omega)) (by first | assumption | exact s4 _ (by omega) | exact s5 _ (by omega)) ?_
          refine jv_aload_n h dX11_changed_39 rfl ?_
          refine jv_gr 0 h dX11_changed_40 cf_10 (by decide) gw_280 (by first | assumption | exact s4 _ (by omega) | exact s5 _ (by omega)) (by first | assumption | exact s4 _ (by omega) | exact s5 _ (by omega)) ?_
          refine jv_aload_n h dX11_changed_43 rfl ?_
          refine jv_gr 0 h dX11_changed_44 cf_10 (by decide) gw_280 (by first | assumption | exact s4 _ (by omega) | exact s5 _ (by omega)) (by first | assumption | exact s4 _ (by omega) | exact s5 _ (by omega)) ?_
          refine jv_gr 1 h dX11_changed_47 cf_0 (by decide) gw_165 (by first | assumption | exact s4 _ (by omega) | exact s5 _ (by omega)) (by first | assumption | exact s4 _ (by omega) | exact s5 _ (by omega)) ?_
          refine jv_gr 0 h dX11_changed_50 cf_5 (by decide) gw_119 (by first | assumption | exact s4 _ (by omega) | exact s5 _ (by omega)) (by first | assumption | exact s4 _ (by omega) | exact s5 _ (by omega)) ?_
          refine jv_iload_n h dX11_changed_53 rfl ?_
          refine jv_aald h dX11_changed_54 (by first | assumption | exact s4 _ (by omega) | exact s5 _ (by omega)) (by decide) (by repeat (with_reducible first | exact NF_nI _ | assumption | refine NF_add ?_ ?_ | refine NF_mul ?_ ?_)) ⟨by omega, by decide⟩ (by first | assumption | exact s4 _ (by omega) | exact s5 _ (by omega)) ?_
          refine jv_VGv [_, _] h dX11_changed_55 cw_X11_245 cf_8 (by first | assumption | exact s4 _ (by omega) | exact s5 _ (by omega)) (c_wkbegin hK x2 hL hW hi (by omega)) (by decide) rfl rfl (Nat.le_of_ble_eq_true rfl) ⟨Nat.zero_le _, Nat.zero_le _⟩ (fun Mi55 Ml55 hp55 => ?_)
          obtain ⟨f1, f2, f3, f4, f5, f6, f7, f8⟩ := hp55
          have hA0 : BR (Ml55 (X + 176) 3) (stA S i) := by rw [f7]; exact BR.st hW hi
          have hA5 : BR (Ml55 (X + 176) 5) (stA S i) := by rw [f8]; exact BR.st hW hi
          refine jv_aload_n h dX11_changed_58 rfl ?_
          refine jv_gr 6 h dX11_changed_59 cf_10 (by decide) gw_286 (by first | assumption | exact s4 _ (by omega) | exact s5 _ (by omega)) (by first | assumption | exact s4 _ (by omega) | exact s5 _ (by omega)) ?_
          refine jv_iload_n h dX11_changed_62 rfl ?_
          refine jv_iload_n h dX11_changed_63 rfl ?_
          refine jv_SRl [_, _] h dX11_changed_64 cw_X11_248 (c_spot (NF_nI _) (NF_nI _) (by omega) (by omega)) (by decide) rfl rfl (Nat.le_of_ble_eq_true rfl) ⟨Nat.zero_le _, Nat.zero_le _⟩ ?_
          refine jv_iload_n h dX11_changed_67 rfl ?_
          refine jv_iload h dX11_changed_68 rfl ?_
          refine jv_iconst (nI 1) h dX11_changed_70 (by decide) ?_
          refine jv_nne 78 h dX11_changed_71 (by decide) (by repeat (with_reducible first | exact NF_nI _ | assumption | refine NF_add ?_ ?_ | refine NF_mul ?_ ?_)) (by repeat (with_reducible first | exact NF_nI _ | assumption | refine NF_add ?_ ?_ | refine NF_mul ?_ ?_)) ⟨by omega, by omega⟩ (fun c71 => ?_) (fun c71 => ?_)
          · have hb9 : nI 0 = bI (decide (w9 = 1)) := by rw [decide_eq_false c71]; rfl
            refine jv_iconst (nI 0) h dX11_changed_78 (by decide) ?_
            refine jv_VGi [_, _, _] h dX11_changed_79 cw_X11_278 cf_8 (by first | assumption | exact s4 _ (by omega) | exact s5 _ (by omega)) (c_bestChange hK f3 hW f5 (by omega) f4 (by omega) hA0 (by omega) (NF_nI _) (by omega) hb9) (by decide) rfl rfl (Nat.le_of_ble_eq_true rfl) ⟨Nat.zero_le _, Nat.zero_le _⟩ (fun v_79 Mi79 Ml79 hp79 => ?_)
            obtain ⟨⟨N9, hN9, w91⟩, e1, e2, e3, e4⟩ := hp79
            subst v_79
            exact jv_iret h hr dX11_changed_82 ⟨_, rfl, rfl, by
      rw [hsp, ← ch_eq hW hd9 (by omega) hN9], fun a ha => (e1 a (by omega)).trans (f1 a (by omega)), fun a ha => (e3 a (by omega)).trans (f2 a (by omega))⟩
          · have hb9 : nI 1 = bI (decide (w9 = 1)) := by rw [decide_eq_true c71]; rfl
            refine jv_iconst (nI 1) h dX11_changed_74 (by decide) ?_
            refine jv_goto 79 h dX11_changed_75 (by decide) ?_
            refine jv_VGi [_, _, _] h dX11_changed_79 cw_X11_278 cf_8 (by first | assumption | exact s4 _ (by omega) | exact s5 _ (by omega)) (c_bestChange hK f3 hW f5 (by omega) f4 (by omega) hA0 (by omega) (NF_nI _) (by omega) hb9) (by decide) rfl rfl (Nat.le_of_ble_eq_true rfl) ⟨Nat.zero_le _, Nat.zero_le _⟩ (fun v_79 Mi79 Ml79 hp79 => ?_)
            obtain ⟨⟨N9, hN9, w91⟩, e1, e2, e3, e4⟩ := hp79
            subst v_79
            exact jv_iret h hr dX11_changed_82 ⟨_, rfl, rfl, by
      rw [hsp, ← ch_eq hW hd9 (by omega) hN9], fun a ha => (e1 a (by omega)).trans (f1 a (by omega)), fun a ha => (e3 a (by omega)).trans (f2 a (by omega))⟩
        · refine jv_iconst (-1) h dX11_changed_33 (by decide) ?_
          exact jv_iret h hr dX11_changed_34 ⟨_, rfl, rfl, by unfold sp_changed; rw [if_neg (by simp_all)], FrW.rf _ _ _⟩
theorem mstp_t {S : Nat → Nat} {A : Nat → Bool} {kk st j k l : Nat} {z : Nat × Int32} (h : fsN (wmB (swS S k l) A kk st j) 0 61 ≠ -4 ∧ pn (fsN (wmB (swS S k l) A kk st j) 0 61) < z.1) : mstp S A kk st j k l z = (pn (fsN (wmB (swS S k l) A kk st j) 0 61), nI (100 * k + l)) := if_pos h
theorem mstp_f {S : Nat → Nat} {A : Nat → Bool} {kk st j k l : Nat} {z : Nat × Int32} (h : ¬ (fsN (wmB (swS S k l) A kk st j) 0 61 ≠ -4 ∧ pn (fsN (wmB (swS S k l) A kk st j) 0 61) < z.1)) : mstp S A kk st j k l z = z := if_neg h
theorem mstp_le {S : Nat → Nat} {A : Nat → Bool} {kk st j k l : Nat} {z : Nat × Int32} : (mstp S A kk st j k l z).1 ≤ z.1 := by
  unfold mstp
  split
  · rename_i h; exact Nat.le_of_lt h.2
  · exact Nat.le_refl _
theorem inM_le {S : Nat → Nat} {A : Nat → Bool} {kk st j k : Nat} {z : Nat × Int32} : ∀ m, (inF (mstp S A kk st j) k z m).1 ≤ z.1
  | 0 => Nat.le_refl _
  | m + 1 => Nat.le_trans mstp_le (inM_le m)
theorem ouM_le {S : Nat → Nat} {A : Nat → Bool} {kk st j N : Nat} {z : Nat × Int32} : ∀ m, (ouF (mstp S A kk st j) N z m).1 ≤ z.1
  | 0 => Nat.le_refl _
  | m + 1 => Nat.le_trans (inM_le _) (ouM_le m)
theorem zm_le {S : Nat → Nat} {i f9 d9 N : Nat} (k m : Nat) : (inF (mstp S (stA S i) (S (18 + 6 * i)) (S 1) (f9 * 7 + d9)) k (ouF (mstp S (stA S i) (S (18 + 6 * i)) (S 1) (f9 * 7 + d9)) N (bst0 (snI S i (f9 * 7 + d9)), -4) k) m).1 ≤ 61 := Nat.le_trans (inM_le m) (Nat.le_trans (ouM_le k) bst0_le)

set_option maxHeartbeats 4000000 in
set_option maxRecDepth 100000 in
theorem cm_soonest {g : GT} {T : TT} {Mi : MI} {Ml : ML} {Y : Nat} {S : Nat → Nat} (hM : ModS g T Y) (hN : NowR Mi (Y + 1) S) (hW : WF S) (h19 : S 1 ≤ 9999) (p f d w : Int32) : Ct g yX12_soonest cX12_soonest 7 (some .int) 6 0 0 [.ref Y, .int p, .int f, .int d, .int w] T Mi Ml (Ri T Mi Ml (sp_soonest S p f d w)) := by
  refine Ct.of' (plainFor_of_name (by decide +kernel)) (by exact Nat.le_of_ble_eq_true rfl) ?_
  intro x hg hR h hr hnm hnl
  subst hg
  obtain ⟨hY, ⟨r0, a0⟩, ⟨r1, a1⟩, ⟨r5, a5⟩, ⟨r6, a6⟩, ⟨r7, a7⟩, ⟨r9, a9⟩, ⟨r12, a12⟩, ⟨r13, a13⟩, ⟨r14, a14⟩, ⟨r15, a15⟩, r16, a16⟩ := id hM
  obtain ⟨w0, w1, w2, w3, w4, w5, w6, w7⟩ := id hW
  refine jv_aload_n h dX12_soonest_0 rfl ?_
  refine jv_iload_n h dX12_soonest_1 rfl ?_
  refine jv_VRi [_] h dX12_soonest_2 cw_X12_81 cf_11 (by assumption) (cm_isPerson (by assumption) (by assumption) (by assumption) _) (by decide) rfl rfl (Nat.le_of_ble_eq_true rfl) ⟨Nat.zero_le _, Nat.zero_le _⟩ ?_
  refine jv_beq 34 h dX12_soonest_5 (by decide) (fun c5 => ?_) (fun c5 => ?_)
  · refine jv_iconst (-1) h dX12_soonest_34 (by decide) ?_
    exact jv_iret h hr dX12_soonest_35 ⟨by unfold sp_soonest; rw [if_neg (by simp_all)], rfl, rfl, rfl⟩
  · refine jv_aload_n h dX12_soonest_8 rfl ?_
    refine jv_iload_n h dX12_soonest_9 rfl ?_
    refine jv_VRi [_] h dX12_soonest_10 cw_X12_70 cf_11 (by assumption) (cm_isFloor (by assumption) (by assumption) (by assumption) _) (by decide) rfl rfl (Nat.le_of_ble_eq_true rfl) ⟨Nat.zero_le _, Nat.zero_le _⟩ ?_
    refine jv_beq 34 h dX12_soonest_13 (by decide) (fun c13 => ?_) (fun c13 => ?_)
    · refine jv_iconst (-1) h dX12_soonest_34 (by decide) ?_
      exact jv_iret h hr dX12_soonest_35 ⟨by unfold sp_soonest; rw [if_neg (by simp_all)], rfl, rfl, rfl⟩
    · refine jv_iload_n h dX12_soonest_16 rfl ?_
      refine jv_SRi [_] h dX12_soonest_17 cw_X12_74 (cm_isDay _) (by decide) rfl rfl (Nat.le_of_ble_eq_true rfl) ⟨Nat.zero_le _, Nat.zero_le _⟩ ?_
      refine jv_beq 34 h dX12_soonest_20 (by decide) (fun c20 => ?_) (fun c20 => ?_)
      · refine jv_iconst (-1) h dX12_soonest_34 (by decide) ?_
        exact jv_iret h hr dX12_soonest_35 ⟨by unfold sp_soonest; rw [if_neg (by simp_all)], rfl, rfl, rfl⟩
      · refine jv_iload h dX12_soonest_23 rfl ?_
        refine jv_i2l h dX12_soonest_25 ?_
        refine jv_lconst (lN 0) h dX12_soonest_26 (by decide) ?_
        refine jv_lconst (lN 1) h dX12_soonest_27 (by decide) ?_
        refine jv_SRi [_, _, _] h dX12_soonest_28 cw_X12_44 (c_mwithin (m := 0) (n := 2) _ (by decide) (by decide)) (by decide) rfl rfl (Nat.le_of_ble_eq_true rfl) ⟨Nat.zero_le _, Nat.zero_le _⟩ ?_
        refine jv_bne 36 h dX12_soonest_31 (by decide) (fun c31 => ?_) (fun c31 => ?_)
        · obtain ⟨i, rfl, -, hi⟩ := isB_t c5
          obtain ⟨f9, rfl, -, hf9⟩ := isB_t c13
          obtain ⟨d9, rfl, -, hd9⟩ := isB_t c20
          obtain ⟨w9, rfl, -, hw9⟩ := isB_t c31
          have hsp : sp_soonest S (nI i) (nI f9) (nI d9) (nI w9) = soI S i (f9 * 7 + d9) w9 := by
            unfold sp_soonest
            rw [if_pos ⟨c5, c13, c20, c31⟩, pn_nI (by omega), pn_nI (by omega), pn_nI (by omega), pn_nI (by omega)]
          have w7i := w7 i hi
          refine jv_aload_n h dX12_soonest_36 rfl ?_
          refine jv_iload_n h dX12_soonest_37 rfl ?_
          refine jv_bipush (nI 7) h dX12_soonest_38 (by decide) ?_
          refine jv_iload_n h dX12_soonest_40 rfl ?_
          first | refine jv_imulN h dX12_soonest_41 (by repeat (with_reducible first | exact NF_nI _ | assumption | refine NF_add ?_ ?_ | refine NF_mul ?_ ?_)) (by repeat (with_reducible first | exact NF_nI _ | assumption | refine NF_add ?_ ?_ | refine NF_mul ?_ ?_)) ?_ | refine jv_imul h dX12_soonest_41 ?_
          refine jv_iload_n h dX12_soonest_42 rfl ?_
          first | refine jv_iaddN h dX12_soonest_43 (by repeat (with_reducible first | exact NF_nI _ | assumption | refine NF_add ?_ ?_ | refine NF_mul ?_ ?_)) (by repeat (with_reducible first | exact NF_nI _ | assumption | refine NF_add ?_ ?_ | refine NF_mul ?_ ?_)) ?_ | refine jv_iadd h dX12_soonest_43 ?_
          rw [show 7 * f9 + d9 = f9 * 7 + d9 by omega]
          refine jv_iconst (-1) h dX12_soonest_44 (by decide) ?_
          refine jv_VRi [_, _, _] h dX12_soonest_45 cw_X12_192 cf_11 (by assumption) (cm_soonestBy (e := 0) hM hN hW h19 (NF_nI _) hi (NF_nI _) (by omega) rfl (by omega)) (by decide) rfl rfl (Nat.le_of_ble_eq_true rfl) ⟨Nat.zero_le _, Nat.zero_le _⟩ ?_
          rw [sb_0]
          refine jv_istore h dX12_soonest_48 (lt_nl hnl (by decide)) ?_
          refine jv_iload h dX12_soonest_50 rfl ?_
          refine jv_zeq 62 h dX12_soonest_52 (by decide) (by repeat (with_reducible first | exact NF_nI _ | assumption | refine NF_add ?_ ?_ | refine NF_mul ?_ ?_)) (by omega) (fun c52 => ?_) (fun c52 => ?_)
          · refine jv_iload h dX12_soonest_62 rfl ?_
            exact jv_iret h hr dX12_soonest_64 ⟨by
      rw [hsp]
      unfold soI
      rw [if_pos (by first | exact Or.inr c52 | exact Or.inl c59)], rfl, rfl, rfl⟩
          · refine jv_iload h dX12_soonest_55 rfl ?_
            refine jv_bipush (-4) h dX12_soonest_57 (by decide) ?_
            refine jv_icmp_ne 65 h dX12_soonest_59 (by decide) (fun c59 => ?_) (fun c59 => ?_)
            · obtain ⟨n9, hn9, hn8⟩ := fs_ex c59
              have hn7 : snI S i (f9 * 7 + d9) = nI n9 := hn8
              obtain ⟨q0, hq0, hf1, hf2, hf3⟩ := first_ex hn9 hn8
              have hrt : soI S i (f9 * 7 + d9) w9 = nI q0 := by
                unfold soI
                rw [if_neg (fun z => z.elim c59 c52), hn7, pn_nI (by omega)]
                exact hf1
              refine jv_iconst (nI 0) h dX12_soonest_65 (by decide) ?_
              refine jv_istore h dX12_soonest_66 (lt_nl hnl (by decide)) ?_
              have hl68 : ∀ (n : Nat) (q : Nat), 5 - q < n → q ≤ q0 → V x 0 0 T Mi Ml 68 [some (.ref Y), some (.int (nI i)), some (.int (nI f9)), some (.int (nI d9)), some (.int (nI w9)), some (.int (snI S i (f9 * 7 + d9))), some (.int (nI q))] [] := by
                intro n
                induction n with
                | zero => intro q hN9 hq; exact absurd hN9 (by omega)
                | succ n ih =>
                  intro q hN9 hq
                  refine jv_aload_n h dX12_soonest_68 rfl ?_
                  refine jv_iload_n h dX12_soonest_69 rfl ?_
                  refine jv_bipush (nI 7) h dX12_soonest_70 (by decide) ?_
                  refine jv_iload_n h dX12_soonest_72 rfl ?_
                  first | refine jv_imulN h dX12_soonest_73 (by repeat (with_reducible first | exact NF_nI _ | assumption | refine NF_add ?_ ?_ | refine NF_mul ?_ ?_)) (by repeat (with_reducible first | exact NF_nI _ | assumption | refine NF_add ?_ ?_ | refine NF_mul ?_ ?_)) ?_ | refine jv_imul h dX12_soonest_73 ?_
                  refine jv_iload_n h dX12_soonest_74 rfl ?_
                  first | refine jv_iaddN h dX12_soonest_75 (by repeat (with_reducible first | exact NF_nI _ | assumption | refine NF_add ?_ ?_ | refine NF_mul ?_ ?_)) (by repeat (with_reducible first | exact NF_nI _ | assumption | refine NF_add ?_ ?_ | refine NF_mul ?_ ?_)) ?_ | refine jv_iadd h dX12_soonest_75 ?_
                  rw [show 7 * f9 + d9 = f9 * 7 + d9 by omega]
                  refine jv_iload h dX12_soonest_76 rfl ?_
                  refine jv_VRi [_, _, _] h dX12_soonest_78 cw_X12_192 cf_11 (by assumption) (cm_soonestBy (e := q + 1) hM hN hW h19 (NF_nI _) hi (NF_nI _) (by omega) (carI_s q).symm (by omega)) (by decide) rfl rfl (Nat.le_of_ble_eq_true rfl) ⟨Nat.zero_le _, Nat.zero_le _⟩ ?_
                  have hsk : sbI S i (f9 * 7 + d9) (q + 1) = fsN (fun m => raA S (stA S i) (S (18 + 6 * i)) (S 1) (2 ^ q) m (f9 * 7 + d9)) 0 61 := by
                    unfold sbI sbR sbK
                    rw [if_neg (Nat.succ_ne_zero q)]
                    rfl
                  refine jv_iload h dX12_soonest_81 rfl ?_
                  refine jv_icmp_eq 92 h dX12_soonest_83 (by decide) (fun c83 => ?_) (fun c83 => ?_)
                  · rw [hn7, hsk, first_iff (by omega) hn9 hn8] at c83
                    have hqq : q = q0 := by
                      rcases (show q < q0 ∨ q = q0 by omega) with z | z
                      · rw [hf3 q z] at c83; cases c83
                      · exact z
                    refine jv_iload h dX12_soonest_92 rfl ?_
                    exact jv_iret h hr dX12_soonest_94 ⟨by rw [hsp, hrt, hqq], rfl, rfl, rfl⟩
                  · rw [hn7, hsk, first_iff (by omega) hn9 hn8] at c83
                    have hqq : q < q0 := by
                      rcases (show q < q0 ∨ q = q0 by omega) with z | z
                      · exact z
                      · exact absurd (z ▸ hf2) c83
                    refine jv_iinc (nI (q + 1)) h dX12_soonest_86 rfl (lt_nl hnl (by decide)) (nI_inc q) ?_
                    refine jv_goto 68 h dX12_soonest_89 (by decide) ?_
                    exact ih (q + 1) (by omega) (by omega)
              exact hl68 6 0 (by omega) (by omega)
            · refine jv_iload h dX12_soonest_62 rfl ?_
              exact jv_iret h hr dX12_soonest_64 ⟨by
      rw [hsp]
      unfold soI
      rw [if_pos (by first | exact Or.inr c52 | exact Or.inl c59)], rfl, rfl, rfl⟩
        · refine jv_iconst (-1) h dX12_soonest_34 (by decide) ?_
          exact jv_iret h hr dX12_soonest_35 ⟨by unfold sp_soonest; rw [if_neg (by simp_all)], rfl, rfl, rfl⟩
set_option maxHeartbeats 4000000 in
set_option maxRecDepth 100000 in
theorem cm_never {g : GT} {T : TT} {Mi : MI} {Ml : ML} {Y : Nat} {S : Nat → Nat} (hM : ModS g T Y) (hN : NowR Mi (Y + 1) S) (hW : WF S) (h19 : S 1 ≤ 9999) (p d : Int32) : Ct g yX12_never cX12_never 5 (some .int) 6 0 0 [.ref Y, .int p, .int d] T Mi Ml (Ri T Mi Ml (sp_never S p d)) := by
  refine Ct.of' (plainFor_of_name (by decide +kernel)) (by exact Nat.le_of_ble_eq_true rfl) ?_
  intro x hg hR h hr hnm hnl
  subst hg
  obtain ⟨hY, ⟨r0, a0⟩, ⟨r1, a1⟩, ⟨r5, a5⟩, ⟨r6, a6⟩, ⟨r7, a7⟩, ⟨r9, a9⟩, ⟨r12, a12⟩, ⟨r13, a13⟩, ⟨r14, a14⟩, ⟨r15, a15⟩, r16, a16⟩ := id hM
  obtain ⟨w0, w1, w2, w3, w4, w5, w6, w7⟩ := id hW
  refine jv_aload_n h dX12_never_0 rfl ?_
  refine jv_iload_n h dX12_never_1 rfl ?_
  refine jv_VRi [_] h dX12_never_2 cw_X12_81 cf_11 (by assumption) (cm_isPerson (by assumption) (by assumption) (by assumption) _) (by decide) rfl rfl (Nat.le_of_ble_eq_true rfl) ⟨Nat.zero_le _, Nat.zero_le _⟩ ?_
  refine jv_beq 15 h dX12_never_5 (by decide) (fun c5 => ?_) (fun c5 => ?_)
  · refine jv_iconst (-1) h dX12_never_15 (by decide) ?_
    exact jv_iret h hr dX12_never_16 ⟨by unfold sp_never; rw [if_neg (by simp_all)], rfl, rfl, rfl⟩
  · refine jv_iload_n h dX12_never_8 rfl ?_
    refine jv_SRi [_] h dX12_never_9 cw_X12_74 (cm_isDay _) (by decide) rfl rfl (Nat.le_of_ble_eq_true rfl) ⟨Nat.zero_le _, Nat.zero_le _⟩ ?_
    refine jv_bne 17 h dX12_never_12 (by decide) (fun c12 => ?_) (fun c12 => ?_)
    · obtain ⟨i, rfl, -, hi⟩ := isB_t c5
      obtain ⟨d9, rfl, -, hd9⟩ := isB_t c12
      have hsp : sp_never S (nI i) (nI d9) = nI (neN S i d9) := by
        unfold sp_never
        rw [if_pos ⟨c5, c12⟩, pn_nI (by omega), pn_nI (by omega)]
      have w7i := w7 i hi
      refine jv_iconst (nI 0) h dX12_never_17 (by decide) ?_
      refine jv_istore_n h dX12_never_18 (lt_nl hnl (by decide)) ?_
      refine jv_iconst (nI 0) h dX12_never_19 (by decide) ?_
      refine jv_istore h dX12_never_20 (lt_nl hnl (by decide)) ?_
      have hl22 : ∀ (n : Nat) (f9 : Nat), 7 - f9 < n → f9 ≤ S 2 → V x 0 0 T Mi Ml 22 [some (.ref Y), some (.int (nI i)), some (.int (nI d9)), some (.int (nI (stN (fun f => !whB S i (f * 7 + d9) 60) f9))), some (.int (nI f9))] [] := by
        intro n
        induction n with
        | zero => intro f9 hN9 hf9; exact absurd hN9 (by omega)
        | succ n ih =>
          intro f9 hN9 hf9
          refine jv_iload h dX12_never_22 rfl ?_
          refine jv_aload_n h dX12_never_24 rfl ?_
          refine jv_gr 0 h dX12_never_25 cf_11 (by decide) gw_900 (by assumption) (by assumption) ?_
          refine jv_iconst (nI 2) h dX12_never_28 (by decide) ?_
          refine jv_iav h dX12_never_29 (by assumption) (by repeat (with_reducible first | exact NF_nI _ | assumption | refine NF_add ?_ ?_ | refine NF_mul ?_ ?_)) ⟨by omega, by decide⟩ (by first | assumption | exact hN.n0 | exact hN.n1 | exact hN.n2 | exact hN.n3 | exact hN.n4 | exact hN.n5 | exact hN.dy (by omega) | exact hN.p3 (by omega) | exact hN.p0 (by omega) | exact hN.p1 (by omega) | exact hN.p2 (by omega) | exact hN.p4 (by omega) | exact hN.p5 (by omega)) ?_
          refine jv_nge 68 h dX12_never_30 (by decide) (by repeat (with_reducible first | exact NF_nI _ | assumption | refine NF_add ?_ ?_ | refine NF_mul ?_ ?_)) (by repeat (with_reducible first | exact NF_nI _ | assumption | refine NF_add ?_ ?_ | refine NF_mul ?_ ?_)) ⟨by omega, by omega⟩ (fun c30 => ?_) (fun c30 => ?_)
          · refine jv_iload_n h dX12_never_68 rfl ?_
            exact jv_iret h hr dX12_never_69 ⟨by
      rw [hsp]
      unfold neN
      rw [show S 2 = f9 by omega], rfl, rfl, rfl⟩
          · refine jv_iload_n h dX12_never_33 rfl ?_
            refine jv_aload_n h dX12_never_34 rfl ?_
            refine jv_iload_n h dX12_never_35 rfl ?_
            refine jv_bipush (nI 7) h dX12_never_36 (by decide) ?_
            refine jv_iload h dX12_never_38 rfl ?_
            first | refine jv_imulN h dX12_never_40 (by repeat (with_reducible first | exact NF_nI _ | assumption | refine NF_add ?_ ?_ | refine NF_mul ?_ ?_)) (by repeat (with_reducible first | exact NF_nI _ | assumption | refine NF_add ?_ ?_ | refine NF_mul ?_ ?_)) ?_ | refine jv_imul h dX12_never_40 ?_
            refine jv_iload_n h dX12_never_41 rfl ?_
            first | refine jv_iaddN h dX12_never_42 (by repeat (with_reducible first | exact NF_nI _ | assumption | refine NF_add ?_ ?_ | refine NF_mul ?_ ?_)) (by repeat (with_reducible first | exact NF_nI _ | assumption | refine NF_add ?_ ?_ | refine NF_mul ?_ ?_)) ?_ | refine jv_iadd h dX12_never_42 ?_
            rw [show 7 * f9 + d9 = f9 * 7 + d9 by omega]
            refine jv_iconst (-1) h dX12_never_43 (by decide) ?_
            refine jv_VRi [_, _, _] h dX12_never_44 cw_X12_192 cf_11 (by assumption) (cm_soonestBy (e := 0) hM hN hW h19 (NF_nI _) hi (NF_nI _) (by omega) rfl (by omega)) (by decide) rfl rfl (Nat.le_of_ble_eq_true rfl) ⟨Nat.zero_le _, Nat.zero_le _⟩ ?_
            rw [sb_0]
            refine jv_bipush (-4) h dX12_never_47 (by decide) ?_
            refine jv_icmp_ne 59 h dX12_never_49 (by decide) (fun c49 => ?_) (fun c49 => ?_)
            · rw [never_iff (by omega), Bool.not_eq_false] at c49
              have hst9 : nI (stN (fun f => !whB S i (f * 7 + d9) 60) f9) ||| nI 0 = nI (stN (fun f => !whB S i (f * 7 + d9) 60) (f9 + 1)) := by
                rw [nI_or0]
                show _ = nI (stN _ f9 + (if (!whB S i (f9 * 7 + d9) 60) = true then 2 ^ f9 else 0))
                rw [c49]
                simp
              refine jv_iconst (nI 0) h dX12_never_59 (by decide) ?_
              refine jv_ior h dX12_never_60 ?_
              rw [hst9]
              refine jv_istore_n h dX12_never_61 (lt_nl hnl (by decide)) ?_
              refine jv_iinc (nI (f9 + 1)) h dX12_never_62 rfl (lt_nl hnl (by decide)) (nI_inc f9) ?_
              refine jv_goto 22 h dX12_never_65 (by decide) ?_
              exact ih (f9 + 1) (by omega) (by omega)
            · rw [never_iff (by omega)] at c49
              have hst9 : nI (stN (fun f => !whB S i (f * 7 + d9) 60) f9) ||| (nI 1 <<< (nI f9 &&& 31)) = nI (stN (fun f => !whB S i (f * 7 + d9) 60) (f9 + 1)) := by
                rw [nI_or (stN_lt _ _) (by omega)]
                show _ = nI (stN _ f9 + (if (!whB S i (f9 * 7 + d9) 60) = true then 2 ^ f9 else 0))
                rw [c49]
                simp
              refine jv_iconst (nI 1) h dX12_never_52 (by decide) ?_
              refine jv_iload h dX12_never_53 rfl ?_
              refine jv_ishl h dX12_never_55 ?_
              refine jv_goto 60 h dX12_never_56 (by decide) ?_
              refine jv_ior h dX12_never_60 ?_
              rw [hst9]
              refine jv_istore_n h dX12_never_61 (lt_nl hnl (by decide)) ?_
              refine jv_iinc (nI (f9 + 1)) h dX12_never_62 rfl (lt_nl hnl (by decide)) (nI_inc f9) ?_
              refine jv_goto 22 h dX12_never_65 (by decide) ?_
              exact ih (f9 + 1) (by omega) (by omega)
      exact hl22 8 0 (by omega) (by omega)
    · refine jv_iconst (-1) h dX12_never_15 (by decide) ?_
      exact jv_iret h hr dX12_never_16 ⟨by unfold sp_never; rw [if_neg (by simp_all)], rfl, rfl, rfl⟩
set_option maxHeartbeats 4000000 in
set_option maxRecDepth 100000 in
theorem cm_meet {g : GT} {T : TT} {Mi : MI} {Ml : ML} {Y : Nat} {S : Nat → Nat} (hM : ModS g T Y) (hN : NowR Mi (Y + 1) S) (hW : WF S) (h19 : S 1 ≤ 9999) (p q w : Int32) : Ct g yX12_meet cX12_meet 13 (some .int) 5 0 0 [.ref Y, .int p, .int q, .int w] T Mi Ml (Ri T Mi Ml (sp_meet S p q w)) := by
  refine Ct.of' (plainFor_of_name (by decide +kernel)) (by exact Nat.le_of_ble_eq_true rfl) ?_
  intro x hg hR h hr hnm hnl
  subst hg
  obtain ⟨hY, ⟨r0, a0⟩, ⟨r1, a1⟩, ⟨r5, a5⟩, ⟨r6, a6⟩, ⟨r7, a7⟩, ⟨r9, a9⟩, ⟨r12, a12⟩, ⟨r13, a13⟩, ⟨r14, a14⟩, ⟨r15, a15⟩, r16, a16⟩ := id hM
  obtain ⟨w0, w1, w2, w3, w4, w5, w6, w7⟩ := id hW
  refine jv_aload_n h dX12_meet_0 rfl ?_
  refine jv_iload_n h dX12_meet_1 rfl ?_
  refine jv_VRi [_] h dX12_meet_2 cw_X12_81 cf_11 (by assumption) (cm_isPerson (by assumption) (by assumption) (by assumption) _) (by decide) rfl rfl (Nat.le_of_ble_eq_true rfl) ⟨Nat.zero_le _, Nat.zero_le _⟩ ?_
  refine jv_beq 33 h dX12_meet_5 (by decide) (fun c5 => ?_) (fun c5 => ?_)
  · refine jv_iconst (-1) h dX12_meet_33 (by decide) ?_
    exact jv_iret h hr dX12_meet_34 ⟨by unfold sp_meet; rw [if_neg (by simp_all)], rfl, rfl, rfl⟩
  · refine jv_aload_n h dX12_meet_8 rfl ?_
    refine jv_iload_n h dX12_meet_9 rfl ?_
    refine jv_VRi [_] h dX12_meet_10 cw_X12_81 cf_11 (by assumption) (cm_isPerson (by assumption) (by assumption) (by assumption) _) (by decide) rfl rfl (Nat.le_of_ble_eq_true rfl) ⟨Nat.zero_le _, Nat.zero_le _⟩ ?_
    refine jv_beq 33 h dX12_meet_13 (by decide) (fun c13 => ?_) (fun c13 => ?_)
    · refine jv_iconst (-1) h dX12_meet_33 (by decide) ?_
      exact jv_iret h hr dX12_meet_34 ⟨by unfold sp_meet; rw [if_neg (by simp_all)], rfl, rfl, rfl⟩
    · refine jv_iload_n h dX12_meet_16 rfl ?_
      refine jv_iload_n h dX12_meet_17 rfl ?_
      refine jv_icmp_eq 33 h dX12_meet_18 (by decide) (fun c18 => ?_) (fun c18 => ?_)
      · refine jv_iconst (-1) h dX12_meet_33 (by decide) ?_
        exact jv_iret h hr dX12_meet_34 ⟨by unfold sp_meet; rw [if_neg (by simp_all)], rfl, rfl, rfl⟩
      · refine jv_iload_n h dX12_meet_21 rfl ?_
        refine jv_i2l h dX12_meet_22 ?_
        refine jv_lconst (lN 0) h dX12_meet_23 (by decide) ?_
        refine jv_ldc2 h dX12_meet_24 gw_1027 ?_
        refine jv_SRi [_, _, _] h dX12_meet_27 cw_X12_44 (c_mwithin (m := 0) (n := 3) _ (by decide) (by decide)) (by decide) rfl rfl (Nat.le_of_ble_eq_true rfl) ⟨Nat.zero_le _, Nat.zero_le _⟩ ?_
        refine jv_bne 35 h dX12_meet_30 (by decide) (fun c30 => ?_) (fun c30 => ?_)
        · obtain ⟨i, rfl, -, hi⟩ := isB_t c5
          obtain ⟨i2, rfl, -, hi2⟩ := isB_t c13
          obtain ⟨w9, rfl, -, hw9⟩ := isB_t c30
          have hsp : sp_meet S (nI i) (nI i2) (nI w9) = meR S i i2 w9 0 61 := by
            unfold sp_meet
            rw [if_pos ⟨c5, c13, c18, c30⟩, pn_nI (by omega), pn_nI (by omega), pn_nI (by omega)]
          have w7i := w7 i hi
          have w7j := w7 i2 hi2
          refine jv_aload_n h dX12_meet_35 rfl ?_
          refine jv_iload_n h dX12_meet_36 rfl ?_
          refine jv_VRl [_] h dX12_meet_37 cw_X12_181 cf_11 (by assumption) (cm_state hM hN hW (NF_nI _) hi) (by decide) rfl rfl (Nat.le_of_ble_eq_true rfl) ⟨Nat.zero_le _, Nat.zero_le _⟩ ?_
          refine jv_lstore h dX12_meet_40 (lt_nl hnl (by decide)) ?_
          refine jv_aload_n h dX12_meet_42 rfl ?_
          refine jv_iload_n h dX12_meet_43 rfl ?_
          refine jv_VRl [_] h dX12_meet_44 cw_X12_181 cf_11 (by assumption) (cm_state hM hN hW (NF_nI _) hi2) (by decide) rfl rfl (Nat.le_of_ble_eq_true rfl) ⟨Nat.zero_le _, Nat.zero_le _⟩ ?_
          refine jv_lstore h dX12_meet_47 (lt_nl hnl (by decide)) ?_
          refine jv_iconst (nI 0) h dX12_meet_49 (by decide) ?_
          refine jv_istore h dX12_meet_50 (lt_nl hnl (by decide)) ?_
          have hl52 : ∀ (n : Nat) (n9 : Nat) (x1 x2 : Int64) (o9 o10 o11 o12 : Option Value), 62 - n9 < n → n9 ≤ 61 → meR S i i2 w9 n9 (61 - n9) = meR S i i2 w9 0 61 → BR x1 (wsA S (stA S i) (S (18 + 6 * i)) (S 1) n9) → BR x2 (wsA S (stA S i2) (S (18 + 6 * i2)) (S 1) n9) → V x 0 0 T Mi Ml 52 [some (.ref Y), some (.int (nI i)), some (.int (nI i2)), some (.int (nI w9)), some (.long x1), none, some (.long x2), none, some (.int (nI n9)), o9, o10, o11, o12] [] := by
            intro n
            induction n with
            | zero => intro n9 x1 x2 o9 o10 o11 o12 hN9 hn9 hz hx1 hx2; exact absurd hN9 (by omega)
            | succ n ih =>
              intro n9 x1 x2 o9 o10 o11 o12 hN9 hn9 hz hx1 hx2
              refine jv_iload h dX12_meet_52 rfl ?_
              refine jv_bipush (nI 61) h dX12_meet_54 (by decide) ?_
              refine jv_nge 199 h dX12_meet_56 (by decide) (by repeat (with_reducible first | exact NF_nI _ | assumption | refine NF_add ?_ ?_ | refine NF_mul ?_ ?_)) (by repeat (with_reducible first | exact NF_nI _ | assumption | refine NF_add ?_ ?_ | refine NF_mul ?_ ?_)) ⟨by omega, by omega⟩ (fun c56 => ?_) (fun c56 => ?_)
              · refine jv_bipush (-4) h dX12_meet_199 (by decide) ?_
                exact jv_iret h hr dX12_meet_201 ⟨by rw [hsp, ← hz, show 61 - n9 = 0 by omega]; rfl, rfl, rfl, rfl⟩
              · have hz9 := hz
                rw [show 61 - n9 = (61 - (n9 + 1)) + 1 by omega, meR_s] at hz9
                have ih52 := ih
                refine jv_aload_n h dX12_meet_59 rfl ?_
                refine jv_gr 0 h dX12_meet_60 cf_11 (by decide) gw_900 (by assumption) (by assumption) ?_
                refine jv_iconst (nI 1) h dX12_meet_63 (by decide) ?_
                refine jv_iav h dX12_meet_64 (by assumption) (by repeat (with_reducible first | exact NF_nI _ | assumption | refine NF_add ?_ ?_ | refine NF_mul ?_ ?_)) ⟨by omega, by decide⟩ (by first | assumption | exact hN.n0 | exact hN.n1 | exact hN.n2 | exact hN.n3 | exact hN.n4 | exact hN.n5 | exact hN.dy (by omega) | exact hN.p3 (by omega) | exact hN.p0 (by omega) | exact hN.p1 (by omega) | exact hN.p2 (by omega) | exact hN.p4 (by omega) | exact hN.p5 (by omega)) ?_
                refine jv_iload h dX12_meet_65 rfl ?_
                first | refine jv_iaddN h dX12_meet_67 (by repeat (with_reducible first | exact NF_nI _ | assumption | refine NF_add ?_ ?_ | refine NF_mul ?_ ?_)) (by repeat (with_reducible first | exact NF_nI _ | assumption | refine NF_add ?_ ?_ | refine NF_mul ?_ ?_)) ?_ | refine jv_iadd h dX12_meet_67 ?_
                refine jv_istore h dX12_meet_68 (lt_nl hnl (by decide)) ?_
                refine jv_aload_n h dX12_meet_70 rfl ?_
                refine jv_lload h dX12_meet_71 rfl ?_
                refine jv_iload h dX12_meet_73 rfl ?_
                refine jv_VGl [_, _] h dX12_meet_75 cw_X12_185 cf_11 (by assumption) (cm_allMoves hM hN hW hx1 (NF_nI _) (by omega)) (by decide) rfl rfl (Nat.le_of_ble_eq_true rfl) ⟨Nat.zero_le _, Nat.zero_le _⟩ (fun v_75 Mi75 Ml75 hp75 => ?_)
                obtain ⟨n1, n2, n3⟩ := hp75
                subst Mi75
                subst Ml75
                refine jv_lstore h dX12_meet_78 (lt_nl hnl (by decide)) ?_
                refine jv_aload_n h dX12_meet_80 rfl ?_
                refine jv_lload h dX12_meet_81 rfl ?_
                refine jv_iload h dX12_meet_83 rfl ?_
                refine jv_VGl [_, _] h dX12_meet_85 cw_X12_185 cf_11 (by assumption) (cm_allMoves hM hN hW hx2 (NF_nI _) (by omega)) (by decide) rfl rfl (Nat.le_of_ble_eq_true rfl) ⟨Nat.zero_le _, Nat.zero_le _⟩ (fun v_85 Mi85 Ml85 hp85 => ?_)
                obtain ⟨n1, n2, n4⟩ := hp85
                subst Mi85
                subst Ml85
                refine jv_lstore h dX12_meet_88 (lt_nl hnl (by decide)) ?_
                refine jv_lload h dX12_meet_90 rfl ?_
                refine jv_lload h dX12_meet_92 rfl ?_
                refine jv_land h dX12_meet_94 ?_
                refine jv_ldc2 h dX12_meet_95 gw_1169 ?_
                refine jv_land h dX12_meet_98 ?_
                have n5 := (n3.and n4).and BR.low
                refine jv_lstore h dX12_meet_99 (lt_nl hnl (by decide)) ?_
                refine jv_iconst (nI 0) h dX12_meet_101 (by decide) ?_
                refine jv_istore h dX12_meet_102 (lt_nl hnl (by decide)) ?_
                have hl104 : ∀ (n : Nat) (k : Nat), 43 - k < n → k ≤ 42 → fsN (fun k => whB S i k n9 && whB S i2 k n9) k (42 - k) = meF S i i2 n9 → V x 0 0 T Mi Ml 104 [some (.ref Y), some (.int (nI i)), some (.int (nI i2)), some (.int (nI w9)), some (.long v_75), none, some (.long v_85), none, some (.int (nI n9)), some (.int (nI (S 1 + n9))), some (.long (v_75 &&& v_85 &&& 4398046511103)), none, some (.int (nI k))] [] := by
                  intro n
                  induction n with
                  | zero => intro k hN8 hk42 hq; exact absurd hN8 (by omega)
                  | succ n ih =>
                    intro k hN8 hk42 hq
                    refine jv_iload h dX12_meet_104 rfl ?_
                    refine jv_bipush (nI 42) h dX12_meet_106 (by decide) ?_
                    refine jv_nge 157 h dX12_meet_108 (by decide) (by repeat (with_reducible first | exact NF_nI _ | assumption | refine NF_add ?_ ?_ | refine NF_mul ?_ ?_)) (by repeat (with_reducible first | exact NF_nI _ | assumption | refine NF_add ?_ ?_ | refine NF_mul ?_ ?_)) ⟨by omega, by omega⟩ (fun c108 => ?_) (fun c108 => ?_)
                    · have hme : meF S i i2 n9 = -4 := by rw [← hq, show 42 - k = 0 by omega]; rfl
                      rw [if_pos hme] at hz9
                      refine jv_aload_n h dX12_meet_157 rfl ?_
                      refine jv_lload h dX12_meet_158 rfl ?_
                      refine jv_aload_n h dX12_meet_160 rfl ?_
                      refine jv_iload_n h dX12_meet_161 rfl ?_
                      refine jv_iconst (nI 0) h dX12_meet_162 (by decide) ?_
                      refine jv_VRi [_, _] h dX12_meet_163 cw_X12_54 cf_11 (by assumption) (cm_told hM (NF_nI _) (NF_nI _) (by omega) (hN.p0 (by omega))) (by decide) rfl rfl (Nat.le_of_ble_eq_true rfl) ⟨Nat.zero_le _, Nat.zero_le _⟩ ?_
                      refine jv_iload h dX12_meet_166 rfl ?_
                      refine jv_iconst (nI 1) h dX12_meet_168 (by decide) ?_
                      first | refine jv_iaddN h dX12_meet_169 (by repeat (with_reducible first | exact NF_nI _ | assumption | refine NF_add ?_ ?_ | refine NF_mul ?_ ?_)) (by repeat (with_reducible first | exact NF_nI _ | assumption | refine NF_add ?_ ?_ | refine NF_mul ?_ ?_)) ?_ | refine jv_iadd h dX12_meet_169 ?_
                      refine jv_VGl [_, _, _] h dX12_meet_170 cw_X12_189 cf_11 (by assumption) (cm_turned hM hN hW n3 (NF_nI _) (by omega) (NF_nI _) (by omega)) (by decide) rfl rfl (Nat.le_of_ble_eq_true rfl) ⟨Nat.zero_le _, Nat.zero_le _⟩ (fun v_170 Mi170 Ml170 hp170 => ?_)
                      obtain ⟨n1, n2, n6⟩ := hp170
                      subst Mi170
                      subst Ml170
                      refine jv_lstore h dX12_meet_173 (lt_nl hnl (by decide)) ?_
                      refine jv_aload_n h dX12_meet_175 rfl ?_
                      refine jv_lload h dX12_meet_176 rfl ?_
                      refine jv_aload_n h dX12_meet_178 rfl ?_
                      refine jv_iload_n h dX12_meet_179 rfl ?_
                      refine jv_iconst (nI 0) h dX12_meet_180 (by decide) ?_
                      refine jv_VRi [_, _] h dX12_meet_181 cw_X12_54 cf_11 (by assumption) (cm_told hM (NF_nI _) (NF_nI _) (by omega) (hN.p0 (by omega))) (by decide) rfl rfl (Nat.le_of_ble_eq_true rfl) ⟨Nat.zero_le _, Nat.zero_le _⟩ ?_
                      refine jv_iload h dX12_meet_184 rfl ?_
                      refine jv_iconst (nI 1) h dX12_meet_186 (by decide) ?_
                      first | refine jv_iaddN h dX12_meet_187 (by repeat (with_reducible first | exact NF_nI _ | assumption | refine NF_add ?_ ?_ | refine NF_mul ?_ ?_)) (by repeat (with_reducible first | exact NF_nI _ | assumption | refine NF_add ?_ ?_ | refine NF_mul ?_ ?_)) ?_ | refine jv_iadd h dX12_meet_187 ?_
                      refine jv_VGl [_, _, _] h dX12_meet_188 cw_X12_189 cf_11 (by assumption) (cm_turned hM hN hW n4 (NF_nI _) (by omega) (NF_nI _) (by omega)) (by decide) rfl rfl (Nat.le_of_ble_eq_true rfl) ⟨Nat.zero_le _, Nat.zero_le _⟩ (fun v_188 Mi188 Ml188 hp188 => ?_)
                      obtain ⟨n1, n2, n7⟩ := hp188
                      subst Mi188
                      subst Ml188
                      refine jv_lstore h dX12_meet_191 (lt_nl hnl (by decide)) ?_
                      refine jv_iinc (nI (n9 + 1)) h dX12_meet_193 rfl (lt_nl hnl (by decide)) (nI_inc n9) ?_
                      refine jv_goto 52 h dX12_meet_196 (by decide) ?_
                      exact ih52 (n9 + 1) _ _ _ _ _ _ (by omega) (by omega) hz9 n6 n7
                    · refine jv_lload h dX12_meet_111 rfl ?_
                      refine jv_iload h dX12_meet_113 rfl ?_
                      refine jv_lshr h dX12_meet_115 ?_
                      refine jv_lconst (lN 1) h dX12_meet_116 (by decide) ?_
                      refine jv_land h dX12_meet_117 ?_
                      refine jv_lconst (lN 1) h dX12_meet_118 (by decide) ?_
                      refine jv_lcmp h dX12_meet_119 ?_
                      refine jv_if_ne 151 h dX12_meet_120 (by decide) (fun c120 => ?_) (fun c120 => ?_)
                      · rw [n5.bit1 (by omega), decide_eq_true (show k < 42 by omega), Bool.and_true, Bool.not_eq_true] at c120
                        have c120 : (whB S i k n9 && whB S i2 k n9) = false := c120
                        rw [show 42 - k = (42 - (k + 1)) + 1 by omega, fsN_s, if_neg (by rw [c120]; decide)] at hq
                        refine jv_iinc (nI (k + 1)) h dX12_meet_151 rfl (lt_nl hnl (by decide)) (nI_inc k) ?_
                        refine jv_goto 104 h dX12_meet_154 (by decide) ?_
                        exact ih (k + 1) (by omega) (by omega) hq
                      · rw [n5.bit1 (by omega), decide_eq_true (show k < 42 by omega), Bool.and_true] at c120
                        have c120 : (whB S i k n9 && whB S i2 k n9) = true := c120
                        rw [show 42 - k = (42 - (k + 1)) + 1 by omega, fsN_s, if_pos c120] at hq
                        have hme : meF S i i2 n9 = nI k := hq.symm
                        have hmn : ¬ meF S i i2 n9 = -4 := by rw [hme]; exact nI_ne4 (by omega)
                        rw [if_neg hmn, hme] at hz9
                        unfold meA at hz9
                        rw [pn_nI (by omega)] at hz9
                        refine jv_iload_n h dX12_meet_123 rfl ?_
                        refine jv_zne 132 h dX12_meet_124 (by decide) (by repeat (with_reducible first | exact NF_nI _ | assumption | refine NF_add ?_ ?_ | refine NF_mul ?_ ?_)) (by omega) (fun c124 => ?_) (fun c124 => ?_)
                        · refine jv_iload_n h dX12_meet_132 rfl ?_
                          refine jv_iconst (nI 1) h dX12_meet_133 (by decide) ?_
                          refine jv_nne 145 h dX12_meet_134 (by decide) (by repeat (with_reducible first | exact NF_nI _ | assumption | refine NF_add ?_ ?_ | refine NF_mul ?_ ?_)) (by repeat (with_reducible first | exact NF_nI _ | assumption | refine NF_add ?_ ?_ | refine NF_mul ?_ ?_)) ⟨by omega, by omega⟩ (fun c134 => ?_) (fun c134 => ?_)
                          · refine jv_iload h dX12_meet_145 rfl ?_
                            refine jv_bipush (nI 7) h dX12_meet_147 (by decide) ?_
                            refine jv_iremN h dX12_meet_149 (by repeat (with_reducible first | exact NF_nI _ | assumption | refine NF_add ?_ ?_ | refine NF_mul ?_ ?_)) (by repeat (with_reducible first | exact NF_nI _ | assumption | refine NF_add ?_ ?_ | refine NF_mul ?_ ?_)) (by omega) ⟨by omega, by omega⟩ ?_
                            exact jv_iret h hr dX12_meet_150 ⟨by
      rw [hsp, ← hz9]
      first
      | rw [if_pos c124]
      | rw [if_neg c124, if_pos c134]
      | rw [if_neg c124, if_neg c134], rfl, rfl, rfl⟩
                          · refine jv_iload h dX12_meet_137 rfl ?_
                            refine jv_bipush (nI 7) h dX12_meet_139 (by decide) ?_
                            refine jv_idivN h dX12_meet_141 (by repeat (with_reducible first | exact NF_nI _ | assumption | refine NF_add ?_ ?_ | refine NF_mul ?_ ?_)) (by repeat (with_reducible first | exact NF_nI _ | assumption | refine NF_add ?_ ?_ | refine NF_mul ?_ ?_)) (by omega) ⟨by omega, by omega⟩ ?_
                            refine jv_goto 150 h dX12_meet_142 (by decide) ?_
                            exact jv_iret h hr dX12_meet_150 ⟨by
      rw [hsp, ← hz9]
      first
      | rw [if_pos c124]
      | rw [if_neg c124, if_pos c134]
      | rw [if_neg c124, if_neg c134], rfl, rfl, rfl⟩
                        · refine jv_iload h dX12_meet_127 rfl ?_
                          refine jv_goto 150 h dX12_meet_129 (by decide) ?_
                          exact jv_iret h hr dX12_meet_150 ⟨by
      rw [hsp, ← hz9]
      first
      | rw [if_pos c124]
      | rw [if_neg c124, if_pos c134]
      | rw [if_neg c124, if_neg c134], rfl, rfl, rfl⟩
                exact hl104 44 0 (by omega) (by omega) rfl
          exact hl52 63 0 _ _ _ _ _ _ (by omega) (by omega) rfl (BR.st hW hi) (BR.st hW hi2)
        · refine jv_iconst (-1) h dX12_meet_33 (by decide) ?_
          exact jv_iret h hr dX12_meet_34 ⟨by unfold sp_meet; rw [if_neg (by simp_all)], rfl, rfl, rfl⟩
set_option maxHeartbeats 4000000 in
set_option maxRecDepth 100000 in
theorem cm_swaps {g : GT} {T : TT} {Mi : MI} {Ml : ML} {Y : Nat} {S : Nat → Nat} (hM : ModS g T Y) (hN : NowR Mi (Y + 1) S) (hW : WF S) {u v : Int32} {k l : Nat} (hu : NF u k) (hv : NF v l) (hkl : k < 12 ∧ l < 12) : Ct g yX12_swaps cX12_swaps 4 none 1 0 0 [.ref Y, .int u, .int v] T Mi Ml (Gv T (fun Mi' Ml' => Mi' = upd2 (upd2 Mi (Y + 1) (6 + k) (Mi (Y + 1) (6 + l))) (Y + 1) (6 + l) (Mi (Y + 1) (6 + k)) ∧ Ml' = Ml)) := by
  refine Ct.of' (plainFor_of_name (by decide +kernel)) (by exact Nat.le_of_ble_eq_true rfl) ?_
  intro x hg hR h hr hnm hnl
  subst hg
  obtain ⟨hY, ⟨r0, a0⟩, ⟨r1, a1⟩, ⟨r5, a5⟩, ⟨r6, a6⟩, ⟨r7, a7⟩, ⟨r9, a9⟩, ⟨r12, a12⟩, ⟨r13, a13⟩, ⟨r14, a14⟩, ⟨r15, a15⟩, r16, a16⟩ := id hM
  obtain ⟨w0, w1, w2, w3, w4, w5, w6, w7⟩ := id hW
  obtain rfl : u = nI k := hu
  obtain rfl : v = nI l := hv
  refine jv_aload_n h dX12_swaps_0 rfl ?_
  refine jv_gr 0 h dX12_swaps_1 cf_11 (by decide) gw_900 (by assumption) (by assumption) ?_
  refine jv_bipush (nI 6) h dX12_swaps_4 (by decide) ?_
  refine jv_iload_n h dX12_swaps_6 rfl ?_
  first | refine jv_iaddN h dX12_swaps_7 (by repeat (with_reducible first | exact NF_nI _ | assumption | refine NF_add ?_ ?_ | refine NF_mul ?_ ?_)) (by repeat (with_reducible first | exact NF_nI _ | assumption | refine NF_add ?_ ?_ | refine NF_mul ?_ ?_)) ?_ | refine jv_iadd h dX12_swaps_7 ?_
  refine jv_iald h dX12_swaps_8 (by assumption) (by repeat (with_reducible first | exact NF_nI _ | assumption | refine NF_add ?_ ?_ | refine NF_mul ?_ ?_)) ⟨by omega, by decide⟩ ?_
  refine jv_istore_n h dX12_swaps_9 (lt_nl hnl (by decide)) ?_
  refine jv_aload_n h dX12_swaps_10 rfl ?_
  refine jv_gr 0 h dX12_swaps_11 cf_11 (by decide) gw_900 (by assumption) (by assumption) ?_
  refine jv_bipush (nI 6) h dX12_swaps_14 (by decide) ?_
  refine jv_iload_n h dX12_swaps_16 rfl ?_
  first | refine jv_iaddN h dX12_swaps_17 (by repeat (with_reducible first | exact NF_nI _ | assumption | refine NF_add ?_ ?_ | refine NF_mul ?_ ?_)) (by repeat (with_reducible first | exact NF_nI _ | assumption | refine NF_add ?_ ?_ | refine NF_mul ?_ ?_)) ?_ | refine jv_iadd h dX12_swaps_17 ?_
  refine jv_aload_n h dX12_swaps_18 rfl ?_
  refine jv_gr 0 h dX12_swaps_19 cf_11 (by decide) gw_900 (by assumption) (by assumption) ?_
  refine jv_bipush (nI 6) h dX12_swaps_22 (by decide) ?_
  refine jv_iload_n h dX12_swaps_24 rfl ?_
  first | refine jv_iaddN h dX12_swaps_25 (by repeat (with_reducible first | exact NF_nI _ | assumption | refine NF_add ?_ ?_ | refine NF_mul ?_ ?_)) (by repeat (with_reducible first | exact NF_nI _ | assumption | refine NF_add ?_ ?_ | refine NF_mul ?_ ?_)) ?_ | refine jv_iadd h dX12_swaps_25 ?_
  refine jv_iald h dX12_swaps_26 (by assumption) (by repeat (with_reducible first | exact NF_nI _ | assumption | refine NF_add ?_ ?_ | refine NF_mul ?_ ?_)) ⟨by omega, by decide⟩ ?_
  refine jv_iast h dX12_swaps_27 (by assumption) (by repeat (with_reducible first | exact NF_nI _ | assumption | refine NF_add ?_ ?_ | refine NF_mul ?_ ?_)) ⟨by omega, by decide⟩ ?_
  refine jv_aload_n h dX12_swaps_28 rfl ?_
  refine jv_gr 0 h dX12_swaps_29 cf_11 (by decide) gw_900 (by assumption) (by assumption) ?_
  refine jv_bipush (nI 6) h dX12_swaps_32 (by decide) ?_
  refine jv_iload_n h dX12_swaps_34 rfl ?_
  first | refine jv_iaddN h dX12_swaps_35 (by repeat (with_reducible first | exact NF_nI _ | assumption | refine NF_add ?_ ?_ | refine NF_mul ?_ ?_)) (by repeat (with_reducible first | exact NF_nI _ | assumption | refine NF_add ?_ ?_ | refine NF_mul ?_ ?_)) ?_ | refine jv_iadd h dX12_swaps_35 ?_
  refine jv_iload_n h dX12_swaps_36 rfl ?_
  refine jv_iast h dX12_swaps_37 (by assumption) (by repeat (with_reducible first | exact NF_nI _ | assumption | refine NF_add ?_ ?_ | refine NF_mul ?_ ?_)) ⟨by omega, by decide⟩ ?_
  exact jv_vret h hr dX12_swaps_38 ⟨rfl, rfl, rfl, rfl⟩
set_option maxHeartbeats 4000000 in
set_option maxRecDepth 100000 in
theorem cm_changed {g : GT} {T : TT} {Mi : MI} {Ml : ML} {Y : Nat} {S : Nat → Nat} (hM : ModS g T Y) (hN : NowR Mi (Y + 1) S) (hW : WF S) (h19 : S 1 ≤ 9999) (p f d w : Int32) : Ct g yX12_changed cX12_changed 13 (some .int) 6 0 0 [.ref Y, .int p, .int f, .int d, .int w] T Mi Ml (Ri T Mi Ml (sp_changed S p f d w)) := by
  refine Ct.of' (plainFor_of_name (by decide +kernel)) (by exact Nat.le_of_ble_eq_true rfl) ?_
  intro x hg hR h hr hnm hnl
  subst hg
  obtain ⟨hY, ⟨r0, a0⟩, ⟨r1, a1⟩, ⟨r5, a5⟩, ⟨r6, a6⟩, ⟨r7, a7⟩, ⟨r9, a9⟩, ⟨r12, a12⟩, ⟨r13, a13⟩, ⟨r14, a14⟩, ⟨r15, a15⟩, r16, a16⟩ := id hM
  obtain ⟨w0, w1, w2, w3, w4, w5, w6, w7⟩ := id hW
  refine jv_aload_n h dX12_changed_0 rfl ?_
  refine jv_iload_n h dX12_changed_1 rfl ?_
  refine jv_VRi [_] h dX12_changed_2 cw_X12_81 cf_11 (by assumption) (cm_isPerson (by assumption) (by assumption) (by assumption) _) (by decide) rfl rfl (Nat.le_of_ble_eq_true rfl) ⟨Nat.zero_le _, Nat.zero_le _⟩ ?_
  refine jv_beq 34 h dX12_changed_5 (by decide) (fun c5 => ?_) (fun c5 => ?_)
  · refine jv_iconst (-1) h dX12_changed_34 (by decide) ?_
    exact jv_iret h hr dX12_changed_35 ⟨by unfold sp_changed; rw [if_neg (by simp_all)], rfl, rfl, rfl⟩
  · refine jv_aload_n h dX12_changed_8 rfl ?_
    refine jv_iload_n h dX12_changed_9 rfl ?_
    refine jv_VRi [_] h dX12_changed_10 cw_X12_70 cf_11 (by assumption) (cm_isFloor (by assumption) (by assumption) (by assumption) _) (by decide) rfl rfl (Nat.le_of_ble_eq_true rfl) ⟨Nat.zero_le _, Nat.zero_le _⟩ ?_
    refine jv_beq 34 h dX12_changed_13 (by decide) (fun c13 => ?_) (fun c13 => ?_)
    · refine jv_iconst (-1) h dX12_changed_34 (by decide) ?_
      exact jv_iret h hr dX12_changed_35 ⟨by unfold sp_changed; rw [if_neg (by simp_all)], rfl, rfl, rfl⟩
    · refine jv_iload_n h dX12_changed_16 rfl ?_
      refine jv_SRi [_] h dX12_changed_17 cw_X12_74 (cm_isDay _) (by decide) rfl rfl (Nat.le_of_ble_eq_true rfl) ⟨Nat.zero_le _, Nat.zero_le _⟩ ?_
      refine jv_beq 34 h dX12_changed_20 (by decide) (fun c20 => ?_) (fun c20 => ?_)
      · refine jv_iconst (-1) h dX12_changed_34 (by decide) ?_
        exact jv_iret h hr dX12_changed_35 ⟨by unfold sp_changed; rw [if_neg (by simp_all)], rfl, rfl, rfl⟩
      · refine jv_iload h dX12_changed_23 rfl ?_
        refine jv_i2l h dX12_changed_25 ?_
        refine jv_lconst (lN 0) h dX12_changed_26 (by decide) ?_
        refine jv_lconst (lN 1) h dX12_changed_27 (by decide) ?_
        refine jv_SRi [_, _, _] h dX12_changed_28 cw_X12_44 (c_mwithin (m := 0) (n := 2) _ (by decide) (by decide)) (by decide) rfl rfl (Nat.le_of_ble_eq_true rfl) ⟨Nat.zero_le _, Nat.zero_le _⟩ ?_
        refine jv_bne 36 h dX12_changed_31 (by decide) (fun c31 => ?_) (fun c31 => ?_)
        · obtain ⟨i, rfl, -, hi⟩ := isB_t c5
          obtain ⟨f9, rfl, -, hf9⟩ := isB_t c13
          obtain ⟨d9, rfl, -, hd9⟩ := isB_t c20
          obtain ⟨w9, rfl, -, hw9⟩ := isB_t c31
          have hsp : sp_changed S (nI i) (nI f9) (nI d9) (nI w9) = bcI (chZ S i (f9 * 7 + d9)) (decide (w9 = 1)) := by
            unfold sp_changed
            rw [if_pos ⟨c5, c13, c20, c31⟩, pn_nI (by omega), pn_nI (by omega), pn_nI (by omega), pn_nI (by omega)]
          have w7i := w7 i hi
          refine jv_bipush (nI 7) h dX12_changed_36 (by decide) ?_
          refine jv_iload_n h dX12_changed_38 rfl ?_
          first | refine jv_imulN h dX12_changed_39 (by repeat (with_reducible first | exact NF_nI _ | assumption | refine NF_add ?_ ?_ | refine NF_mul ?_ ?_)) (by repeat (with_reducible first | exact NF_nI _ | assumption | refine NF_add ?_ ?_ | refine NF_mul ?_ ?_)) ?_ | refine jv_imul h dX12_changed_39 ?_
          refine jv_iload_n h dX12_changed_40 rfl ?_
          first | refine jv_iaddN h dX12_changed_41 (by repeat (with_reducible first | exact NF_nI _ | assumption | refine NF_add ?_ ?_ | refine NF_mul ?_ ?_)) (by repeat (with_reducible first | exact NF_nI _ | assumption | refine NF_add ?_ ?_ | refine NF_mul ?_ ?_)) ?_ | refine jv_iadd h dX12_changed_41 ?_
          rw [show 7 * f9 + d9 = f9 * 7 + d9 by omega]
          refine jv_istore h dX12_changed_42 (lt_nl hnl (by decide)) ?_
          refine jv_aload_n h dX12_changed_44 rfl ?_
          refine jv_iload_n h dX12_changed_45 rfl ?_
          refine jv_iload h dX12_changed_46 rfl ?_
          refine jv_iconst (-1) h dX12_changed_48 (by decide) ?_
          refine jv_VRi [_, _, _] h dX12_changed_49 cw_X12_192 cf_11 (by assumption) (cm_soonestBy (e := 0) hM hN hW h19 (NF_nI _) hi (NF_nI _) (by omega) rfl (by omega)) (by decide) rfl rfl (Nat.le_of_ble_eq_true rfl) ⟨Nat.zero_le _, Nat.zero_le _⟩ ?_
          rw [sb_0]
          refine jv_istore h dX12_changed_52 (lt_nl hnl (by decide)) ?_
          have hj68 : ∀ (v9 : Int32), v9 = nI (bst0 (snI S i (f9 * 7 + d9))) → V x 0 0 T Mi Ml 68 [some (.ref Y), some (.int (nI i)), some (.int (nI f9)), some (.int (nI d9)), some (.int (nI w9)), some (.int (nI (f9 * 7 + d9))), some (.int (snI S i (f9 * 7 + d9))), none, none, none, none, none, none] [.int v9] := by
            intro v9 hv9
            subst hv9
            refine jv_istore h dX12_changed_68 (lt_nl hnl (by decide)) ?_
            refine jv_bipush (-4) h dX12_changed_70 (by decide) ?_
            refine jv_istore h dX12_changed_72 (lt_nl hnl (by decide)) ?_
            refine jv_iconst (nI 0) h dX12_changed_74 (by decide) ?_
            refine jv_istore h dX12_changed_75 (lt_nl hnl (by decide)) ?_
            have hl77 : ∀ (n : Nat) (k : Nat) (o10 o11 o12 : Option Value), 13 - k < n → k ≤ 2 * S 2 → V x 0 0 T Mi Ml 77 [some (.ref Y), some (.int (nI i)), some (.int (nI f9)), some (.int (nI d9)), some (.int (nI w9)), some (.int (nI (f9 * 7 + d9))), some (.int (snI S i (f9 * 7 + d9))), some (.int (nI (ouF (mstp S (stA S i) (S (18 + 6 * i)) (S 1) (f9 * 7 + d9)) (2 * S 2) (bst0 (snI S i (f9 * 7 + d9)), -4) k).1)), some (.int (ouF (mstp S (stA S i) (S (18 + 6 * i)) (S 1) (f9 * 7 + d9)) (2 * S 2) (bst0 (snI S i (f9 * 7 + d9)), -4) k).2), some (.int (nI k)), o10, o11, o12] [] := by
              intro n
              induction n with
              | zero => intro k o10 o11 o12 hN9 hk; exact absurd hN9 (by omega)
              | succ n ih =>
                intro k o10 o11 o12 hN9 hk
                refine jv_iload h dX12_changed_77 rfl ?_
                refine jv_aload_n h dX12_changed_79 rfl ?_
                refine jv_VRi [] h dX12_changed_80 cw_X12_48 cf_11 (by assumption) (cm_many (by assumption) (by assumption) (by assumption)) (by decide) rfl rfl (Nat.le_of_ble_eq_true rfl) ⟨Nat.zero_le _, Nat.zero_le _⟩ ?_
                refine jv_nge 194 h dX12_changed_83 (by decide) (by repeat (with_reducible first | exact NF_nI _ | assumption | refine NF_add ?_ ?_ | refine NF_mul ?_ ?_)) (by repeat (with_reducible first | exact NF_nI _ | assumption | refine NF_add ?_ ?_ | refine NF_mul ?_ ?_)) ⟨by omega, by omega⟩ (fun c83 => ?_) (fun c83 => ?_)
                · refine jv_iload h dX12_changed_194 rfl ?_
                  refine jv_zeq 206 h dX12_changed_196 (by decide) (by repeat (with_reducible first | exact NF_nI _ | assumption | refine NF_add ?_ ?_ | refine NF_mul ?_ ?_)) (by omega) (fun c196 => ?_) (fun c196 => ?_)
                  · refine jv_iload h dX12_changed_206 rfl ?_
                    refine jv_goto 213 h dX12_changed_208 (by decide) ?_
                    exact jv_iret h hr dX12_changed_213 ⟨by
      rw [hsp]
      have hkz : chZ S i (f9 * 7 + d9) = (ouF (mstp S (stA S i) (S (18 + 6 * i)) (S 1) (f9 * 7 + d9)) (2 * S 2) (bst0 (snI S i (f9 * 7 + d9)), -4) k) := by unfold chZ; rw [show k = 2 * S 2 by omega]
      rw [hkz]
      refine congrArg (fun z => some (Value.int z)) ?_
      first
      | (have q_c := c203; exact bc_a (decide_eq_true (show w9 = 1 by omega)) q_c)
      | (have q_c := c203; exact bc_b (Classical.not_not.mp q_c))
      | (have q_c := c203; exact bc_b q_c)
      | exact bc_c (decide_eq_false (show ¬ w9 = 1 by omega)), rfl, rfl, rfl⟩
                  · refine jv_iload h dX12_changed_199 rfl ?_
                    refine jv_bipush (-4) h dX12_changed_201 (by decide) ?_
                    refine jv_icmp_ne 211 h dX12_changed_203 (by decide) (fun c203 => ?_) (fun c203 => ?_)
                    · refine jv_iload h dX12_changed_211 rfl ?_
                      exact jv_iret h hr dX12_changed_213 ⟨by
      rw [hsp]
      have hkz : chZ S i (f9 * 7 + d9) = (ouF (mstp S (stA S i) (S (18 + 6 * i)) (S 1) (f9 * 7 + d9)) (2 * S 2) (bst0 (snI S i (f9 * 7 + d9)), -4) k) := by unfold chZ; rw [show k = 2 * S 2 by omega]
      rw [hkz]
      refine congrArg (fun z => some (Value.int z)) ?_
      first
      | (have q_c := c203; exact bc_a (decide_eq_true (show w9 = 1 by omega)) q_c)
      | (have q_c := c203; exact bc_b (Classical.not_not.mp q_c))
      | (have q_c := c203; exact bc_b q_c)
      | exact bc_c (decide_eq_false (show ¬ w9 = 1 by omega)), rfl, rfl, rfl⟩
                    · refine jv_iload h dX12_changed_206 rfl ?_
                      refine jv_goto 213 h dX12_changed_208 (by decide) ?_
                      exact jv_iret h hr dX12_changed_213 ⟨by
      rw [hsp]
      have hkz : chZ S i (f9 * 7 + d9) = (ouF (mstp S (stA S i) (S (18 + 6 * i)) (S 1) (f9 * 7 + d9)) (2 * S 2) (bst0 (snI S i (f9 * 7 + d9)), -4) k) := by unfold chZ; rw [show k = 2 * S 2 by omega]
      rw [hkz]
      refine congrArg (fun z => some (Value.int z)) ?_
      first
      | (have q_c := c203; exact bc_a (decide_eq_true (show w9 = 1 by omega)) q_c)
      | (have q_c := c203; exact bc_b (Classical.not_not.mp q_c))
      | (have q_c := c203; exact bc_b q_c)
      | exact bc_c (decide_eq_false (show ¬ w9 = 1 by omega)), rfl, rfl, rfl⟩
                · refine jv_iload h dX12_changed_86 rfl ?_
                  refine jv_iconst (nI 1) h dX12_changed_88 (by decide) ?_
                  first | refine jv_iaddN h dX12_changed_89 (by repeat (with_reducible first | exact NF_nI _ | assumption | refine NF_add ?_ ?_ | refine NF_mul ?_ ?_)) (by repeat (with_reducible first | exact NF_nI _ | assumption | refine NF_add ?_ ?_ | refine NF_mul ?_ ?_)) ?_ | refine jv_iadd h dX12_changed_89 ?_
                  refine jv_istore h dX12_changed_90 (lt_nl hnl (by decide)) ?_
                  have ih77 := ih
                  have hl92 : ∀ (n : Nat) (l : Nat) (o11 o12 : Option Value), 13 - l < n → k + 1 ≤ l → l ≤ 2 * S 2 → V x 0 0 T Mi Ml 92 [some (.ref Y), some (.int (nI i)), some (.int (nI f9)), some (.int (nI d9)), some (.int (nI w9)), some (.int (nI (f9 * 7 + d9))), some (.int (snI S i (f9 * 7 + d9))), some (.int (nI (inF (mstp S (stA S i) (S (18 + 6 * i)) (S 1) (f9 * 7 + d9)) k (ouF (mstp S (stA S i) (S (18 + 6 * i)) (S 1) (f9 * 7 + d9)) (2 * S 2) (bst0 (snI S i (f9 * 7 + d9)), -4) k) (l - (k + 1))).1)), some (.int (inF (mstp S (stA S i) (S (18 + 6 * i)) (S 1) (f9 * 7 + d9)) k (ouF (mstp S (stA S i) (S (18 + 6 * i)) (S 1) (f9 * 7 + d9)) (2 * S 2) (bst0 (snI S i (f9 * 7 + d9)), -4) k) (l - (k + 1))).2), some (.int (nI k)), some (.int (nI l)), o11, o12] [] := by
                    intro n
                    induction n with
                    | zero => intro l o11 o12 hN8 hkl hlN; exact absurd hN8 (by omega)
                    | succ n ih =>
                      intro l o11 o12 hN8 hkl hlN
                      have hzl : (inF (mstp S (stA S i) (S (18 + 6 * i)) (S 1) (f9 * 7 + d9)) k (ouF (mstp S (stA S i) (S (18 + 6 * i)) (S 1) (f9 * 7 + d9)) (2 * S 2) (bst0 (snI S i (f9 * 7 + d9)), -4) k) (l - (k + 1))).1 ≤ 61 := zm_le k _
                      refine jv_iload h dX12_changed_92 rfl ?_
                      refine jv_aload_n h dX12_changed_94 rfl ?_
                      refine jv_VRi [] h dX12_changed_95 cw_X12_48 cf_11 (by assumption) (cm_many (by assumption) (by assumption) (by assumption)) (by decide) rfl rfl (Nat.le_of_ble_eq_true rfl) ⟨Nat.zero_le _, Nat.zero_le _⟩ ?_
                      refine jv_nge 188 h dX12_changed_98 (by decide) (by repeat (with_reducible first | exact NF_nI _ | assumption | refine NF_add ?_ ?_ | refine NF_mul ?_ ?_)) (by repeat (with_reducible first | exact NF_nI _ | assumption | refine NF_add ?_ ?_ | refine NF_mul ?_ ?_)) ⟨by omega, by omega⟩ (fun c98 => ?_) (fun c98 => ?_)
                      · have h6 : (inF (mstp S (stA S i) (S (18 + 6 * i)) (S 1) (f9 * 7 + d9)) k (ouF (mstp S (stA S i) (S (18 + 6 * i)) (S 1) (f9 * 7 + d9)) (2 * S 2) (bst0 (snI S i (f9 * 7 + d9)), -4) k) (l - (k + 1))) = ouF (mstp S (stA S i) (S (18 + 6 * i)) (S 1) (f9 * 7 + d9)) (2 * S 2) (bst0 (snI S i (f9 * 7 + d9)), -4) (k + 1) := by rw [show l = 2 * S 2 by omega]; rfl
                        refine jv_iinc (nI (k + 1)) h dX12_changed_188 rfl (lt_nl hnl (by decide)) (nI_inc k) ?_
                        refine jv_goto 77 h dX12_changed_191 (by decide) ?_
                        have hI := ih77 (k + 1) (some (.int (nI l))) o11 o12 (by omega) (by omega)
                        rw [← h6] at hI
                        exact hI
                      · have w6k := w6 k (by omega)
                        have w6l := w6 l (by omega)
                        have e9 : (inF (mstp S (stA S i) (S (18 + 6 * i)) (S 1) (f9 * 7 + d9)) k (ouF (mstp S (stA S i) (S (18 + 6 * i)) (S 1) (f9 * 7 + d9)) (2 * S 2) (bst0 (snI S i (f9 * 7 + d9)), -4) k) (l + 1 - (k + 1))) = (mstp S (stA S i) (S (18 + 6 * i)) (S 1) (f9 * 7 + d9) k l (inF (mstp S (stA S i) (S (18 + 6 * i)) (S 1) (f9 * 7 + d9)) k (ouF (mstp S (stA S i) (S (18 + 6 * i)) (S 1) (f9 * 7 + d9)) (2 * S 2) (bst0 (snI S i (f9 * 7 + d9)), -4) k) (l - (k + 1)))) := by
                          rw [show l + 1 - (k + 1) = (l - (k + 1)) + 1 by omega]
                          show mstp S (stA S i) (S (18 + 6 * i)) (S 1) (f9 * 7 + d9) k (k + 1 + (l - (k + 1))) _ = _
                          rw [show k + 1 + (l - (k + 1)) = l by omega]
                        refine jv_aload_n h dX12_changed_101 rfl ?_
                        refine jv_iload h dX12_changed_102 rfl ?_
                        refine jv_iload h dX12_changed_104 rfl ?_
                        refine jv_VGv [_, _] h dX12_changed_106 cw_X12_198 cf_11 (by assumption) (cm_swaps hM hN hW (NF_nI _) (NF_nI _) ⟨by omega, by omega⟩) (by decide) rfl rfl (Nat.le_of_ble_eq_true rfl) ⟨Nat.zero_le _, Nat.zero_le _⟩ (fun Mi106 Ml106 hp106 => ?_)
                        have hm9 := hp106.2
                        subst Ml106
                        obtain ⟨rfl, -⟩ := hp106
                        refine jv_aload_n h dX12_changed_109 rfl ?_
                        refine jv_iload_n h dX12_changed_110 rfl ?_
                        refine jv_iload h dX12_changed_111 rfl ?_
                        refine jv_iconst (-1) h dX12_changed_113 (by decide) ?_
                        refine jv_VRi [_, _, _] h dX12_changed_114 cw_X12_192 cf_11 (by assumption) (cm_soonestBy (e := 0) hM (hN.sw (by omega) (by omega)) (swS_WF hW (by omega) (by omega)) (by rw [swS_o (by omega) (by omega)]; exact h19) (NF_nI _) (by rw [swS_o (by omega) (by omega)]; exact hi) (NF_nI _) (by omega) rfl (by omega)) (by decide) rfl rfl (Nat.le_of_ble_eq_true rfl) ⟨Nat.zero_le _, Nat.zero_le _⟩ ?_
                        rw [sb_0, sn_sw (by omega) (by omega)]
                        refine jv_istore h dX12_changed_117 (lt_nl hnl (by decide)) ?_
                        refine jv_aload_n h dX12_changed_119 rfl ?_
                        refine jv_iload h dX12_changed_120 rfl ?_
                        refine jv_iload h dX12_changed_122 rfl ?_
                        refine jv_VGv [_, _] h dX12_changed_124 cw_X12_198 cf_11 (by assumption) (cm_swaps hM (hN.sw (by omega) (by omega)) (swS_WF hW (show k < 2 * S 2 by omega) (show l < 2 * S 2 by omega)) (NF_nI _) (NF_nI _) ⟨by omega, by omega⟩) (by decide) rfl rfl (Nat.le_of_ble_eq_true rfl) ⟨Nat.zero_le _, Nat.zero_le _⟩ (fun Mi124 Ml124 hp124 => ?_)
                        obtain ⟨hm8, hm9⟩ := hp124
                        subst Ml124
                        rw [upd_back2] at hm8
                        subst Mi124
                        have hj146 : ∀ (b9 : Bool), (b9 = true ↔ ((fsN (wmB (swS S k l) (stA S i) (S (18 + 6 * i)) (S 1) (f9 * 7 + d9)) 0 61) ≠ -4 ∧ pn (fsN (wmB (swS S k l) (stA S i) (S (18 + 6 * i)) (S 1) (f9 * 7 + d9)) 0 61) < (inF (mstp S (stA S i) (S (18 + 6 * i)) (S 1) (f9 * 7 + d9)) k (ouF (mstp S (stA S i) (S (18 + 6 * i)) (S 1) (f9 * 7 + d9)) (2 * S 2) (bst0 (snI S i (f9 * 7 + d9)), -4) k) (l - (k + 1))).1)) → V x 0 0 T Mi Ml 146 [some (.ref Y), some (.int (nI i)), some (.int (nI f9)), some (.int (nI d9)), some (.int (nI w9)), some (.int (nI (f9 * 7 + d9))), some (.int (snI S i (f9 * 7 + d9))), some (.int (nI (inF (mstp S (stA S i) (S (18 + 6 * i)) (S 1) (f9 * 7 + d9)) k (ouF (mstp S (stA S i) (S (18 + 6 * i)) (S 1) (f9 * 7 + d9)) (2 * S 2) (bst0 (snI S i (f9 * 7 + d9)), -4) k) (l - (k + 1))).1)), some (.int (inF (mstp S (stA S i) (S (18 + 6 * i)) (S 1) (f9 * 7 + d9)) k (ouF (mstp S (stA S i) (S (18 + 6 * i)) (S 1) (f9 * 7 + d9)) (2 * S 2) (bst0 (snI S i (f9 * 7 + d9)), -4) k) (l - (k + 1))).2), some (.int (nI k)), some (.int (nI l)), some (.int (fsN (wmB (swS S k l) (stA S i) (S (18 + 6 * i)) (S 1) (f9 * 7 + d9)) 0 61)), o12] [.int (bI b9)] := by
                          intro b9 hb9
                          refine jv_istore h dX12_changed_146 (lt_nl hnl (by decide)) ?_
                          have hj166 : ∀ (p9 : Int32), p9 = (mstp S (stA S i) (S (18 + 6 * i)) (S 1) (f9 * 7 + d9) k l (inF (mstp S (stA S i) (S (18 + 6 * i)) (S 1) (f9 * 7 + d9)) k (ouF (mstp S (stA S i) (S (18 + 6 * i)) (S 1) (f9 * 7 + d9)) (2 * S 2) (bst0 (snI S i (f9 * 7 + d9)), -4) k) (l - (k + 1)))).2 → V x 0 0 T Mi Ml 166 [some (.ref Y), some (.int (nI i)), some (.int (nI f9)), some (.int (nI d9)), some (.int (nI w9)), some (.int (nI (f9 * 7 + d9))), some (.int (snI S i (f9 * 7 + d9))), some (.int (nI (inF (mstp S (stA S i) (S (18 + 6 * i)) (S 1) (f9 * 7 + d9)) k (ouF (mstp S (stA S i) (S (18 + 6 * i)) (S 1) (f9 * 7 + d9)) (2 * S 2) (bst0 (snI S i (f9 * 7 + d9)), -4) k) (l - (k + 1))).1)), some (.int (inF (mstp S (stA S i) (S (18 + 6 * i)) (S 1) (f9 * 7 + d9)) k (ouF (mstp S (stA S i) (S (18 + 6 * i)) (S 1) (f9 * 7 + d9)) (2 * S 2) (bst0 (snI S i (f9 * 7 + d9)), -4) k) (l - (k + 1))).2), some (.int (nI k)), some (.int (nI l)), some (.int (fsN (wmB (swS S k l) (stA S i) (S (18 + 6 * i)) (S 1) (f9 * 7 + d9)) 0 61)), some (.int (bI b9))] [.int p9] := by
                            intro p9 hp9
                            refine jv_istore h dX12_changed_166 (lt_nl hnl (by decide)) ?_
                            refine jv_iload h dX12_changed_168 rfl ?_
                            refine jv_beq 178 h dX12_changed_170 (by decide) (fun c170 => ?_) (fun c170 => ?_)
                            · have c170v : nI (inF (mstp S (stA S i) (S (18 + 6 * i)) (S 1) (f9 * 7 + d9)) k (ouF (mstp S (stA S i) (S (18 + 6 * i)) (S 1) (f9 * 7 + d9)) (2 * S 2) (bst0 (snI S i (f9 * 7 + d9)), -4) k) (l - (k + 1))).1 = nI (mstp S (stA S i) (S (18 + 6 * i)) (S 1) (f9 * 7 + d9) k l (inF (mstp S (stA S i) (S (18 + 6 * i)) (S 1) (f9 * 7 + d9)) k (ouF (mstp S (stA S i) (S (18 + 6 * i)) (S 1) (f9 * 7 + d9)) (2 * S 2) (bst0 (snI S i (f9 * 7 + d9)), -4) k) (l - (k + 1)))).1 := by rw [mstp_f (fun z => absurd (c170.symm.trans (hb9.mpr z)) Bool.false_ne_true)]
                              refine jv_iload h dX12_changed_178 rfl ?_
                              refine jv_istore h dX12_changed_180 (lt_nl hnl (by decide)) ?_
                              refine jv_iinc (nI (l + 1)) h dX12_changed_182 rfl (lt_nl hnl (by decide)) (nI_inc l) ?_
                              refine jv_goto 92 h dX12_changed_185 (by decide) ?_
                              have hI := ih (l + 1) (some (.int (fsN (wmB (swS S k l) (stA S i) (S (18 + 6 * i)) (S 1) (f9 * 7 + d9)) 0 61))) (some (.int (bI b9))) (by omega) (by omega) (by omega)
                              rw [e9, ← c170v, ← hp9] at hI
                              exact hI
                            · have c170v : (fsN (wmB (swS S k l) (stA S i) (S (18 + 6 * i)) (S 1) (f9 * 7 + d9)) 0 61) = nI (mstp S (stA S i) (S (18 + 6 * i)) (S 1) (f9 * 7 + d9) k l (inF (mstp S (stA S i) (S (18 + 6 * i)) (S 1) (f9 * 7 + d9)) k (ouF (mstp S (stA S i) (S (18 + 6 * i)) (S 1) (f9 * 7 + d9)) (2 * S 2) (bst0 (snI S i (f9 * 7 + d9)), -4) k) (l - (k + 1)))).1 := by rw [mstp_t (hb9.mp c170)]; exact (fs_le (by omega) (hb9.mp c170).1).2
                              refine jv_iload h dX12_changed_173 rfl ?_
                              refine jv_goto 180 h dX12_changed_175 (by decide) ?_
                              refine jv_istore h dX12_changed_180 (lt_nl hnl (by decide)) ?_
                              refine jv_iinc (nI (l + 1)) h dX12_changed_182 rfl (lt_nl hnl (by decide)) (nI_inc l) ?_
                              refine jv_goto 92 h dX12_changed_185 (by decide) ?_
                              have hI := ih (l + 1) (some (.int (fsN (wmB (swS S k l) (stA S i) (S (18 + 6 * i)) (S 1) (f9 * 7 + d9)) 0 61))) (some (.int (bI b9))) (by omega) (by omega) (by omega)
                              rw [e9, ← c170v, ← hp9] at hI
                              exact hI
                          refine jv_iload h dX12_changed_148 rfl ?_
                          refine jv_beq 164 h dX12_changed_150 (by decide) (fun c150 => ?_) (fun c150 => ?_)
                          · have c150v : (inF (mstp S (stA S i) (S (18 + 6 * i)) (S 1) (f9 * 7 + d9)) k (ouF (mstp S (stA S i) (S (18 + 6 * i)) (S 1) (f9 * 7 + d9)) (2 * S 2) (bst0 (snI S i (f9 * 7 + d9)), -4) k) (l - (k + 1))).2 = (mstp S (stA S i) (S (18 + 6 * i)) (S 1) (f9 * 7 + d9) k l (inF (mstp S (stA S i) (S (18 + 6 * i)) (S 1) (f9 * 7 + d9)) k (ouF (mstp S (stA S i) (S (18 + 6 * i)) (S 1) (f9 * 7 + d9)) (2 * S 2) (bst0 (snI S i (f9 * 7 + d9)), -4) k) (l - (k + 1)))).2 := by rw [mstp_f (fun z => absurd (c150.symm.trans (hb9.mpr z)) Bool.false_ne_true)]
                            refine jv_iload h dX12_changed_164 rfl ?_
                            exact hj166 _ c150v
                          · have c150v : nI (100 * k + l) = (mstp S (stA S i) (S (18 + 6 * i)) (S 1) (f9 * 7 + d9) k l (inF (mstp S (stA S i) (S (18 + 6 * i)) (S 1) (f9 * 7 + d9)) k (ouF (mstp S (stA S i) (S (18 + 6 * i)) (S 1) (f9 * 7 + d9)) (2 * S 2) (bst0 (snI S i (f9 * 7 + d9)), -4) k) (l - (k + 1)))).2 := by rw [mstp_t (hb9.mp c150)]
                            refine jv_bipush (nI 100) h dX12_changed_153 (by decide) ?_
                            refine jv_iload h dX12_changed_155 rfl ?_
                            first | refine jv_imulN h dX12_changed_157 (by repeat (with_reducible first | exact NF_nI _ | assumption | refine NF_add ?_ ?_ | refine NF_mul ?_ ?_)) (by repeat (with_reducible first | exact NF_nI _ | assumption | refine NF_add ?_ ?_ | refine NF_mul ?_ ?_)) ?_ | refine jv_imul h dX12_changed_157 ?_
                            refine jv_iload h dX12_changed_158 rfl ?_
                            first | refine jv_iaddN h dX12_changed_160 (by repeat (with_reducible first | exact NF_nI _ | assumption | refine NF_add ?_ ?_ | refine NF_mul ?_ ?_)) (by repeat (with_reducible first | exact NF_nI _ | assumption | refine NF_add ?_ ?_ | refine NF_mul ?_ ?_)) ?_ | refine jv_iadd h dX12_changed_160 ?_
                            refine jv_goto 166 h dX12_changed_161 (by decide) ?_
                            exact hj166 _ c150v
                        refine jv_iload h dX12_changed_127 rfl ?_
                        refine jv_bipush (-4) h dX12_changed_129 (by decide) ?_
                        refine jv_icmp_eq 145 h dX12_changed_131 (by decide) (fun c131 => ?_) (fun c131 => ?_)
                        · have cbf : (false = true ↔ ((fsN (wmB (swS S k l) (stA S i) (S (18 + 6 * i)) (S 1) (f9 * 7 + d9)) 0 61) ≠ -4 ∧ pn (fsN (wmB (swS S k l) (stA S i) (S (18 + 6 * i)) (S 1) (f9 * 7 + d9)) 0 61) < (inF (mstp S (stA S i) (S (18 + 6 * i)) (S 1) (f9 * 7 + d9)) k (ouF (mstp S (stA S i) (S (18 + 6 * i)) (S 1) (f9 * 7 + d9)) (2 * S 2) (bst0 (snI S i (f9 * 7 + d9)), -4) k) (l - (k + 1))).1)) := ⟨(fun z => by cases z), (fun z => absurd c131 z.1)⟩
                          refine jv_iconst (nI 0) h dX12_changed_145 (by decide) ?_
                          first
                          | exact hj146 true cbt
                          | exact hj146 false cbf
                        · obtain ⟨how1, how2⟩ := fs_le (by omega) c131
                          have how3 : NF (fsN (wmB (swS S k l) (stA S i) (S (18 + 6 * i)) (S 1) (f9 * 7 + d9)) 0 61) (pn (fsN (wmB (swS S k l) (stA S i) (S (18 + 6 * i)) (S 1) (f9 * 7 + d9)) 0 61)) := how2
                          refine jv_iload h dX12_changed_134 rfl ?_
                          refine jv_iload h dX12_changed_136 rfl ?_
                          refine jv_nge 145 h dX12_changed_138 (by decide) (by repeat (with_reducible first | exact NF_nI _ | assumption | refine NF_add ?_ ?_ | refine NF_mul ?_ ?_)) (by repeat (with_reducible first | exact NF_nI _ | assumption | refine NF_add ?_ ?_ | refine NF_mul ?_ ?_)) ⟨by omega, by omega⟩ (fun c138 => ?_) (fun c138 => ?_)
                          · have cbf : (false = true ↔ ((fsN (wmB (swS S k l) (stA S i) (S (18 + 6 * i)) (S 1) (f9 * 7 + d9)) 0 61) ≠ -4 ∧ pn (fsN (wmB (swS S k l) (stA S i) (S (18 + 6 * i)) (S 1) (f9 * 7 + d9)) 0 61) < (inF (mstp S (stA S i) (S (18 + 6 * i)) (S 1) (f9 * 7 + d9)) k (ouF (mstp S (stA S i) (S (18 + 6 * i)) (S 1) (f9 * 7 + d9)) (2 * S 2) (bst0 (snI S i (f9 * 7 + d9)), -4) k) (l - (k + 1))).1)) := ⟨(fun z => by cases z), (fun z => absurd z.2 (by omega))⟩
                            refine jv_iconst (nI 0) h dX12_changed_145 (by decide) ?_
                            first
                            | exact hj146 true cbt
                            | exact hj146 false cbf
                          · have cbt : (true = true ↔ ((fsN (wmB (swS S k l) (stA S i) (S (18 + 6 * i)) (S 1) (f9 * 7 + d9)) 0 61) ≠ -4 ∧ pn (fsN (wmB (swS S k l) (stA S i) (S (18 + 6 * i)) (S 1) (f9 * 7 + d9)) 0 61) < (inF (mstp S (stA S i) (S (18 + 6 * i)) (S 1) (f9 * 7 + d9)) k (ouF (mstp S (stA S i) (S (18 + 6 * i)) (S 1) (f9 * 7 + d9)) (2 * S 2) (bst0 (snI S i (f9 * 7 + d9)), -4) k) (l - (k + 1))).1)) := ⟨(fun _ => ⟨c131, c138⟩), (fun _ => rfl)⟩
                            refine jv_iconst (nI 1) h dX12_changed_141 (by decide) ?_
                            refine jv_goto 146 h dX12_changed_142 (by decide) ?_
                            first
                            | exact hj146 true cbt
                            | exact hj146 false cbf
                  have hI := hl92 14 (k + 1) o11 o12 (by omega) (by omega) (by omega)
                  rw [Nat.sub_self] at hI
                  exact hI
            exact hl77 14 0 _ _ _ (by omega) (by omega)
          refine jv_iload h dX12_changed_54 rfl ?_
          refine jv_bipush (-4) h dX12_changed_56 (by decide) ?_
          refine jv_icmp_ne 66 h dX12_changed_58 (by decide) (fun c58 => ?_) (fun c58 => ?_)
          · have c58v : snI S i (f9 * 7 + d9) = nI (bst0 (snI S i (f9 * 7 + d9))) := by unfold bst0; rw [if_neg c58]; exact (fs_le (by omega) c58).2
            refine jv_iload h dX12_changed_66 rfl ?_
            exact hj68 _ c58v
          · have c58v : nI 61 = nI (bst0 (snI S i (f9 * 7 + d9))) := by unfold bst0; rw [if_pos c58]
            refine jv_bipush (nI 61) h dX12_changed_61 (by decide) ?_
            refine jv_goto 68 h dX12_changed_63 (by decide) ?_
            exact hj68 _ c58v
        · refine jv_iconst (-1) h dX12_changed_34 (by decide) ?_
          exact jv_iret h hr dX12_changed_35 ⟨by unfold sp_changed; rw [if_neg (by simp_all)], rfl, rfl, rfl⟩
