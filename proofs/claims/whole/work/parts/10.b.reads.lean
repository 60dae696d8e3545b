set_option maxHeartbeats 4000000 in
set_option maxRecDepth 100000 in
theorem c_isPerson {g : GT} {T : TT} {Mi : MI} {Ml : ML} {X u nx : Nat} {S : Nat → Nat} {R : Nat → Nat → Nat} (hX : DayS g T X) (hL : BltR Mi (X + 1) S R u nx) (hW : WF S) (v : Int32) : Ct g yX11_isPerson cX11_isPerson 2 (some .boolean) 2 0 0 [.ref X, .int v] T Mi Ml (Ri T Mi Ml (bI (isB v 0 (S 0)))) := by
  refine Ct.of' (plainFor_of_name (by decide +kernel)) (by exact Nat.le_of_ble_eq_true rfl) ?_
  intro x hg hR h hr hnm hnl
  subst hg
  obtain ⟨x0, ⟨x1, x2⟩, ⟨x3, x4⟩, ⟨x5, x6, x7, x8⟩, ⟨x9, x10, x11, x12, x13, x14⟩, ⟨x15, x16⟩, ⟨x17, x18, x19, x20⟩, ⟨x21, x22, x23, x24⟩, ⟨x25, x26, x27, x28, x29, x30⟩, x31, x32, x33, x34, x35, x36⟩ := id hX
  obtain ⟨z1, z2, z3, z4, z5, z6, z7⟩ := id x2
  obtain ⟨e1, e2, e3⟩ := id z5
  obtain ⟨s1, s2, s3, s4, s5⟩ := id z6
  obtain ⟨h1, h2, h3, h4, h5⟩ := id z7
  obtain ⟨l1, l2, l3⟩ := id hL
  obtain ⟨y0, y1, y2, y3⟩ := id l1
  obtain ⟨v1, v2, v3, v4⟩ := id l2
  obtain ⟨r1, r2, r3, r4, r5, r6⟩ := id l3
  obtain ⟨w0, w1, w2, w3, w4, w5, w6, w7⟩ := id hW
  refine jv_iload_n h dX11_isPerson_0 rfl ?_
  refine jv_iconst (nI 0) h dX11_isPerson_1 (by decide) ?_
  refine jv_aload_n h dX11_isPerson_2 rfl ?_
  refine jv_gr 0 h dX11_isPerson_3 cf_10 (by decide) gw_280 (by first | assumption | exact s4 _ (by omega) | exact s5 _ (by omega)) (by first | assumption | exact s4 _ (by omega) | exact s5 _ (by omega)) ?_
  refine jv_gr 1 h dX11_isPerson_6 cf_0 (by decide) gw_165 (by first | assumption | exact s4 _ (by omega) | exact s5 _ (by omega)) (by first | assumption | exact s4 _ (by omega) | exact s5 _ (by omega)) ?_
  refine jv_gv 1 h dX11_isPerson_9 cf_5 (by decide) gw_122 (by first | assumption | exact s4 _ (by omega) | exact s5 _ (by omega)) (by first | assumption | exact (upd2_ne _ _ (by omega)).trans (by assumption) | exact (upd2_ne _ _ (by omega)).trans ((upd2_ne _ _ (by omega)).trans (by assumption))) ?_
  refine jv_iconst (nI 1) h dX11_isPerson_12 (by decide) ?_
  refine jv_isub h dX11_isPerson_13 ?_
  refine jv_SRi [_, _, _] h dX11_isPerson_14 cw_X11_68 (c_within (m := 0) (n := S 0) _ (by decide) (by first | exact b_pr (by omega) | exact b_pr' (by omega) (by omega))) (by decide) rfl rfl (Nat.le_of_ble_eq_true rfl) ⟨Nat.zero_le _, Nat.zero_le _⟩ ?_
  exact jv_zret h hr dX11_isPerson_17 (bI_nar _) ⟨rfl, rfl, rfl, rfl⟩
set_option maxHeartbeats 4000000 in
set_option maxRecDepth 100000 in
theorem c_isFloor {g : GT} {T : TT} {Mi : MI} {Ml : ML} {X u nx : Nat} {S : Nat → Nat} {R : Nat → Nat → Nat} (hX : DayS g T X) (hL : BltR Mi (X + 1) S R u nx) (hW : WF S) (v : Int32) : Ct g yX11_isFloor cX11_isFloor 2 (some .boolean) 2 0 0 [.ref X, .int v] T Mi Ml (Ri T Mi Ml (bI (isB v 0 (S 2)))) := by
  refine Ct.of' (plainFor_of_name (by decide +kernel)) (by exact Nat.le_of_ble_eq_true rfl) ?_
  intro x hg hR h hr hnm hnl
  subst hg
  obtain ⟨x0, ⟨x1, x2⟩, ⟨x3, x4⟩, ⟨x5, x6, x7, x8⟩, ⟨x9, x10, x11, x12, x13, x14⟩, ⟨x15, x16⟩, ⟨x17, x18, x19, x20⟩, ⟨x21, x22, x23, x24⟩, ⟨x25, x26, x27, x28, x29, x30⟩, x31, x32, x33, x34, x35, x36⟩ := id hX
  obtain ⟨z1, z2, z3, z4, z5, z6, z7⟩ := id x2
  obtain ⟨e1, e2, e3⟩ := id z5
  obtain ⟨s1, s2, s3, s4, s5⟩ := id z6
  obtain ⟨h1, h2, h3, h4, h5⟩ := id z7
  obtain ⟨l1, l2, l3⟩ := id hL
  obtain ⟨y0, y1, y2, y3⟩ := id l1
  obtain ⟨v1, v2, v3, v4⟩ := id l2
  obtain ⟨r1, r2, r3, r4, r5, r6⟩ := id l3
  obtain ⟨w0, w1, w2, w3, w4, w5, w6, w7⟩ := id hW
  refine jv_iload_n h dX11_isFloor_0 rfl ?_
  refine jv_iconst (nI 0) h dX11_isFloor_1 (by decide) ?_
  refine jv_aload_n h dX11_isFloor_2 rfl ?_
  refine jv_gr 0 h dX11_isFloor_3 cf_10 (by decide) gw_280 (by first | assumption | exact s4 _ (by omega) | exact s5 _ (by omega)) (by first | assumption | exact s4 _ (by omega) | exact s5 _ (by omega)) ?_
  refine jv_gr 0 h dX11_isFloor_6 cf_0 (by decide) gw_162 (by first | assumption | exact s4 _ (by omega) | exact s5 _ (by omega)) (by first | assumption | exact s4 _ (by omega) | exact s5 _ (by omega)) ?_
  refine jv_gv 0 h dX11_isFloor_9 cf_1 (by decide) gw_47 (by first | assumption | exact s4 _ (by omega) | exact s5 _ (by omega)) (by first | assumption | exact (upd2_ne _ _ (by omega)).trans (by assumption) | exact (upd2_ne _ _ (by omega)).trans ((upd2_ne _ _ (by omega)).trans (by assumption))) ?_
  refine jv_iconst (nI 1) h dX11_isFloor_12 (by decide) ?_
  first | refine jv_isubN h dX11_isFloor_13 (by repeat (with_reducible first | exact NF_nI _ | assumption | refine NF_add ?_ ?_ | refine NF_mul ?_ ?_)) (by repeat (with_reducible first | exact NF_nI _ | assumption | refine NF_add ?_ ?_ | refine NF_mul ?_ ?_)) (by omega) ?_ | refine jv_isub h dX11_isFloor_13 ?_
  refine jv_SRi [_, _, _] h dX11_isFloor_14 cw_X11_68 (c_within (m := 0) (n := S 2) _ (by decide) (by first | exact b_pr (by omega) | exact b_pr' (by omega) (by omega))) (by decide) rfl rfl (Nat.le_of_ble_eq_true rfl) ⟨Nat.zero_le _, Nat.zero_le _⟩ ?_
  exact jv_zret h hr dX11_isFloor_17 (bI_nar _) ⟨rfl, rfl, rfl, rfl⟩
set_option maxHeartbeats 4000000 in
set_option maxRecDepth 100000 in
theorem c_isCar {g : GT} {T : TT} {Mi : MI} {Ml : ML} {X u nx : Nat} {S : Nat → Nat} {R : Nat → Nat → Nat} (hX : DayS g T X) (hL : BltR Mi (X + 1) S R u nx) (hW : WF S) (v : Int32) : Ct g yX11_isCar cX11_isCar 2 (some .boolean) 2 0 0 [.ref X, .int v] T Mi Ml (Ri T Mi Ml (bI (isB v 0 (2 * S 2)))) := by
  refine Ct.of' (plainFor_of_name (by decide +kernel)) (by exact Nat.le_of_ble_eq_true rfl) ?_
  intro x hg hR h hr hnm hnl
  subst hg
  obtain ⟨x0, ⟨x1, x2⟩, ⟨x3, x4⟩, ⟨x5, x6, x7, x8⟩, ⟨x9, x10, x11, x12, x13, x14⟩, ⟨x15, x16⟩, ⟨x17, x18, x19, x20⟩, ⟨x21, x22, x23, x24⟩, ⟨x25, x26, x27, x28, x29, x30⟩, x31, x32, x33, x34, x35, x36⟩ := id hX
  obtain ⟨z1, z2, z3, z4, z5, z6, z7⟩ := id x2
  obtain ⟨e1, e2, e3⟩ := id z5
  obtain ⟨s1, s2, s3, s4, s5⟩ := id z6
  obtain ⟨h1, h2, h3, h4, h5⟩ := id z7
  obtain ⟨l1, l2, l3⟩ := id hL
  obtain ⟨y0, y1, y2, y3⟩ := id l1
  obtain ⟨v1, v2, v3, v4⟩ := id l2
  obtain ⟨r1, r2, r3, r4, r5, r6⟩ := id l3
  obtain ⟨w0, w1, w2, w3, w4, w5, w6, w7⟩ := id hW
  refine jv_iload_n h dX11_isCar_0 rfl ?_
  refine jv_iconst (nI 0) h dX11_isCar_1 (by decide) ?_
  refine jv_aload_n h dX11_isCar_2 rfl ?_
  refine jv_gr 0 h dX11_isCar_3 cf_10 (by decide) gw_280 (by first | assumption | exact s4 _ (by omega) | exact s5 _ (by omega)) (by first | assumption | exact s4 _ (by omega) | exact s5 _ (by omega)) ?_
  refine jv_gr 0 h dX11_isCar_6 cf_0 (by decide) gw_162 (by first | assumption | exact s4 _ (by omega) | exact s5 _ (by omega)) (by first | assumption | exact s4 _ (by omega) | exact s5 _ (by omega)) ?_
  refine jv_VRi [] h dX11_isCar_9 cw_X11_275 cf_1 (by first | assumption | exact s4 _ (by omega) | exact s5 _ (by omega)) (c_cars (by first | assumption | exact s4 _ (by omega) | exact s5 _ (by omega)) (by first | assumption | exact (upd2_ne _ _ (by omega)).trans (by assumption) | exact (upd2_ne _ _ (by omega)).trans ((upd2_ne _ _ (by omega)).trans (by assumption)))) (by decide) rfl rfl (Nat.le_of_ble_eq_true rfl) ⟨Nat.zero_le _, Nat.zero_le _⟩ ?_
  refine jv_iconst (nI 1) h dX11_isCar_12 (by decide) ?_
  first | refine jv_isubN h dX11_isCar_13 (by repeat (with_reducible first | exact NF_nI _ | assumption | refine NF_add ?_ ?_ | refine NF_mul ?_ ?_)) (by repeat (with_reducible first | exact NF_nI _ | assumption | refine NF_add ?_ ?_ | refine NF_mul ?_ ?_)) (by omega) ?_ | refine jv_isub h dX11_isCar_13 ?_
  refine jv_SRi [_, _, _] h dX11_isCar_14 cw_X11_68 (c_within (m := 0) (n := 2 * S 2) _ (by decide) (by first | exact b_pr (by omega) | exact b_pr' (by omega) (by omega))) (by decide) rfl rfl (Nat.le_of_ble_eq_true rfl) ⟨Nat.zero_le _, Nat.zero_le _⟩ ?_
  exact jv_zret h hr dX11_isCar_17 (bI_nar _) ⟨rfl, rfl, rfl, rfl⟩
set_option maxHeartbeats 4000000 in
set_option maxRecDepth 100000 in
theorem c_of {g : GT} {T : TT} {Mi : MI} {Ml : ML} {X u nx : Nat} {S : Nat → Nat} {R : Nat → Nat → Nat} (hX : DayS g T X) (hL : BltR Mi (X + 1) S R u nx) (hW : WF S) (p w : Int32) : Ct g yX11_of cX11_of 4 (some .int) 5 0 0 [.ref X, .int p, .int w] T Mi Ml (Ri T Mi Ml (sp_of S p w)) := by
  refine Ct.of' (plainFor_of_name (by decide +kernel)) (by exact Nat.le_of_ble_eq_true rfl) ?_
  intro x hg hR h hr hnm hnl
  subst hg
  obtain ⟨x0, ⟨x1, x2⟩, ⟨x3, x4⟩, ⟨x5, x6, x7, x8⟩, ⟨x9, x10, x11, x12, x13, x14⟩, ⟨x15, x16⟩, ⟨x17, x18, x19, x20⟩, ⟨x21, x22, x23, x24⟩, ⟨x25, x26, x27, x28, x29, x30⟩, x31, x32, x33, x34, x35, x36⟩ := id hX
  obtain ⟨z1, z2, z3, z4, z5, z6, z7⟩ := id x2
  obtain ⟨e1, e2, e3⟩ := id z5
  obtain ⟨s1, s2, s3, s4, s5⟩ := id z6
  obtain ⟨h1, h2, h3, h4, h5⟩ := id z7
  obtain ⟨l1, l2, l3⟩ := id hL
  obtain ⟨y0, y1, y2, y3⟩ := id l1
  obtain ⟨v1, v2, v3, v4⟩ := id l2
  obtain ⟨r1, r2, r3, r4, r5, r6⟩ := id l3
  obtain ⟨w0, w1, w2, w3, w4, w5, w6, w7⟩ := id hW
  refine jv_aload_n h dX11_of_0 rfl ?_
  refine jv_iload_n h dX11_of_1 rfl ?_
  refine jv_VRi [_] h dX11_of_2 cw_X11_99 cf_10 (by first | assumption | exact s4 _ (by omega) | exact s5 _ (by omega)) (c_isPerson (by first | assumption | exact s4 _ (by omega) | exact s5 _ (by omega)) (by first | assumption | exact s4 _ (by omega) | exact s5 _ (by omega)) (by first | assumption | exact s4 _ (by omega) | exact s5 _ (by omega)) _) (by decide) rfl rfl (Nat.le_of_ble_eq_true rfl) ⟨Nat.zero_le _, Nat.zero_le _⟩ ?_
  refine jv_bne 10 h dX11_of_5 (by decide) (fun c5 => ?_) (fun c5 => ?_)
  · obtain ⟨i, rfl, -, hi⟩ := isB_t c5
    have w7i := w7 i hi
    obtain ⟨q0, q1, q2, q3, q4, q5⟩ := v4 i hi
    refine jv_aload_n h dX11_of_10 rfl ?_
    refine jv_gr 0 h dX11_of_11 cf_10 (by decide) gw_280 (by first | assumption | exact s4 _ (by omega) | exact s5 _ (by omega)) (by first | assumption | exact s4 _ (by omega) | exact s5 _ (by omega)) ?_
    refine jv_gr 1 h dX11_of_14 cf_0 (by decide) gw_165 (by first | assumption | exact s4 _ (by omega) | exact s5 _ (by omega)) (by first | assumption | exact s4 _ (by omega) | exact s5 _ (by omega)) ?_
    refine jv_gr 0 h dX11_of_17 cf_5 (by decide) gw_119 (by first | assumption | exact s4 _ (by omega) | exact s5 _ (by omega)) (by first | assumption | exact s4 _ (by omega) | exact s5 _ (by omega)) ?_
    refine jv_iload_n h dX11_of_20 rfl ?_
    refine jv_aald h dX11_of_21 (by first | assumption | exact s4 _ (by omega) | exact s5 _ (by omega)) (by decide) (by repeat (with_reducible first | exact NF_nI _ | assumption | refine NF_add ?_ ?_ | refine NF_mul ?_ ?_)) ⟨by omega, by decide⟩ (by first | assumption | exact s4 _ (by omega) | exact s5 _ (by omega)) ?_
    refine jv_astore_n h dX11_of_22 (lt_nl hnl (by decide)) ?_
    refine jv_iload_n h dX11_of_23 rfl ?_
    have hsw24 : (w.toInt < 0 ∨ 5 < w.toInt) ∨ (w = nI 0 ∨ w = nI 1 ∨ w = nI 2 ∨ w = nI 3 ∨ w = nI 4 ∨ w = nI 5) := sw_0_5 w
    rcases hsw24 with hsw24 | rfl | rfl | rfl | rfl | rfl | rfl
    · refine jv_tabOut 117 h dX11_of_24 hsw24 (by decide) ?_
      refine jv_iconst (-1) h dX11_of_117 (by decide) ?_
      exact jv_iret h hr dX11_of_118 ⟨by simp only [sp_of, c5, if_true, wi_out (isB_out (w := w) (n := 6) (by omega)), ofN], rfl, rfl, rfl⟩
    · refine jv_tabIn (off := 40) 64 h dX11_of_24 (by decide) (by decide) (by decide) (by decide) ?_
      refine jv_aload_n h dX11_of_64 rfl ?_
      refine jv_ge 0 h dX11_of_65 cf_4 (by decide) gw_85 (by first | assumption | exact s4 _ (by omega) | exact s5 _ (by omega)) (by first | assumption | exact s4 _ (by omega) | exact s5 _ (by omega)) (by omega) ?_
      refine jv_gen (L := [0, 1, 2, 3, 4]) (List.mem_of_getElem? (i := 0) rfl) h dX11_of_68 (by omega) gw_1234 (nbE (by omega)) ?_
      exact jv_iret h hr dX11_of_71 ⟨by simp only [sp_of, c5, if_true, pn_nI (show i < 2 ^ 31 by omega), wi_nI (show 0 < 6 by decide) (by decide), ofN], rfl, rfl, rfl⟩
    · refine jv_tabIn (off := 48) 72 h dX11_of_24 (by decide) (by decide) (by decide) (by decide) ?_
      refine jv_aload_n h dX11_of_72 rfl ?_
      refine jv_VRi [] h dX11_of_73 cw_X11_117 cf_4 (by first | assumption | exact s4 _ (by omega) | exact s5 _ (by omega)) (c_weighs (by first | assumption | exact s4 _ (by omega) | exact s5 _ (by omega)) (by first | assumption | exact (upd2_ne _ _ (by omega)).trans (by assumption) | exact (upd2_ne _ _ (by omega)).trans ((upd2_ne _ _ (by omega)).trans (by assumption))) (by first | assumption | exact (upd2_ne _ _ (by omega)).trans (by assumption) | exact (upd2_ne _ _ (by omega)).trans ((upd2_ne _ _ (by omega)).trans (by assumption))) (by omega)) (by decide) rfl rfl (Nat.le_of_ble_eq_true rfl) ⟨Nat.zero_le _, Nat.zero_le _⟩ ?_
      exact jv_iret h hr dX11_of_76 ⟨by simp only [sp_of, c5, if_true, pn_nI (show i < 2 ^ 31 by omega), wi_nI (show 1 < 6 by decide) (by decide), ofN]; rfl, rfl, rfl, rfl⟩
    · refine jv_tabIn (off := 53) 77 h dX11_of_24 (by decide) (by decide) (by decide) (by decide) ?_
      refine jv_aload_n h dX11_of_77 rfl ?_
      refine jv_gr 0 h dX11_of_78 cf_10 (by decide) gw_280 (by first | assumption | exact s4 _ (by omega) | exact s5 _ (by omega)) (by first | assumption | exact s4 _ (by omega) | exact s5 _ (by omega)) ?_
      refine jv_aload_n h dX11_of_81 rfl ?_
      refine jv_VRi [_] h dX11_of_82 cw_X11_121 cf_0 (by first | assumption | exact s4 _ (by omega) | exact s5 _ (by omega)) (c_floorOf (by first | assumption | exact s4 _ (by omega) | exact s5 _ (by omega)) (by first | assumption | exact s4 _ (by omega) | exact s5 _ (by omega)) (by first | assumption | exact s4 _ (by omega) | exact s5 _ (by omega)) (by first | assumption | exact s4 _ (by omega) | exact s5 _ (by omega)) (by first | assumption | exact (upd2_ne _ _ (by omega)).trans (by assumption) | exact (upd2_ne _ _ (by omega)).trans ((upd2_ne _ _ (by omega)).trans (by assumption))) (by first | assumption | exact (upd2_ne _ _ (by omega)).trans (by assumption) | exact (upd2_ne _ _ (by omega)).trans ((upd2_ne _ _ (by omega)).trans (by assumption))) (by omega)) (by decide) rfl rfl (Nat.le_of_ble_eq_true rfl) ⟨Nat.zero_le _, Nat.zero_le _⟩ ?_
      exact jv_iret h hr dX11_of_85 ⟨by simp only [sp_of, c5, if_true, pn_nI (show i < 2 ^ 31 by omega), wi_nI (show 2 < 6 by decide) (by decide), ofN], rfl, rfl, rfl⟩
    · refine jv_tabIn (off := 62) 86 h dX11_of_24 (by decide) (by decide) (by decide) (by decide) ?_
      refine jv_aload_n h dX11_of_86 rfl ?_
      refine jv_VRi [] h dX11_of_87 cw_X11_125 cf_4 (by first | assumption | exact s4 _ (by omega) | exact s5 _ (by omega)) (c_rides (by first | assumption | exact s4 _ (by omega) | exact s5 _ (by omega)) (by first | assumption | exact (upd2_ne _ _ (by omega)).trans (by assumption) | exact (upd2_ne _ _ (by omega)).trans ((upd2_ne _ _ (by omega)).trans (by assumption))) (by omega)) (by decide) rfl rfl (Nat.le_of_ble_eq_true rfl) ⟨Nat.zero_le _, Nat.zero_le _⟩ ?_
      refine jv_beq 100 h dX11_of_90 (by decide) (fun c90 => ?_) (fun c90 => ?_)
      · simp at c90
        refine jv_bipush (-4) h dX11_of_100 (by decide) ?_
        exact jv_iret h hr dX11_of_102 ⟨by simp only [sp_of, c5, if_true, pn_nI (show i < 2 ^ 31 by omega), wi_nI (show 3 < 6 by decide) (by decide), ofN]; simp [c90], rfl, rfl, rfl⟩
      · simp at c90
        have q4' : Mi (X + 1 + 3 + 2 + i) 4 = nI (S (21 + 6 * i) - 1) := by rw [q4]; unfold carI; rw [if_neg c90]
        refine jv_aload_n h dX11_of_93 rfl ?_
        refine jv_gv 4 h dX11_of_94 cf_4 (by decide) gw_98 (by first | assumption | exact s4 _ (by omega) | exact s5 _ (by omega)) (by exact q4') ?_
        refine jv_goto 102 h dX11_of_97 (by decide) ?_
        exact jv_iret h hr dX11_of_102 ⟨by simp only [sp_of, c5, if_true, pn_nI (show i < 2 ^ 31 by omega), wi_nI (show 3 < 6 by decide) (by decide), ofN]; simp [c90], rfl, rfl, rfl⟩
    · refine jv_tabIn (off := 79) 103 h dX11_of_24 (by decide) (by decide) (by decide) (by decide) ?_
      refine jv_aload_n h dX11_of_103 rfl ?_
      refine jv_gr 0 h dX11_of_104 cf_10 (by decide) gw_280 (by first | assumption | exact s4 _ (by omega) | exact s5 _ (by omega)) (by first | assumption | exact s4 _ (by omega) | exact s5 _ (by omega)) ?_
      refine jv_aload_n h dX11_of_107 rfl ?_
      refine jv_VRi [_] h dX11_of_108 cw_X11_132 cf_0 (by first | assumption | exact s4 _ (by omega) | exact s5 _ (by omega)) (c_dayOf (by first | assumption | exact s4 _ (by omega) | exact s5 _ (by omega)) (by first | assumption | exact s4 _ (by omega) | exact s5 _ (by omega)) (by first | assumption | exact s4 _ (by omega) | exact s5 _ (by omega)) (by first | assumption | exact s4 _ (by omega) | exact s5 _ (by omega)) (by first | assumption | exact (upd2_ne _ _ (by omega)).trans (by assumption) | exact (upd2_ne _ _ (by omega)).trans ((upd2_ne _ _ (by omega)).trans (by assumption))) (by first | assumption | exact (upd2_ne _ _ (by omega)).trans (by assumption) | exact (upd2_ne _ _ (by omega)).trans ((upd2_ne _ _ (by omega)).trans (by assumption))) (by omega)) (by decide) rfl rfl (Nat.le_of_ble_eq_true rfl) ⟨Nat.zero_le _, Nat.zero_le _⟩ ?_
      exact jv_iret h hr dX11_of_111 ⟨by simp only [sp_of, c5, if_true, pn_nI (show i < 2 ^ 31 by omega), wi_nI (show 4 < 6 by decide) (by decide), ofN], rfl, rfl, rfl⟩
    · refine jv_tabIn (off := 88) 112 h dX11_of_24 (by decide) (by decide) (by decide) (by decide) ?_
      refine jv_aload_n h dX11_of_112 rfl ?_
      refine jv_gv 5 h dX11_of_113 cf_4 (by decide) gw_103 (by first | assumption | exact s4 _ (by omega) | exact s5 _ (by omega)) (by first | assumption | exact (upd2_ne _ _ (by omega)).trans (by assumption) | exact (upd2_ne _ _ (by omega)).trans ((upd2_ne _ _ (by omega)).trans (by assumption))) ?_
      exact jv_iret h hr dX11_of_116 ⟨by simp only [sp_of, c5, if_true, pn_nI (show i < 2 ^ 31 by omega), wi_nI (show 5 < 6 by decide) (by decide), ofN], rfl, rfl, rfl⟩
  · refine jv_iconst (-1) h dX11_of_8 (by decide) ?_
    exact jv_iret h hr dX11_of_9 ⟨by simp [sp_of, c5], rfl, rfl, rfl⟩
set_option maxHeartbeats 4000000 in
set_option maxRecDepth 100000 in
theorem c_car {g : GT} {T : TT} {Mi : MI} {Ml : ML} {X u nx : Nat} {S : Nat → Nat} {R : Nat → Nat → Nat} (hX : DayS g T X) (hL : BltR Mi (X + 1) S R u nx) (hW : WF S) (c w : Int32) : Ct g yX11_car cX11_car 4 (some .int) 4 0 0 [.ref X, .int c, .int w] T Mi Ml (Ri T Mi Ml (sp_car S c w)) := by
  refine Ct.of' (plainFor_of_name (by decide +kernel)) (by exact Nat.le_of_ble_eq_true rfl) ?_
  intro x hg hR h hr hnm hnl
  subst hg
  obtain ⟨x0, ⟨x1, x2⟩, ⟨x3, x4⟩, ⟨x5, x6, x7, x8⟩, ⟨x9, x10, x11, x12, x13, x14⟩, ⟨x15, x16⟩, ⟨x17, x18, x19, x20⟩, ⟨x21, x22, x23, x24⟩, ⟨x25, x26, x27, x28, x29, x30⟩, x31, x32, x33, x34, x35, x36⟩ := id hX
  obtain ⟨z1, z2, z3, z4, z5, z6, z7⟩ := id x2
  obtain ⟨e1, e2, e3⟩ := id z5
  obtain ⟨s1, s2, s3, s4, s5⟩ := id z6
  obtain ⟨h1, h2, h3, h4, h5⟩ := id z7
  obtain ⟨l1, l2, l3⟩ := id hL
  obtain ⟨y0, y1, y2, y3⟩ := id l1
  obtain ⟨v1, v2, v3, v4⟩ := id l2
  obtain ⟨r1, r2, r3, r4, r5, r6⟩ := id l3
  obtain ⟨w0, w1, w2, w3, w4, w5, w6, w7⟩ := id hW
  refine jv_aload_n h dX11_car_0 rfl ?_
  refine jv_iload_n h dX11_car_1 rfl ?_
  refine jv_VRi [_] h dX11_car_2 cw_X11_138 cf_10 (by first | assumption | exact s4 _ (by omega) | exact s5 _ (by omega)) (c_isCar (by first | assumption | exact s4 _ (by omega) | exact s5 _ (by omega)) (by first | assumption | exact s4 _ (by omega) | exact s5 _ (by omega)) (by first | assumption | exact s4 _ (by omega) | exact s5 _ (by omega)) _) (by decide) rfl rfl (Nat.le_of_ble_eq_true rfl) ⟨Nat.zero_le _, Nat.zero_le _⟩ ?_
  refine jv_bne 10 h dX11_car_5 (by decide) (fun c5 => ?_) (fun c5 => ?_)
  · obtain ⟨i, rfl, -, hi⟩ := isB_t c5
    have hpl := plN_lt (h := S 2) (c := i) (s := S 1) (by omega)
    refine jv_aload_n h dX11_car_10 rfl ?_
    refine jv_gr 0 h dX11_car_11 cf_10 (by decide) gw_280 (by first | assumption | exact s4 _ (by omega) | exact s5 _ (by omega)) (by first | assumption | exact s4 _ (by omega) | exact s5 _ (by omega)) ?_
    refine jv_gr 0 h dX11_car_14 cf_0 (by decide) gw_162 (by first | assumption | exact s4 _ (by omega) | exact s5 _ (by omega)) (by first | assumption | exact s4 _ (by omega) | exact s5 _ (by omega)) ?_
    refine jv_iload_n h dX11_car_17 rfl ?_
    refine jv_aload_n h dX11_car_18 rfl ?_
    refine jv_gr 0 h dX11_car_19 cf_10 (by decide) gw_280 (by first | assumption | exact s4 _ (by omega) | exact s5 _ (by omega)) (by first | assumption | exact s4 _ (by omega) | exact s5 _ (by omega)) ?_
    refine jv_gr 1 h dX11_car_22 cf_0 (by decide) gw_165 (by first | assumption | exact s4 _ (by omega) | exact s5 _ (by omega)) (by first | assumption | exact s4 _ (by omega) | exact s5 _ (by omega)) ?_
    refine jv_gv 2 h dX11_car_25 cf_5 (by decide) gw_127 (by first | assumption | exact s4 _ (by omega) | exact s5 _ (by omega)) (by first | assumption | exact (upd2_ne _ _ (by omega)).trans (by assumption) | exact (upd2_ne _ _ (by omega)).trans ((upd2_ne _ _ (by omega)).trans (by assumption))) ?_
    refine jv_VRi [_, _] h dX11_car_28 cw_X11_148 cf_1 (by first | assumption | exact s4 _ (by omega) | exact s5 _ (by omega)) (c_placeOf (by first | assumption | exact s4 _ (by omega) | exact s5 _ (by omega)) (by first | assumption | exact (upd2_ne _ _ (by omega)).trans (by assumption) | exact (upd2_ne _ _ (by omega)).trans ((upd2_ne _ _ (by omega)).trans (by assumption))) (by repeat (with_reducible first | exact NF_nI _ | assumption | refine NF_add ?_ ?_ | refine NF_mul ?_ ?_)) (by repeat (with_reducible first | exact NF_nI _ | assumption | refine NF_add ?_ ?_ | refine NF_mul ?_ ?_)) (by omega)) (by decide) rfl rfl (Nat.le_of_ble_eq_true rfl) ⟨Nat.zero_le _, Nat.zero_le _⟩ ?_
    refine jv_istore_n h dX11_car_31 (lt_nl hnl (by decide)) ?_
    refine jv_iload_n h dX11_car_32 rfl ?_
    have hsw33 : (w.toInt < 0 ∨ 5 < w.toInt) ∨ (w = nI 0 ∨ w = nI 1 ∨ w = nI 2 ∨ w = nI 3 ∨ w = nI 4 ∨ w = nI 5) := sw_0_5 w
    rcases hsw33 with hsw33 | rfl | rfl | rfl | rfl | rfl | rfl
    · refine jv_tabOut 135 h dX11_car_33 hsw33 (by decide) ?_
      refine jv_iconst (-1) h dX11_car_135 (by decide) ?_
      exact jv_iret h hr dX11_car_136 ⟨by simp only [sp_car, c5, if_true, wi_out (isB_out (w := w) (n := 6) (by omega)), caN], rfl, rfl, rfl⟩
    · refine jv_tabIn (off := 39) 72 h dX11_car_33 (by decide) (by decide) (by decide) (by decide) ?_
      refine jv_aload_n h dX11_car_72 rfl ?_
      refine jv_gr 0 h dX11_car_73 cf_10 (by decide) gw_280 (by first | assumption | exact s4 _ (by omega) | exact s5 _ (by omega)) (by first | assumption | exact s4 _ (by omega) | exact s5 _ (by omega)) ?_
      refine jv_gr 0 h dX11_car_76 cf_0 (by decide) gw_162 (by first | assumption | exact s4 _ (by omega) | exact s5 _ (by omega)) (by first | assumption | exact s4 _ (by omega) | exact s5 _ (by omega)) ?_
      refine jv_gr 3 h dX11_car_79 cf_1 (by decide) gw_55 (by first | assumption | exact s4 _ (by omega) | exact s5 _ (by omega)) (by first | assumption | exact s4 _ (by omega) | exact s5 _ (by omega)) ?_
      refine jv_iload_n h dX11_car_82 rfl ?_
      refine jv_iav h dX11_car_83 (by first | assumption | exact s4 _ (by omega) | exact s5 _ (by omega)) (by repeat (with_reducible first | exact NF_nI _ | assumption | refine NF_add ?_ ?_ | refine NF_mul ?_ ?_)) ⟨by omega, by decide⟩ (by exact y3 _ (by omega)) ?_
      exact jv_iret h hr dX11_car_84 ⟨by simp only [sp_car, c5, if_true, pn_nI (show i < 2 ^ 31 by omega), wi_nI (show 0 < 6 by decide) (by decide), caN], rfl, rfl, rfl⟩
    · refine jv_tabIn (off := 52) 85 h dX11_car_33 (by decide) (by decide) (by decide) (by decide) ?_
      refine jv_iload_n h dX11_car_85 rfl ?_
      exact jv_iret h hr dX11_car_86 ⟨by simp only [sp_car, c5, if_true, pn_nI (show i < 2 ^ 31 by omega), wi_nI (show 1 < 6 by decide) (by decide), caN], rfl, rfl, rfl⟩
    · refine jv_tabIn (off := 54) 87 h dX11_car_33 (by decide) (by decide) (by decide) (by decide) ?_
      refine jv_aload_n h dX11_car_87 rfl ?_
      refine jv_gr 0 h dX11_car_88 cf_10 (by decide) gw_280 (by first | assumption | exact s4 _ (by omega) | exact s5 _ (by omega)) (by first | assumption | exact s4 _ (by omega) | exact s5 _ (by omega)) ?_
      refine jv_gr 0 h dX11_car_91 cf_0 (by decide) gw_162 (by first | assumption | exact s4 _ (by omega) | exact s5 _ (by omega)) (by first | assumption | exact s4 _ (by omega) | exact s5 _ (by omega)) ?_
      refine jv_iload_n h dX11_car_94 rfl ?_
      refine jv_VRi [_] h dX11_car_95 cw_X11_158 cf_1 (by first | assumption | exact s4 _ (by omega) | exact s5 _ (by omega)) (c_floorAt (by first | assumption | exact s4 _ (by omega) | exact s5 _ (by omega)) (by first | assumption | exact (upd2_ne _ _ (by omega)).trans (by assumption) | exact (upd2_ne _ _ (by omega)).trans ((upd2_ne _ _ (by omega)).trans (by assumption))) (by repeat (with_reducible first | exact NF_nI _ | assumption | refine NF_add ?_ ?_ | refine NF_mul ?_ ?_)) (by omega)) (by decide) rfl rfl (Nat.le_of_ble_eq_true rfl) ⟨Nat.zero_le _, Nat.zero_le _⟩ ?_
      exact jv_iret h hr dX11_car_98 ⟨by simp only [sp_car, c5, if_true, pn_nI (show i < 2 ^ 31 by omega), wi_nI (show 2 < 6 by decide) (by decide), caN], rfl, rfl, rfl⟩
    · refine jv_tabIn (off := 66) 99 h dX11_car_33 (by decide) (by decide) (by decide) (by decide) ?_
      refine jv_aload_n h dX11_car_99 rfl ?_
      refine jv_gr 0 h dX11_car_100 cf_10 (by decide) gw_280 (by first | assumption | exact s4 _ (by omega) | exact s5 _ (by omega)) (by first | assumption | exact s4 _ (by omega) | exact s5 _ (by omega)) ?_
      refine jv_gr 0 h dX11_car_103 cf_0 (by decide) gw_162 (by first | assumption | exact s4 _ (by omega) | exact s5 _ (by omega)) (by first | assumption | exact s4 _ (by omega) | exact s5 _ (by omega)) ?_
      refine jv_iload_n h dX11_car_106 rfl ?_
      refine jv_VRi [_] h dX11_car_107 cw_X11_162 cf_1 (by first | assumption | exact s4 _ (by omega) | exact s5 _ (by omega)) (c_sideAt (by first | assumption | exact s4 _ (by omega) | exact s5 _ (by omega)) (by first | assumption | exact (upd2_ne _ _ (by omega)).trans (by assumption) | exact (upd2_ne _ _ (by omega)).trans ((upd2_ne _ _ (by omega)).trans (by assumption))) (by repeat (with_reducible first | exact NF_nI _ | assumption | refine NF_add ?_ ?_ | refine NF_mul ?_ ?_)) (by omega)) (by decide) rfl rfl (Nat.le_of_ble_eq_true rfl) ⟨Nat.zero_le _, Nat.zero_le _⟩ ?_
      exact jv_iret h hr dX11_car_110 ⟨by simp only [sp_car, c5, if_true, pn_nI (show i < 2 ^ 31 by omega), wi_nI (show 3 < 6 by decide) (by decide), caN], rfl, rfl, rfl⟩
    · refine jv_tabIn (off := 78) 111 h dX11_car_33 (by decide) (by decide) (by decide) (by decide) ?_
      refine jv_aload_n h dX11_car_111 rfl ?_
      refine jv_gr 0 h dX11_car_112 cf_10 (by decide) gw_280 (by first | assumption | exact s4 _ (by omega) | exact s5 _ (by omega)) (by first | assumption | exact s4 _ (by omega) | exact s5 _ (by omega)) ?_
      refine jv_gr 1 h dX11_car_115 cf_0 (by decide) gw_165 (by first | assumption | exact s4 _ (by omega) | exact s5 _ (by omega)) (by first | assumption | exact s4 _ (by omega) | exact s5 _ (by omega)) ?_
      refine jv_iload_n h dX11_car_118 rfl ?_
      refine jv_VRi [_] h dX11_car_119 cw_X11_165 cf_5 (by first | assumption | exact s4 _ (by omega) | exact s5 _ (by omega)) (c_load (by first | assumption | exact s4 _ (by omega) | exact s5 _ (by omega)) (by first | assumption | exact s4 _ (by omega) | exact s5 _ (by omega)) (by first | assumption | exact s4 _ (by omega) | exact s5 _ (by omega)) (by repeat (with_reducible first | exact NF_nI _ | assumption | refine NF_add ?_ ?_ | refine NF_mul ?_ ?_)) (by omega)) (by decide) rfl rfl (Nat.le_of_ble_eq_true rfl) ⟨Nat.zero_le _, Nat.zero_le _⟩ ?_
      exact jv_iret h hr dX11_car_122 ⟨by simp only [sp_car, c5, if_true, pn_nI (show i < 2 ^ 31 by omega), wi_nI (show 4 < 6 by decide) (by decide), caN], rfl, rfl, rfl⟩
    · refine jv_tabIn (off := 90) 123 h dX11_car_33 (by decide) (by decide) (by decide) (by decide) ?_
      refine jv_aload_n h dX11_car_123 rfl ?_
      refine jv_gr 0 h dX11_car_124 cf_10 (by decide) gw_280 (by first | assumption | exact s4 _ (by omega) | exact s5 _ (by omega)) (by first | assumption | exact s4 _ (by omega) | exact s5 _ (by omega)) ?_
      refine jv_gr 1 h dX11_car_127 cf_0 (by decide) gw_165 (by first | assumption | exact s4 _ (by omega) | exact s5 _ (by omega)) (by first | assumption | exact s4 _ (by omega) | exact s5 _ (by omega)) ?_
      refine jv_iload_n h dX11_car_130 rfl ?_
      refine jv_VRi [_] h dX11_car_131 cw_X11_168 cf_5 (by first | assumption | exact s4 _ (by omega) | exact s5 _ (by omega)) (c_riders (by first | assumption | exact s4 _ (by omega) | exact s5 _ (by omega)) (by first | assumption | exact s4 _ (by omega) | exact s5 _ (by omega)) (by first | assumption | exact s4 _ (by omega) | exact s5 _ (by omega)) (by repeat (with_reducible first | exact NF_nI _ | assumption | refine NF_add ?_ ?_ | refine NF_mul ?_ ?_)) (by omega)) (by decide) rfl rfl (Nat.le_of_ble_eq_true rfl) ⟨Nat.zero_le _, Nat.zero_le _⟩ ?_
      exact jv_iret h hr dX11_car_134 ⟨by simp only [sp_car, c5, if_true, pn_nI (show i < 2 ^ 31 by omega), wi_nI (show 5 < 6 by decide) (by decide), caN], rfl, rfl, rfl⟩
  · refine jv_iconst (-1) h dX11_car_8 (by decide) ?_
    exact jv_iret h hr dX11_car_9 ⟨by simp [sp_car, c5], rfl, rfl, rfl⟩
set_option maxHeartbeats 4000000 in
set_option maxRecDepth 100000 in
theorem c_count {g : GT} {T : TT} {Mi : MI} {Ml : ML} {X u nx : Nat} {S : Nat → Nat} {R : Nat → Nat → Nat} (hX : DayS g T X) (hL : BltR Mi (X + 1) S R u nx) (hW : WF S) (w : Int32) : Ct g yX11_count cX11_count 2 (some .int) 3 0 0 [.ref X, .int w] T Mi Ml (Ri T Mi Ml (sp_count S u w)) := by
  refine Ct.of' (plainFor_of_name (by decide +kernel)) (by exact Nat.le_of_ble_eq_true rfl) ?_
  intro x hg hR h hr hnm hnl
  subst hg
  obtain ⟨x0, ⟨x1, x2⟩, ⟨x3, x4⟩, ⟨x5, x6, x7, x8⟩, ⟨x9, x10, x11, x12, x13, x14⟩, ⟨x15, x16⟩, ⟨x17, x18, x19, x20⟩, ⟨x21, x22, x23, x24⟩, ⟨x25, x26, x27, x28, x29, x30⟩, x31, x32, x33, x34, x35, x36⟩ := id hX
  obtain ⟨z1, z2, z3, z4, z5, z6, z7⟩ := id x2
  obtain ⟨e1, e2, e3⟩ := id z5
  obtain ⟨s1, s2, s3, s4, s5⟩ := id z6
  obtain ⟨h1, h2, h3, h4, h5⟩ := id z7
  obtain ⟨l1, l2, l3⟩ := id hL
  obtain ⟨y0, y1, y2, y3⟩ := id l1
  obtain ⟨v1, v2, v3, v4⟩ := id l2
  obtain ⟨r1, r2, r3, r4, r5, r6⟩ := id l3
  obtain ⟨w0, w1, w2, w3, w4, w5, w6, w7⟩ := id hW
  refine jv_iload_n h dX11_count_0 rfl ?_
  have hsw1 : (w.toInt < 0 ∨ 8 < w.toInt) ∨ (w = nI 0 ∨ w = nI 1 ∨ w = nI 2 ∨ w = nI 3 ∨ w = nI 4 ∨ w = nI 5 ∨ w = nI 6 ∨ w = nI 7 ∨ w = nI 8) := sw_0_8 w
  rcases hsw1 with hsw1 | rfl | rfl | rfl | rfl | rfl | rfl | rfl | rfl | rfl
  · refine jv_tabOut 151 h dX11_count_1 hsw1 (by decide) ?_
    refine jv_iconst (-1) h dX11_count_151 (by decide) ?_
    exact jv_iret h hr dX11_count_152 ⟨by simp only [sp_count, wi_out (isB_out (w := w) (n := 9) (by omega)), coN], rfl, rfl, rfl⟩
  · refine jv_tabIn (off := 51) 52 h dX11_count_1 (by decide) (by decide) (by decide) (by decide) ?_
    refine jv_aload_n h dX11_count_52 rfl ?_
    refine jv_gr 0 h dX11_count_53 cf_10 (by decide) gw_280 (by first | assumption | exact s4 _ (by omega) | exact s5 _ (by omega)) (by first | assumption | exact s4 _ (by omega) | exact s5 _ (by omega)) ?_
    refine jv_gr 1 h dX11_count_56 cf_0 (by decide) gw_165 (by first | assumption | exact s4 _ (by omega) | exact s5 _ (by omega)) (by first | assumption | exact s4 _ (by omega) | exact s5 _ (by omega)) ?_
    refine jv_gv 1 h dX11_count_59 cf_5 (by decide) gw_122 (by first | assumption | exact s4 _ (by omega) | exact s5 _ (by omega)) (by first | assumption | exact (upd2_ne _ _ (by omega)).trans (by assumption) | exact (upd2_ne _ _ (by omega)).trans ((upd2_ne _ _ (by omega)).trans (by assumption))) ?_
    exact jv_iret h hr dX11_count_62 ⟨by simp only [sp_count, wi_nI (show 0 < 9 by decide) (by decide), coN], rfl, rfl, rfl⟩
  · refine jv_tabIn (off := 62) 63 h dX11_count_1 (by decide) (by decide) (by decide) (by decide) ?_
    refine jv_aload_n h dX11_count_63 rfl ?_
    refine jv_gr 0 h dX11_count_64 cf_10 (by decide) gw_280 (by first | assumption | exact s4 _ (by omega) | exact s5 _ (by omega)) (by first | assumption | exact s4 _ (by omega) | exact s5 _ (by omega)) ?_
    refine jv_gr 1 h dX11_count_67 cf_0 (by decide) gw_165 (by first | assumption | exact s4 _ (by omega) | exact s5 _ (by omega)) (by first | assumption | exact s4 _ (by omega) | exact s5 _ (by omega)) ?_
    refine jv_gv 2 h dX11_count_70 cf_5 (by decide) gw_127 (by first | assumption | exact s4 _ (by omega) | exact s5 _ (by omega)) (by first | assumption | exact (upd2_ne _ _ (by omega)).trans (by assumption) | exact (upd2_ne _ _ (by omega)).trans ((upd2_ne _ _ (by omega)).trans (by assumption))) ?_
    exact jv_iret h hr dX11_count_73 ⟨by simp only [sp_count, wi_nI (show 1 < 9 by decide) (by decide), coN], rfl, rfl, rfl⟩
  · refine jv_tabIn (off := 73) 74 h dX11_count_1 (by decide) (by decide) (by decide) (by decide) ?_
    refine jv_aload_n h dX11_count_74 rfl ?_
    refine jv_gr 0 h dX11_count_75 cf_10 (by decide) gw_280 (by first | assumption | exact s4 _ (by omega) | exact s5 _ (by omega)) (by first | assumption | exact s4 _ (by omega) | exact s5 _ (by omega)) ?_
    refine jv_gr 0 h dX11_count_78 cf_0 (by decide) gw_162 (by first | assumption | exact s4 _ (by omega) | exact s5 _ (by omega)) (by first | assumption | exact s4 _ (by omega) | exact s5 _ (by omega)) ?_
    refine jv_gv 0 h dX11_count_81 cf_1 (by decide) gw_47 (by first | assumption | exact s4 _ (by omega) | exact s5 _ (by omega)) (by first | assumption | exact (upd2_ne _ _ (by omega)).trans (by assumption) | exact (upd2_ne _ _ (by omega)).trans ((upd2_ne _ _ (by omega)).trans (by assumption))) ?_
    exact jv_iret h hr dX11_count_84 ⟨by simp only [sp_count, wi_nI (show 2 < 9 by decide) (by decide), coN], rfl, rfl, rfl⟩
  · refine jv_tabIn (off := 84) 85 h dX11_count_1 (by decide) (by decide) (by decide) (by decide) ?_
    refine jv_aload_n h dX11_count_85 rfl ?_
    refine jv_gr 0 h dX11_count_86 cf_10 (by decide) gw_280 (by first | assumption | exact s4 _ (by omega) | exact s5 _ (by omega)) (by first | assumption | exact s4 _ (by omega) | exact s5 _ (by omega)) ?_
    refine jv_gr 0 h dX11_count_89 cf_0 (by decide) gw_162 (by first | assumption | exact s4 _ (by omega) | exact s5 _ (by omega)) (by first | assumption | exact s4 _ (by omega) | exact s5 _ (by omega)) ?_
    refine jv_gv 1 h dX11_count_92 cf_1 (by decide) gw_49 (by first | assumption | exact s4 _ (by omega) | exact s5 _ (by omega)) (by first | assumption | exact (upd2_ne _ _ (by omega)).trans (by assumption) | exact (upd2_ne _ _ (by omega)).trans ((upd2_ne _ _ (by omega)).trans (by assumption))) ?_
    exact jv_iret h hr dX11_count_95 ⟨by simp only [sp_count, wi_nI (show 3 < 9 by decide) (by decide), coN], rfl, rfl, rfl⟩
  · refine jv_tabIn (off := 95) 96 h dX11_count_1 (by decide) (by decide) (by decide) (by decide) ?_
    refine jv_aload_n h dX11_count_96 rfl ?_
    refine jv_gr 0 h dX11_count_97 cf_10 (by decide) gw_280 (by first | assumption | exact s4 _ (by omega) | exact s5 _ (by omega)) (by first | assumption | exact s4 _ (by omega) | exact s5 _ (by omega)) ?_
    refine jv_gr 0 h dX11_count_100 cf_0 (by decide) gw_162 (by first | assumption | exact s4 _ (by omega) | exact s5 _ (by omega)) (by first | assumption | exact s4 _ (by omega) | exact s5 _ (by omega)) ?_
    refine jv_gv 2 h dX11_count_103 cf_1 (by decide) gw_52 (by first | assumption | exact s4 _ (by omega) | exact s5 _ (by omega)) (by first | assumption | exact (upd2_ne _ _ (by omega)).trans (by assumption) | exact (upd2_ne _ _ (by omega)).trans ((upd2_ne _ _ (by omega)).trans (by assumption))) ?_
    exact jv_iret h hr dX11_count_106 ⟨by simp only [sp_count, wi_nI (show 4 < 9 by decide) (by decide), coN], rfl, rfl, rfl⟩
  · refine jv_tabIn (off := 106) 107 h dX11_count_1 (by decide) (by decide) (by decide) (by decide) ?_
    refine jv_aload_n h dX11_count_107 rfl ?_
    refine jv_gr 0 h dX11_count_108 cf_10 (by decide) gw_280 (by first | assumption | exact s4 _ (by omega) | exact s5 _ (by omega)) (by first | assumption | exact s4 _ (by omega) | exact s5 _ (by omega)) ?_
    refine jv_gr 2 h dX11_count_111 cf_0 (by decide) gw_168 (by first | assumption | exact s4 _ (by omega) | exact s5 _ (by omega)) (by first | assumption | exact s4 _ (by omega) | exact s5 _ (by omega)) ?_
    refine jv_gv 2 h dX11_count_114 cf_3 (by decide) gw_153 (by first | assumption | exact s4 _ (by omega) | exact s5 _ (by omega)) (by first | assumption | exact (upd2_ne _ _ (by omega)).trans (by assumption) | exact (upd2_ne _ _ (by omega)).trans ((upd2_ne _ _ (by omega)).trans (by assumption))) ?_
    exact jv_iret h hr dX11_count_117 ⟨by simp only [sp_count, wi_nI (show 5 < 9 by decide) (by decide), coN], rfl, rfl, rfl⟩
  · refine jv_tabIn (off := 117) 118 h dX11_count_1 (by decide) (by decide) (by decide) (by decide) ?_
    refine jv_aload_n h dX11_count_118 rfl ?_
    refine jv_gr 0 h dX11_count_119 cf_10 (by decide) gw_280 (by first | assumption | exact s4 _ (by omega) | exact s5 _ (by omega)) (by first | assumption | exact s4 _ (by omega) | exact s5 _ (by omega)) ?_
    refine jv_gr 1 h dX11_count_122 cf_0 (by decide) gw_165 (by first | assumption | exact s4 _ (by omega) | exact s5 _ (by omega)) (by first | assumption | exact s4 _ (by omega) | exact s5 _ (by omega)) ?_
    refine jv_VRi [] h dX11_count_125 cw_X11_202 cf_5 (by first | assumption | exact s4 _ (by omega) | exact s5 _ (by omega)) (c_allRiders (by first | assumption | exact s4 _ (by omega) | exact s5 _ (by omega)) (by first | assumption | exact s4 _ (by omega) | exact s5 _ (by omega)) (by first | assumption | exact s4 _ (by omega) | exact s5 _ (by omega))) (by decide) rfl rfl (Nat.le_of_ble_eq_true rfl) ⟨Nat.zero_le _, Nat.zero_le _⟩ ?_
    exact jv_iret h hr dX11_count_128 ⟨by simp only [sp_count, wi_nI (show 6 < 9 by decide) (by decide), coN, rdN], rfl, rfl, rfl⟩
  · refine jv_tabIn (off := 128) 129 h dX11_count_1 (by decide) (by decide) (by decide) (by decide) ?_
    refine jv_aload_n h dX11_count_129 rfl ?_
    refine jv_gr 0 h dX11_count_130 cf_10 (by decide) gw_280 (by first | assumption | exact s4 _ (by omega) | exact s5 _ (by omega)) (by first | assumption | exact s4 _ (by omega) | exact s5 _ (by omega)) ?_
    refine jv_gr 1 h dX11_count_133 cf_0 (by decide) gw_165 (by first | assumption | exact s4 _ (by omega) | exact s5 _ (by omega)) (by first | assumption | exact s4 _ (by omega) | exact s5 _ (by omega)) ?_
    refine jv_VRi [] h dX11_count_136 cw_X11_205 cf_5 (by first | assumption | exact s4 _ (by omega) | exact s5 _ (by omega)) (c_allLunches (by first | assumption | exact s4 _ (by omega) | exact s5 _ (by omega)) (by first | assumption | exact s4 _ (by omega) | exact s5 _ (by omega)) (by first | assumption | exact s4 _ (by omega) | exact s5 _ (by omega))) (by decide) rfl rfl (Nat.le_of_ble_eq_true rfl) ⟨Nat.zero_le _, Nat.zero_le _⟩ ?_
    exact jv_iret h hr dX11_count_139 ⟨by simp only [sp_count, wi_nI (show 7 < 9 by decide) (by decide), coN], rfl, rfl, rfl⟩
  · refine jv_tabIn (off := 139) 140 h dX11_count_1 (by decide) (by decide) (by decide) (by decide) ?_
    refine jv_aload_n h dX11_count_140 rfl ?_
    refine jv_gr 0 h dX11_count_141 cf_10 (by decide) gw_280 (by first | assumption | exact s4 _ (by omega) | exact s5 _ (by omega)) (by first | assumption | exact s4 _ (by omega) | exact s5 _ (by omega)) ?_
    refine jv_gr 1 h dX11_count_144 cf_0 (by decide) gw_165 (by first | assumption | exact s4 _ (by omega) | exact s5 _ (by omega)) (by first | assumption | exact s4 _ (by omega) | exact s5 _ (by omega)) ?_
    refine jv_VRi [] h dX11_count_147 cw_X11_208 cf_5 (by first | assumption | exact s4 _ (by omega) | exact s5 _ (by omega)) (c_fewestLunches (by first | assumption | exact s4 _ (by omega) | exact s5 _ (by omega)) (by first | assumption | exact s4 _ (by omega) | exact s5 _ (by omega)) (by first | assumption | exact s4 _ (by omega) | exact s5 _ (by omega))) (by decide) rfl rfl (Nat.le_of_ble_eq_true rfl) ⟨Nat.zero_le _, Nat.zero_le _⟩ ?_
    exact jv_iret h hr dX11_count_150 ⟨by simp only [sp_count, wi_nI (show 8 < 9 by decide) (by decide), coN], rfl, rfl, rfl⟩
set_option maxHeartbeats 4000000 in
set_option maxRecDepth 100000 in
theorem c_at {g : GT} {T : TT} {Mi : MI} {Ml : ML} {X u nx : Nat} {S : Nat → Nat} {R : Nat → Nat → Nat} (hX : DayS g T X) (hL : BltR Mi (X + 1) S R u nx) (hW : WF S) (f s n : Int32) : Ct g yX11_at cX11_at 4 (some .int) 5 0 0 [.ref X, .int f, .int s, .int n] T Mi Ml (Ri T Mi Ml (sp_at S f s n)) := by
  refine Ct.of' (plainFor_of_name (by decide +kernel)) (by exact Nat.le_of_ble_eq_true rfl) ?_
  intro x hg hR h hr hnm hnl
  subst hg
  obtain ⟨x0, ⟨x1, x2⟩, ⟨x3, x4⟩, ⟨x5, x6, x7, x8⟩, ⟨x9, x10, x11, x12, x13, x14⟩, ⟨x15, x16⟩, ⟨x17, x18, x19, x20⟩, ⟨x21, x22, x23, x24⟩, ⟨x25, x26, x27, x28, x29, x30⟩, x31, x32, x33, x34, x35, x36⟩ := id hX
  obtain ⟨z1, z2, z3, z4, z5, z6, z7⟩ := id x2
  obtain ⟨e1, e2, e3⟩ := id z5
  obtain ⟨s1, s2, s3, s4, s5⟩ := id z6
  obtain ⟨h1, h2, h3, h4, h5⟩ := id z7
  obtain ⟨l1, l2, l3⟩ := id hL
  obtain ⟨y0, y1, y2, y3⟩ := id l1
  obtain ⟨v1, v2, v3, v4⟩ := id l2
  obtain ⟨r1, r2, r3, r4, r5, r6⟩ := id l3
  obtain ⟨w0, w1, w2, w3, w4, w5, w6, w7⟩ := id hW
  refine jv_aload_n h dX11_at_0 rfl ?_
  refine jv_iload_n h dX11_at_1 rfl ?_
  refine jv_VRi [_] h dX11_at_2 cw_X11_72 cf_10 (by first | assumption | exact s4 _ (by omega) | exact s5 _ (by omega)) (c_isFloor (by first | assumption | exact s4 _ (by omega) | exact s5 _ (by omega)) (by first | assumption | exact s4 _ (by omega) | exact s5 _ (by omega)) (by first | assumption | exact s4 _ (by omega) | exact s5 _ (by omega)) _) (by decide) rfl rfl (Nat.le_of_ble_eq_true rfl) ⟨Nat.zero_le _, Nat.zero_le _⟩ ?_
  refine jv_beq 26 h dX11_at_5 (by decide) (fun c5 => ?_) (fun c5 => ?_)
  · refine jv_iconst (-1) h dX11_at_26 (by decide) ?_
    exact jv_iret h hr dX11_at_27 ⟨by unfold sp_at; rw [if_neg (by simp_all)], rfl, rfl, rfl⟩
  · refine jv_iload_n h dX11_at_8 rfl ?_
    refine jv_SRi [_] h dX11_at_9 cw_X11_211 (c_isSide _) (by decide) rfl rfl (Nat.le_of_ble_eq_true rfl) ⟨Nat.zero_le _, Nat.zero_le _⟩ ?_
    refine jv_beq 26 h dX11_at_12 (by decide) (fun c12 => ?_) (fun c12 => ?_)
    · refine jv_iconst (-1) h dX11_at_26 (by decide) ?_
      exact jv_iret h hr dX11_at_27 ⟨by unfold sp_at; rw [if_neg (by simp_all)], rfl, rfl, rfl⟩
    · refine jv_iload_n h dX11_at_15 rfl ?_
      refine jv_iconst (nI 0) h dX11_at_16 (by decide) ?_
      refine jv_sipush (nI 999) h dX11_at_17 (by decide) ?_
      refine jv_SRi [_, _, _] h dX11_at_20 cw_X11_68 (c_within (m := 0) (n := 1000) _ (by decide) (by decide)) (by decide) rfl rfl (Nat.le_of_ble_eq_true rfl) ⟨Nat.zero_le _, Nat.zero_le _⟩ ?_
      refine jv_bne 28 h dX11_at_23 (by decide) (fun c23 => ?_) (fun c23 => ?_)
      · obtain ⟨f9, rfl, -, hf9⟩ := isB_t c5
        obtain ⟨s9, rfl, -, hs9⟩ := isB_t c12
        obtain ⟨n9, rfl, -, hn9⟩ := isB_t c23
        refine jv_aload_n h dX11_at_28 rfl ?_
        refine jv_gr 0 h dX11_at_29 cf_10 (by decide) gw_280 (by first | assumption | exact s4 _ (by omega) | exact s5 _ (by omega)) (by first | assumption | exact s4 _ (by omega) | exact s5 _ (by omega)) ?_
        refine jv_iload_n h dX11_at_32 rfl ?_
        refine jv_iload_n h dX11_at_33 rfl ?_
        refine jv_iload_n h dX11_at_34 rfl ?_
        refine jv_VRi [_, _, _] h dX11_at_35 cw_X11_217 cf_0 (by first | assumption | exact s4 _ (by omega) | exact s5 _ (by omega)) (c_carBy (by first | assumption | exact s4 _ (by omega) | exact s5 _ (by omega)) (by first | assumption | exact s4 _ (by omega) | exact s5 _ (by omega)) (by first | assumption | exact s4 _ (by omega) | exact s5 _ (by omega)) (by repeat (with_reducible first | exact NF_nI _ | assumption | refine NF_add ?_ ?_ | refine NF_mul ?_ ?_)) (by repeat (with_reducible first | exact NF_nI _ | assumption | refine NF_add ?_ ?_ | refine NF_mul ?_ ?_)) (by repeat (with_reducible first | exact NF_nI _ | assumption | refine NF_add ?_ ?_ | refine NF_mul ?_ ?_)) (by omega)) (by decide) rfl rfl (Nat.le_of_ble_eq_true rfl) ⟨Nat.zero_le _, Nat.zero_le _⟩ ?_
        exact jv_iret h hr dX11_at_38 ⟨by unfold sp_at; rw [if_pos ⟨by assumption, by assumption, by assumption⟩, pn_nI (by omega), pn_nI (by omega), pn_nI (by omega)], rfl, rfl, rfl⟩
      · refine jv_iconst (-1) h dX11_at_26 (by decide) ?_
        exact jv_iret h hr dX11_at_27 ⟨by unfold sp_at; rw [if_neg (by simp_all)], rfl, rfl, rfl⟩
set_option maxHeartbeats 4000000 in
set_option maxRecDepth 100000 in
theorem c_place {g : GT} {T : TT} {Mi : MI} {Ml : ML} {X u nx : Nat} {S : Nat → Nat} {R : Nat → Nat → Nat} (hX : DayS g T X) (hL : BltR Mi (X + 1) S R u nx) (hW : WF S) (c n : Int32) : Ct g yX11_place cX11_place 3 (some .int) 4 0 0 [.ref X, .int c, .int n] T Mi Ml (Ri T Mi Ml (sp_place S c n)) := by
  refine Ct.of' (plainFor_of_name (by decide +kernel)) (by exact Nat.le_of_ble_eq_true rfl) ?_
  intro x hg hR h hr hnm hnl
  subst hg
  obtain ⟨x0, ⟨x1, x2⟩, ⟨x3, x4⟩, ⟨x5, x6, x7, x8⟩, ⟨x9, x10, x11, x12, x13, x14⟩, ⟨x15, x16⟩, ⟨x17, x18, x19, x20⟩, ⟨x21, x22, x23, x24⟩, ⟨x25, x26, x27, x28, x29, x30⟩, x31, x32, x33, x34, x35, x36⟩ := id hX
  obtain ⟨z1, z2, z3, z4, z5, z6, z7⟩ := id x2
  obtain ⟨e1, e2, e3⟩ := id z5
  obtain ⟨s1, s2, s3, s4, s5⟩ := id z6
  obtain ⟨h1, h2, h3, h4, h5⟩ := id z7
  obtain ⟨l1, l2, l3⟩ := id hL
  obtain ⟨y0, y1, y2, y3⟩ := id l1
  obtain ⟨v1, v2, v3, v4⟩ := id l2
  obtain ⟨r1, r2, r3, r4, r5, r6⟩ := id l3
  obtain ⟨w0, w1, w2, w3, w4, w5, w6, w7⟩ := id hW
  refine jv_aload_n h dX11_place_0 rfl ?_
  refine jv_iload_n h dX11_place_1 rfl ?_
  refine jv_VRi [_] h dX11_place_2 cw_X11_138 cf_10 (by first | assumption | exact s4 _ (by omega) | exact s5 _ (by omega)) (c_isCar (by first | assumption | exact s4 _ (by omega) | exact s5 _ (by omega)) (by first | assumption | exact s4 _ (by omega) | exact s5 _ (by omega)) (by first | assumption | exact s4 _ (by omega) | exact s5 _ (by omega)) _) (by decide) rfl rfl (Nat.le_of_ble_eq_true rfl) ⟨Nat.zero_le _, Nat.zero_le _⟩ ?_
  refine jv_beq 19 h dX11_place_5 (by decide) (fun c5 => ?_) (fun c5 => ?_)
  · refine jv_iconst (-1) h dX11_place_19 (by decide) ?_
    exact jv_iret h hr dX11_place_20 ⟨by unfold sp_place; rw [if_neg (by simp_all)], rfl, rfl, rfl⟩
  · refine jv_iload_n h dX11_place_8 rfl ?_
    refine jv_iconst (nI 0) h dX11_place_9 (by decide) ?_
    refine jv_sipush (nI 999) h dX11_place_10 (by decide) ?_
    refine jv_SRi [_, _, _] h dX11_place_13 cw_X11_68 (c_within (m := 0) (n := 1000) _ (by decide) (by decide)) (by decide) rfl rfl (Nat.le_of_ble_eq_true rfl) ⟨Nat.zero_le _, Nat.zero_le _⟩ ?_
    refine jv_bne 21 h dX11_place_16 (by decide) (fun c16 => ?_) (fun c16 => ?_)
    · obtain ⟨c9, rfl, -, hc9⟩ := isB_t c5
      obtain ⟨n9, rfl, -, hn9⟩ := isB_t c16
      refine jv_aload_n h dX11_place_21 rfl ?_
      refine jv_gr 0 h dX11_place_22 cf_10 (by decide) gw_280 (by first | assumption | exact s4 _ (by omega) | exact s5 _ (by omega)) (by first | assumption | exact s4 _ (by omega) | exact s5 _ (by omega)) ?_
      refine jv_gr 0 h dX11_place_25 cf_0 (by decide) gw_162 (by first | assumption | exact s4 _ (by omega) | exact s5 _ (by omega)) (by first | assumption | exact s4 _ (by omega) | exact s5 _ (by omega)) ?_
      refine jv_iload_n h dX11_place_28 rfl ?_
      refine jv_aload_n h dX11_place_29 rfl ?_
      refine jv_gr 0 h dX11_place_30 cf_10 (by decide) gw_280 (by first | assumption | exact s4 _ (by omega) | exact s5 _ (by omega)) (by first | assumption | exact s4 _ (by omega) | exact s5 _ (by omega)) ?_
      refine jv_gr 1 h dX11_place_33 cf_0 (by decide) gw_165 (by first | assumption | exact s4 _ (by omega) | exact s5 _ (by omega)) (by first | assumption | exact s4 _ (by omega) | exact s5 _ (by omega)) ?_
      refine jv_gv 2 h dX11_place_36 cf_5 (by decide) gw_127 (by first | assumption | exact s4 _ (by omega) | exact s5 _ (by omega)) (by first | assumption | exact (upd2_ne _ _ (by omega)).trans (by assumption) | exact (upd2_ne _ _ (by omega)).trans ((upd2_ne _ _ (by omega)).trans (by assumption))) ?_
      refine jv_iload_n h dX11_place_39 rfl ?_
      first | refine jv_iaddN h dX11_place_40 (by repeat (with_reducible first | exact NF_nI _ | assumption | refine NF_add ?_ ?_ | refine NF_mul ?_ ?_)) (by repeat (with_reducible first | exact NF_nI _ | assumption | refine NF_add ?_ ?_ | refine NF_mul ?_ ?_)) ?_ | refine jv_iadd h dX11_place_40 ?_
      refine jv_VRi [_, _] h dX11_place_41 cw_X11_148 cf_1 (by first | assumption | exact s4 _ (by omega) | exact s5 _ (by omega)) (c_placeOf (by first | assumption | exact s4 _ (by omega) | exact s5 _ (by omega)) (by first | assumption | exact (upd2_ne _ _ (by omega)).trans (by assumption) | exact (upd2_ne _ _ (by omega)).trans ((upd2_ne _ _ (by omega)).trans (by assumption))) (by repeat (with_reducible first | exact NF_nI _ | assumption | refine NF_add ?_ ?_ | refine NF_mul ?_ ?_)) (by repeat (with_reducible first | exact NF_nI _ | assumption | refine NF_add ?_ ?_ | refine NF_mul ?_ ?_)) (by omega)) (by decide) rfl rfl (Nat.le_of_ble_eq_true rfl) ⟨Nat.zero_le _, Nat.zero_le _⟩ ?_
      exact jv_iret h hr dX11_place_44 ⟨by unfold sp_place; rw [if_pos ⟨by assumption, by assumption⟩, pn_nI (by omega), pn_nI (by omega)], rfl, rfl, rfl⟩
    · refine jv_iconst (-1) h dX11_place_19 (by decide) ?_
      exact jv_iret h hr dX11_place_20 ⟨by unfold sp_place; rw [if_neg (by simp_all)], rfl, rfl, rfl⟩
set_option maxHeartbeats 4000000 in
set_option maxRecDepth 100000 in
theorem c_goes {g : GT} {T : TT} {Mi : MI} {Ml : ML} {X u nx : Nat} {S : Nat → Nat} {R : Nat → Nat → Nat} (hX : DayS g T X) (hL : BltR Mi (X + 1) S R u nx) (hW : WF S) (n s : Int32) : Ct g yX11_goes cX11_goes 5 (some .int) 2 0 0 [.ref X, .int n, .int s] T Mi Ml (Ri T Mi Ml (sp_goes n s)) := by
  refine Ct.of' (plainFor_of_name (by decide +kernel)) (by exact Nat.le_of_ble_eq_true rfl) ?_
  intro x hg hR h hr hnm hnl
  subst hg
  obtain ⟨x0, ⟨x1, x2⟩, ⟨x3, x4⟩, ⟨x5, x6, x7, x8⟩, ⟨x9, x10, x11, x12, x13, x14⟩, ⟨x15, x16⟩, ⟨x17, x18, x19, x20⟩, ⟨x21, x22, x23, x24⟩, ⟨x25, x26, x27, x28, x29, x30⟩, x31, x32, x33, x34, x35, x36⟩ := id hX
  obtain ⟨z1, z2, z3, z4, z5, z6, z7⟩ := id x2
  obtain ⟨e1, e2, e3⟩ := id z5
  obtain ⟨s1, s2, s3, s4, s5⟩ := id z6
  obtain ⟨h1, h2, h3, h4, h5⟩ := id z7
  obtain ⟨l1, l2, l3⟩ := id hL
  obtain ⟨y0, y1, y2, y3⟩ := id l1
  obtain ⟨v1, v2, v3, v4⟩ := id l2
  obtain ⟨r1, r2, r3, r4, r5, r6⟩ := id l3
  obtain ⟨w0, w1, w2, w3, w4, w5, w6, w7⟩ := id hW
  refine jv_iload_n h dX11_goes_0 rfl ?_
  refine jv_iconst (nI 0) h dX11_goes_1 (by decide) ?_
  refine jv_bipush (nI 30) h dX11_goes_2 (by decide) ?_
  refine jv_SRi [_, _, _] h dX11_goes_4 cw_X11_68 (c_within (m := 0) (n := 31) _ (by decide) (by decide)) (by decide) rfl rfl (Nat.le_of_ble_eq_true rfl) ⟨Nat.zero_le _, Nat.zero_le _⟩ ?_
  refine jv_beq 20 h dX11_goes_7 (by decide) (fun c7 => ?_) (fun c7 => ?_)
  · refine jv_iconst (-1) h dX11_goes_20 (by decide) ?_
    exact jv_iret h hr dX11_goes_21 ⟨by unfold sp_goes; rw [if_neg (by simp_all)], rfl, rfl, rfl⟩
  · refine jv_iload_n h dX11_goes_10 rfl ?_
    refine jv_iconst (nI 0) h dX11_goes_11 (by decide) ?_
    refine jv_bipush (nI 100) h dX11_goes_12 (by decide) ?_
    refine jv_SRi [_, _, _] h dX11_goes_14 cw_X11_68 (c_within (m := 0) (n := 101) _ (by decide) (by decide)) (by decide) rfl rfl (Nat.le_of_ble_eq_true rfl) ⟨Nat.zero_le _, Nat.zero_le _⟩ ?_
    refine jv_bne 22 h dX11_goes_17 (by decide) (fun c17 => ?_) (fun c17 => ?_)
    · obtain ⟨n9, rfl, -, hn9⟩ := isB_t c7
      obtain ⟨s9, rfl, -, hs9⟩ := isB_t c17
      refine jv_ldcw h dX11_goes_22 gw_799 ?_
      refine jv_istore_n h dX11_goes_25 (lt_nl hnl (by decide)) ?_
      refine jv_iconst (nI 0) h dX11_goes_26 (by decide) ?_
      refine jv_istore h dX11_goes_27 (lt_nl hnl (by decide)) ?_
      have hl29 : ∀ (n : Nat) (i z : Nat), n9 - i < n → i ≤ n9 → z = gsN s9 i → V x 0 0 T Mi Ml 29 [some (.ref X), some (.int (nI n9)), some (.int (nI s9)), some (.int (nI z)), some (.int (nI i))] [] := by
        intro n
        induction n with
        | zero => intro i z hN9 hi hz; exact absurd hN9 (by omega)
        | succ n ih =>
          intro i z hN9 hi hz
          refine jv_iload h dX11_goes_29 rfl ?_
          refine jv_iload_n h dX11_goes_31 rfl ?_
          refine jv_nge 51 h dX11_goes_32 (by decide) (by repeat (with_reducible first | exact NF_nI _ | first | assumption | exact NF_l3 | refine NF_add ?_ ?_ | refine NF_mul ?_ ?_)) (by repeat (with_reducible first | exact NF_nI _ | first | assumption | exact NF_l3 | refine NF_add ?_ ?_ | refine NF_mul ?_ ?_)) ⟨by omega, by omega⟩ (fun c32 => ?_) (fun c32 => ?_)
          · refine jv_iload_n h dX11_goes_51 rfl ?_
            exact jv_iret h hr dX11_goes_52 ⟨by unfold sp_goes; rw [if_pos ⟨by assumption, by assumption⟩, pn_nI (by omega), pn_nI (by omega), hz, show i = n9 by omega], rfl, rfl, rfl⟩
          · have hle := gsN_le s9 i
            have hmu : gsN s9 i * (100 - s9) ≤ 1000000 * 100 := Nat.mul_le_mul hle (by omega)
            subst hz
            refine jv_iload_n h dX11_goes_35 rfl ?_
            refine jv_bipush (nI 100) h dX11_goes_36 (by decide) ?_
            refine jv_iload_n h dX11_goes_38 rfl ?_
            first | refine jv_isubN h dX11_goes_39 (by repeat (with_reducible first | exact NF_nI _ | first | assumption | exact NF_l3 | refine NF_add ?_ ?_ | refine NF_mul ?_ ?_)) (by repeat (with_reducible first | exact NF_nI _ | first | assumption | exact NF_l3 | refine NF_add ?_ ?_ | refine NF_mul ?_ ?_)) (by omega) ?_ | refine jv_isub h dX11_goes_39 ?_
            first | refine jv_imulN h dX11_goes_40 (by repeat (with_reducible first | exact NF_nI _ | first | assumption | exact NF_l3 | refine NF_add ?_ ?_ | refine NF_mul ?_ ?_)) (by repeat (with_reducible first | exact NF_nI _ | first | assumption | exact NF_l3 | refine NF_add ?_ ?_ | refine NF_mul ?_ ?_)) ?_ | refine jv_imul h dX11_goes_40 ?_
            refine jv_bipush (nI 100) h dX11_goes_41 (by decide) ?_
            refine jv_idivN h dX11_goes_43 (by repeat (with_reducible first | exact NF_nI _ | first | assumption | exact NF_l3 | refine NF_add ?_ ?_ | refine NF_mul ?_ ?_)) (by repeat (with_reducible first | exact NF_nI _ | first | assumption | exact NF_l3 | refine NF_add ?_ ?_ | refine NF_mul ?_ ?_)) (by omega) ⟨by omega, by omega⟩ ?_
            refine jv_istore_n h dX11_goes_44 (lt_nl hnl (by decide)) ?_
            refine jv_iinc (nI (i + 1)) h dX11_goes_45 rfl (lt_nl hnl (by decide)) (nI_inc i) ?_
            refine jv_goto 29 h dX11_goes_48 (by decide) ?_
            exact ih (i + 1) _ (by omega) (by omega) rfl
      exact hl29 (n9 + 1) 0 1000000 (by omega) (by omega) rfl
    · refine jv_iconst (-1) h dX11_goes_20 (by decide) ?_
      exact jv_iret h hr dX11_goes_21 ⟨by unfold sp_goes; rw [if_neg (by simp_all)], rfl, rfl, rfl⟩
