set_option maxHeartbeats 4000000 in
set_option maxRecDepth 100000 in
theorem c_soonest {g : GT} {T : TT} {Mi : MI} {Ml : ML} {X u nx : Nat} {S : Nat → Nat} {R : Nat → Nat → Nat} (hX : DayS g T X) (hL : BltR Mi (X + 1) S R u nx) (hW : WF S) (h19 : S 1 ≤ 9999) (p f d w : Int32) : Ct g yX11_soonest cX11_soonest 8 (some .int) 8 0 0 [.ref X, .int p, .int f, .int d, .int w] T Mi Ml (Gi T (fun rv Mi' Ml' => rv = sp_soonest S p f d w ∧ FrW Mi Ml Mi' Ml' X)) := by
  refine Ct.of' (plainFor_of_name (by decide +kernel)) (by exact Nat.le_of_ble_eq_true rfl) ?_
  intro x hg hR h hr hnm hnl
  subst hg
  obtain ⟨x0, ⟨x1, x2⟩, ⟨x3, x4⟩, ⟨x5, x6, x7, x8⟩, ⟨x9, x10, x11, x12, x13, x14⟩, ⟨x15, x16⟩, ⟨x17, x18, x19, x20⟩, ⟨x21, x22, x23, x24⟩, ⟨x25, x26, x27, x28, x29, x30⟩, x31, x32, x33, x34, x35, x36⟩ := id hX
  obtain ⟨z1, z2, z3, z4, z5, z6, z7⟩ := id x2
  obtain ⟨e1, e2, e3⟩ := id z5
  obtain ⟨s1, s2, s3, s4, s5⟩ := id z6
  obtain ⟨h1, h2, h3, h4, h5⟩ := id z7
  obtain ⟨l1, l2, l3⟩ := id hL
  obtain ⟨y0, y1, y2, y3⟩ := id l1
  obtain ⟨v1, v2, v3, v4⟩ := id l2
  obtain ⟨r1, r2, r3, r4, r5, r6⟩ := id l3
  obtain ⟨w0, w1, w2, w3, w4, w5, w6, w7⟩ := id hW
  have hK : WkS x.1 T (X + 176) := ⟨x18, x19, x20⟩
  refine jv_aload_n h dX11_soonest_0 rfl ?_
  refine jv_iload_n h dX11_soonest_1 rfl ?_
  refine jv_VRi [_] h dX11_soonest_2 cw_X11_99 cf_10 (by first | assumption | exact s4 _ (by omega) | exact s5 _ (by omega)) (c_isPerson (by first | assumption | exact s4 _ (by omega) | exact s5 _ (by omega)) (by first | assumption | exact s4 _ (by omega) | exact s5 _ (by omega)) (by first | assumption | exact s4 _ (by omega) | exact s5 _ (by omega)) _) (by decide) rfl rfl (Nat.le_of_ble_eq_true rfl) ⟨Nat.zero_le _, Nat.zero_le _⟩ ?_
  refine jv_beq 33 h dX11_soonest_5 (by decide) (fun c5 => ?_) (fun c5 => ?_)
  · refine jv_iconst (-1) h dX11_soonest_33 (by decide) ?_
    exact jv_iret h hr dX11_soonest_34 ⟨_, rfl, rfl, by unfold sp_soonest; rw [if_neg (by simp_all)], FrW.rf _ _ _⟩
  · refine jv_aload_n h dX11_soonest_8 rfl ?_
    refine jv_iload_n h dX11_soonest_9 rfl ?_
    refine jv_VRi [_] h dX11_soonest_10 cw_X11_72 cf_10 (by first | assumption | exact s4 _ (by omega) | exact s5 _ (by omega)) (c_isFloor (by first | assumption | exact s4 _ (by omega) | exact s5 _ (by omega)) (by first | assumption | exact s4 _ (by omega) | exact s5 _ (by omega)) (by first | assumption | exact s4 _ (by omega) | exact s5 _ (by omega)) _) (by decide) rfl rfl (Nat.le_of_ble_eq_true rfl) ⟨Nat.zero_le _, Nat.zero_le _⟩ ?_
    refine jv_beq 33 h dX11_soonest_13 (by decide) (fun c13 => ?_) (fun c13 => ?_)
    · refine jv_iconst (-1) h dX11_soonest_33 (by decide) ?_
      exact jv_iret h hr dX11_soonest_34 ⟨_, rfl, rfl, by unfold sp_soonest; rw [if_neg (by simp_all)], FrW.rf _ _ _⟩
    · refine jv_iload_n h dX11_soonest_16 rfl ?_
      refine jv_SRi [_] h dX11_soonest_17 cw_X11_76 (c_isDay _) (by decide) rfl rfl (Nat.le_of_ble_eq_true rfl) ⟨Nat.zero_le _, Nat.zero_le _⟩ ?_
      refine jv_beq 33 h dX11_soonest_20 (by decide) (fun c20 => ?_) (fun c20 => ?_)
      · refine jv_iconst (-1) h dX11_soonest_33 (by decide) ?_
        exact jv_iret h hr dX11_soonest_34 ⟨_, rfl, rfl, by unfold sp_soonest; rw [if_neg (by simp_all)], FrW.rf _ _ _⟩
      · refine jv_iload h dX11_soonest_23 rfl ?_
        refine jv_iconst (nI 0) h dX11_soonest_25 (by decide) ?_
        refine jv_iconst (nI 1) h dX11_soonest_26 (by decide) ?_
        refine jv_SRi [_, _, _] h dX11_soonest_27 cw_X11_68 (c_within (m := 0) (n := 2) _ (by decide) (by decide)) (by decide) rfl rfl (Nat.le_of_ble_eq_true rfl) ⟨Nat.zero_le _, Nat.zero_le _⟩ ?_
        refine jv_bne 35 h dX11_soonest_30 (by decide) (fun c30 => ?_) (fun c30 => ?_)
        · obtain ⟨i, rfl, -, hi⟩ := isB_t c5
          obtain ⟨f9, rfl, -, hf9⟩ := isB_t c13
          obtain ⟨d9, rfl, -, hd9⟩ := isB_t c20
          obtain ⟨w9, rfl, -, hw9⟩ := isB_t c30
          have hsp : sp_soonest S (nI i) (nI f9) (nI d9) (nI w9) = soI S i (f9 * 7 + d9) w9 := by
            unfold sp_soonest
            rw [if_pos ⟨c5, c13, c20, c30⟩, pn_nI (by omega), pn_nI (by omega), pn_nI (by omega), pn_nI (by omega)]
          have w7i := w7 i hi
          refine jv_aload_n h dX11_soonest_35 rfl ?_
          refine jv_gr 6 h dX11_soonest_36 cf_10 (by decide) gw_286 (by first | assumption | exact s4 _ (by omega) | exact s5 _ (by omega)) (by first | assumption | exact s4 _ (by omega) | exact s5 _ (by omega)) ?_
          refine jv_aload_n h dX11_soonest_39 rfl ?_
          refine jv_gr 0 h dX11_soonest_40 cf_10 (by decide) gw_280 (by first | assumption | exact s4 _ (by omega) | exact s5 _ (by omega)) (by first | assumption | exact s4 _ (by omega) | exact s5 _ (by omega)) ?_
          refine jv_aload_n h dX11_soonest_43 rfl ?_
          refine jv_gr 0 h dX11_soonest_44 cf_10 (by decide) gw_280 (by first | assumption | exact s4 _ (by omega) | exact s5 _ (by omega)) (by first | assumption | exact s4 _ (by omega) | exact s5 _ (by omega)) ?_
          refine jv_gr 1 h dX11_soonest_47 cf_0 (by decide) gw_165 (by first | assumption | exact s4 _ (by omega) | exact s5 _ (by omega)) (by first | assumption | exact s4 _ (by omega) | exact s5 _ (by omega)) ?_
          refine jv_gr 0 h dX11_soonest_50 cf_5 (by decide) gw_119 (by first | assumption | exact s4 _ (by omega) | exact s5 _ (by omega)) (by first | assumption | exact s4 _ (by omega) | exact s5 _ (by omega)) ?_
          refine jv_iload_n h dX11_soonest_53 rfl ?_
          refine jv_aald h dX11_soonest_54 (by first | assumption | exact s4 _ (by omega) | exact s5 _ (by omega)) (by decide) (by repeat (with_reducible first | exact NF_nI _ | assumption | refine NF_add ?_ ?_ | refine NF_mul ?_ ?_)) ⟨by omega, by decide⟩ (by first | assumption | exact s4 _ (by omega) | exact s5 _ (by omega)) ?_
          refine jv_VGv [_, _] h dX11_soonest_55 cw_X11_245 cf_8 (by first | assumption | exact s4 _ (by omega) | exact s5 _ (by omega)) (c_wkbegin hK x2 hL hW hi (by omega)) (by decide) rfl rfl (Nat.le_of_ble_eq_true rfl) ⟨Nat.zero_le _, Nat.zero_le _⟩ (fun Mi55 Ml55 hp55 => ?_)
          obtain ⟨f1, f2, f3, f4, f5, f6, f7, f8⟩ := hp55
          have hA0 : BR (Ml55 (X + 176) 3) (stA S i) := by rw [f7]; exact BR.st hW hi
          have hA5 : BR (Ml55 (X + 176) 5) (stA S i) := by rw [f8]; exact BR.st hW hi
          refine jv_iload_n h dX11_soonest_58 rfl ?_
          refine jv_iload_n h dX11_soonest_59 rfl ?_
          refine jv_SRl [_, _] h dX11_soonest_60 cw_X11_248 (c_spot (NF_nI _) (NF_nI _) (by omega) (by omega)) (by decide) rfl rfl (Nat.le_of_ble_eq_true rfl) ⟨Nat.zero_le _, Nat.zero_le _⟩ ?_
          refine jv_lstore h dX11_soonest_63 (lt_nl hnl (by decide)) ?_
          refine jv_aload_n h dX11_soonest_65 rfl ?_
          refine jv_gr 6 h dX11_soonest_66 cf_10 (by decide) gw_286 (by first | assumption | exact s4 _ (by omega) | exact s5 _ (by omega)) (by first | assumption | exact s4 _ (by omega) | exact s5 _ (by omega)) ?_
          refine jv_lload h dX11_soonest_69 rfl ?_
          refine jv_bipush (nI 60) h dX11_soonest_71 (by decide) ?_
          refine jv_VGi [_, _] h dX11_soonest_73 cw_X11_252 cf_8 (by first | assumption | exact s4 _ (by omega) | exact s5 _ (by omega)) (c_fewest hK f3 hW f5 (by omega) f4 (by omega) hA0 (by omega) (carI_s 60).symm (by decide)) (by decide) rfl rfl (Nat.le_of_ble_eq_true rfl) ⟨Nat.zero_le _, Nat.zero_le _⟩ (fun v_73 Mi73 Ml73 hp73 => ?_)
          obtain ⟨w90, e1, e2, e3, e4⟩ := hp73
          subst v_73
          refine jv_istore h dX11_soonest_76 (lt_nl hnl (by decide)) ?_
          refine jv_iload h dX11_soonest_78 rfl ?_
          refine jv_bipush (-4) h dX11_soonest_80 (by decide) ?_
          refine jv_icmp_eq 90 h dX11_soonest_82 (by decide) (fun c82 => ?_) (fun c82 => ?_)
          · refine jv_iload h dX11_soonest_90 rfl ?_
            exact jv_iret h hr dX11_soonest_92 ⟨_, rfl, rfl, by
      rw [hsp]
      unfold soI
      rw [if_pos (by first | exact Or.inl c82 | exact Or.inr c87)]
      rfl, fun a ha => (e1 a (by omega)).trans (f1 a (by omega)), fun a ha => (e3 a (by omega)).trans (f2 a (by omega))⟩
          · refine jv_iload h dX11_soonest_85 rfl ?_
            refine jv_zne 93 h dX11_soonest_87 (by decide) (by repeat (with_reducible first | exact NF_nI _ | assumption | refine NF_add ?_ ?_ | refine NF_mul ?_ ?_)) (by omega) (fun c87 => ?_) (fun c87 => ?_)
            · have hne : snI S i (f9 * 7 + d9) ≠ -4 := c82
              obtain ⟨hs1, hs2⟩ := fs_le (by omega) hne
              have hs1 : pn (snI S i (f9 * 7 + d9)) < 61 := hs1
              have hs2 : fsN (wmB S (stA S i) (S (18 + 6 * i)) (S 1) (f9 * 7 + d9)) 0 61 = nI (pn (snI S i (f9 * 7 + d9))) := hs2
              refine jv_aload_n h dX11_soonest_93 rfl ?_
              refine jv_gr 6 h dX11_soonest_94 cf_10 (by decide) gw_286 (by first | assumption | exact s4 _ (by omega) | exact s5 _ (by omega)) (by first | assumption | exact s4 _ (by omega) | exact s5 _ (by omega)) ?_
              refine jv_lload h dX11_soonest_97 rfl ?_
              refine jv_iload h dX11_soonest_99 rfl ?_
              refine jv_VGi [_, _] h dX11_soonest_101 cw_X11_256 cf_8 (by first | assumption | exact s4 _ (by omega) | exact s5 _ (by omega)) (c_firstMove hK (f3.fr (e1 _ (by omega)) (e1 _ (by omega))) hW ((e2 2 (by decide)).trans f5) (by omega) ((e2 1 (by decide)).trans f4) (by omega) (by rw [e4 3 (by decide)]; exact hA0) (by omega) hs2 (by omega)) (by decide) rfl rfl (Nat.le_of_ble_eq_true rfl) ⟨Nat.zero_le _, Nat.zero_le _⟩ (fun v_101 Mi101 Ml101 hp101 => ?_)
              obtain ⟨w91, g1, g2, g3, g4⟩ := hp101
              subst v_101
              exact jv_iret h hr dX11_soonest_104 ⟨_, rfl, rfl, by
      rw [hsp]
      unfold soI
      rw [if_neg (fun z => z.elim hne c87)]
      rfl, fun a ha => (g1 a (by omega)).trans ((e1 a (by omega)).trans (f1 a (by omega))), fun a ha => (g3 a (by omega)).trans ((e3 a (by omega)).trans (f2 a (by omega)))⟩
            · refine jv_iload h dX11_soonest_90 rfl ?_
              exact jv_iret h hr dX11_soonest_92 ⟨_, rfl, rfl, by
      rw [hsp]
      unfold soI
      rw [if_pos (by first | exact Or.inl c82 | exact Or.inr c87)]
      rfl, fun a ha => (e1 a (by omega)).trans (f1 a (by omega)), fun a ha => (e3 a (by omega)).trans (f2 a (by omega))⟩
        · refine jv_iconst (-1) h dX11_soonest_33 (by decide) ?_
          exact jv_iret h hr dX11_soonest_34 ⟨_, rfl, rfl, by unfold sp_soonest; rw [if_neg (by simp_all)], FrW.rf _ _ _⟩
set_option maxHeartbeats 4000000 in
set_option maxRecDepth 100000 in
theorem c_never {g : GT} {T : TT} {Mi : MI} {Ml : ML} {X u nx : Nat} {S : Nat → Nat} {R : Nat → Nat → Nat} (hX : DayS g T X) (hL : BltR Mi (X + 1) S R u nx) (hW : WF S) (h19 : S 1 ≤ 9999) (p d : Int32) : Ct g yX11_never cX11_never 7 (some .int) 7 0 0 [.ref X, .int p, .int d] T Mi Ml (Gi T (fun rv Mi' Ml' => rv = sp_never S p d ∧ FrW Mi Ml Mi' Ml' X)) := by
  refine Ct.of' (plainFor_of_name (by decide +kernel)) (by exact Nat.le_of_ble_eq_true rfl) ?_
  intro x hg hR h hr hnm hnl
  subst hg
  obtain ⟨x0, ⟨x1, x2⟩, ⟨x3, x4⟩, ⟨x5, x6, x7, x8⟩, ⟨x9, x10, x11, x12, x13, x14⟩, ⟨x15, x16⟩, ⟨x17, x18, x19, x20⟩, ⟨x21, x22, x23, x24⟩, ⟨x25, x26, x27, x28, x29, x30⟩, x31, x32, x33, x34, x35, x36⟩ := id hX
  obtain ⟨z1, z2, z3, z4, z5, z6, z7⟩ := id x2
  obtain ⟨e1, e2, e3⟩ := id z5
  obtain ⟨s1, s2, s3, s4, s5⟩ := id z6
  obtain ⟨h1, h2, h3, h4, h5⟩ := id z7
  obtain ⟨l1, l2, l3⟩ := id hL
  obtain ⟨y0, y1, y2, y3⟩ := id l1
  obtain ⟨v1, v2, v3, v4⟩ := id l2
  obtain ⟨r1, r2, r3, r4, r5, r6⟩ := id l3
  obtain ⟨w0, w1, w2, w3, w4, w5, w6, w7⟩ := id hW
  have hK : WkS x.1 T (X + 176) := ⟨x18, x19, x20⟩
  refine jv_aload_n h dX11_never_0 rfl ?_
  refine jv_iload_n h dX11_never_1 rfl ?_
  refine jv_VRi [_] h dX11_never_2 cw_X11_99 cf_10 (by first | assumption | exact s4 _ (by omega) | exact s5 _ (by omega)) (c_isPerson (by first | assumption | exact s4 _ (by omega) | exact s5 _ (by omega)) (by first | assumption | exact s4 _ (by omega) | exact s5 _ (by omega)) (by first | assumption | exact s4 _ (by omega) | exact s5 _ (by omega)) _) (by decide) rfl rfl (Nat.le_of_ble_eq_true rfl) ⟨Nat.zero_le _, Nat.zero_le _⟩ ?_
  refine jv_beq 15 h dX11_never_5 (by decide) (fun c5 => ?_) (fun c5 => ?_)
  · refine jv_iconst (-1) h dX11_never_15 (by decide) ?_
    exact jv_iret h hr dX11_never_16 ⟨_, rfl, rfl, by unfold sp_never; rw [if_neg (by simp_all)], FrW.rf _ _ _⟩
  · refine jv_iload_n h dX11_never_8 rfl ?_
    refine jv_SRi [_] h dX11_never_9 cw_X11_76 (c_isDay _) (by decide) rfl rfl (Nat.le_of_ble_eq_true rfl) ⟨Nat.zero_le _, Nat.zero_le _⟩ ?_
    refine jv_bne 17 h dX11_never_12 (by decide) (fun c12 => ?_) (fun c12 => ?_)
    · obtain ⟨i, rfl, -, hi⟩ := isB_t c5
      obtain ⟨d9, rfl, -, hd9⟩ := isB_t c12
      have hsp : sp_never S (nI i) (nI d9) = nI (neN S i d9) := by
        unfold sp_never
        rw [if_pos ⟨c5, c12⟩, pn_nI (by omega), pn_nI (by omega)]
      have w7i := w7 i hi
      refine jv_aload_n h dX11_never_17 rfl ?_
      refine jv_gr 6 h dX11_never_18 cf_10 (by decide) gw_286 (by first | assumption | exact s4 _ (by omega) | exact s5 _ (by omega)) (by first | assumption | exact s4 _ (by omega) | exact s5 _ (by omega)) ?_
      refine jv_aload_n h dX11_never_21 rfl ?_
      refine jv_gr 0 h dX11_never_22 cf_10 (by decide) gw_280 (by first | assumption | exact s4 _ (by omega) | exact s5 _ (by omega)) (by first | assumption | exact s4 _ (by omega) | exact s5 _ (by omega)) ?_
      refine jv_aload_n h dX11_never_25 rfl ?_
      refine jv_gr 0 h dX11_never_26 cf_10 (by decide) gw_280 (by first | assumption | exact s4 _ (by omega) | exact s5 _ (by omega)) (by first | assumption | exact s4 _ (by omega) | exact s5 _ (by omega)) ?_
      refine jv_gr 1 h dX11_never_29 cf_0 (by decide) gw_165 (by first | assumption | exact s4 _ (by omega) | exact s5 _ (by omega)) (by first | assumption | exact s4 _ (by omega) | exact s5 _ (by omega)) ?_
      refine jv_gr 0 h dX11_never_32 cf_5 (by decide) gw_119 (by first | assumption | exact s4 _ (by omega) | exact s5 _ (by omega)) (by first | assumption | exact s4 _ (by omega) | exact s5 _ (by omega)) ?_
      refine jv_iload_n h dX11_never_35 rfl ?_
      refine jv_aald h dX11_never_36 (by first | assumption | exact s4 _ (by omega) | exact s5 _ (by omega)) (by decide) (by repeat (with_reducible first | exact NF_nI _ | assumption | refine NF_add ?_ ?_ | refine NF_mul ?_ ?_)) ⟨by omega, by decide⟩ (by first | assumption | exact s4 _ (by omega) | exact s5 _ (by omega)) ?_
      refine jv_VGv [_, _] h dX11_never_37 cw_X11_245 cf_8 (by first | assumption | exact s4 _ (by omega) | exact s5 _ (by omega)) (c_wkbegin hK x2 hL hW hi (by omega)) (by decide) rfl rfl (Nat.le_of_ble_eq_true rfl) ⟨Nat.zero_le _, Nat.zero_le _⟩ (fun Mi37 Ml37 hp37 => ?_)
      obtain ⟨f1, f2, f3, f4, f5, f6, f7, f8⟩ := hp37
      have hA0 : BR (Ml37 (X + 176) 3) (stA S i) := by rw [f7]; exact BR.st hW hi
      have hA5 : BR (Ml37 (X + 176) 5) (stA S i) := by rw [f8]; exact BR.st hW hi
      refine jv_aload_n h dX11_never_40 rfl ?_
      refine jv_gr 6 h dX11_never_41 cf_10 (by decide) gw_286 (by first | assumption | exact s4 _ (by omega) | exact s5 _ (by omega)) (by first | assumption | exact s4 _ (by omega) | exact s5 _ (by omega)) ?_
      refine jv_VGl [] h dX11_never_44 cw_X11_259 cf_8 (by first | assumption | exact s4 _ (by omega) | exact s5 _ (by omega)) (c_allReached hK f3 hW f6 (by omega) f4 (by omega) hA5) (by decide) rfl rfl (Nat.le_of_ble_eq_true rfl) ⟨Nat.zero_le _, Nat.zero_le _⟩ (fun v_44 Mi44 Ml44 hp44 => ?_)
      obtain ⟨n3, e1, e2, e3, e4⟩ := hp44
      refine jv_lstore_n h dX11_never_47 (lt_nl hnl (by decide)) ?_
      refine jv_iconst (nI 0) h dX11_never_48 (by decide) ?_
      refine jv_istore h dX11_never_49 (lt_nl hnl (by decide)) ?_
      refine jv_iconst (nI 0) h dX11_never_51 (by decide) ?_
      refine jv_istore h dX11_never_52 (lt_nl hnl (by decide)) ?_
      have hl54 : ∀ (n : Nat) (fl : Nat), 7 - fl < n → fl ≤ S 2 → V x 0 0 T Mi44 Ml44 54 [some (.ref X), some (.int (nI i)), some (.int (nI d9)), some (.long v_44), none, some (.int (nI (stN (fun f => !whB S i (f * 7 + d9) 60) fl))), some (.int (nI fl))] [] := by
        intro n
        induction n with
        | zero => intro fl hN9 hfl; exact absurd hN9 (by omega)
        | succ n ih =>
          intro fl hN9 hfl
          refine jv_iload h dX11_never_54 rfl ?_
          refine jv_aload_n h dX11_never_56 rfl ?_
          refine jv_gr 0 h dX11_never_57 cf_10 (by decide) gw_280 (by first | assumption | exact s4 _ (by omega) | exact s5 _ (by omega)) (by first | assumption | exact s4 _ (by omega) | exact s5 _ (by omega)) ?_
          refine jv_gr 0 h dX11_never_60 cf_0 (by decide) gw_162 (by first | assumption | exact s4 _ (by omega) | exact s5 _ (by omega)) (by first | assumption | exact s4 _ (by omega) | exact s5 _ (by omega)) ?_
          refine jv_gv 0 h dX11_never_63 cf_1 (by decide) gw_47 (by first | assumption | exact s4 _ (by omega) | exact s5 _ (by omega)) (by exact (congrFun ((e1 _ (by omega)).trans (f1 _ (by omega))) 0).trans y0) ?_
          refine jv_nge 97 h dX11_never_66 (by decide) (by repeat (with_reducible first | exact NF_nI _ | assumption | refine NF_add ?_ ?_ | refine NF_mul ?_ ?_)) (by repeat (with_reducible first | exact NF_nI _ | assumption | refine NF_add ?_ ?_ | refine NF_mul ?_ ?_)) ⟨by omega, by omega⟩ (fun c66 => ?_) (fun c66 => ?_)
          · refine jv_iload h dX11_never_97 rfl ?_
            exact jv_iret h hr dX11_never_99 ⟨_, rfl, rfl, by
      rw [hsp]
      unfold neN
      rw [show S 2 = fl by omega], fun a ha => (e1 a (by omega)).trans (f1 a (by omega)), fun a ha => (e3 a (by omega)).trans (f2 a (by omega))⟩
          · refine jv_lload_n h dX11_never_69 rfl ?_
            refine jv_iload h dX11_never_70 rfl ?_
            refine jv_iload_n h dX11_never_72 rfl ?_
            refine jv_SRl [_, _] h dX11_never_73 cw_X11_248 (c_spot (NF_nI _) (NF_nI _) (by omega) (by omega)) (by decide) rfl rfl (Nat.le_of_ble_eq_true rfl) ⟨Nat.zero_le _, Nat.zero_le _⟩ ?_
            refine jv_land h dX11_never_76 ?_
            refine jv_lconst (lN 0) h dX11_never_77 (by decide) ?_
            refine jv_lcmp h dX11_never_78 ?_
            refine jv_if_ne 91 h dX11_never_79 (by decide) (fun c79 => ?_) (fun c79 => ?_)
            · rw [n3.sits (by omega), Bool.not_eq_false] at c79
              have hst9 : stN (fun f => !whB S i (f * 7 + d9) 60) (fl + 1) = stN (fun f => !whB S i (f * 7 + d9) 60) fl := by
                show stN _ fl + (if (!whB S i (fl * 7 + d9) 60) = true then 2 ^ fl else 0) = _
                rw [show whB S i (fl * 7 + d9) 60 = true from c79]
                simp
              refine jv_iinc (nI (fl + 1)) h dX11_never_91 rfl (lt_nl hnl (by decide)) (nI_inc fl) ?_
              refine jv_goto 54 h dX11_never_94 (by decide) ?_
              first
              | exact ih (fl + 1) (by omega) (by omega)
              | (have hI := ih (fl + 1) (by omega) (by omega)
                 rw [hst9] at hI
                 exact hI)
            · rw [n3.sits (by omega)] at c79
              have hst9 : stN (fun f => !whB S i (f * 7 + d9) 60) (fl + 1) = stN (fun f => !whB S i (f * 7 + d9) 60) fl + 2 ^ fl := by
                show stN _ fl + (if (!whB S i (fl * 7 + d9) 60) = true then 2 ^ fl else 0) = _
                rw [show whB S i (fl * 7 + d9) 60 = false from c79]
                simp
              refine jv_iload h dX11_never_82 rfl ?_
              refine jv_iconst (nI 1) h dX11_never_84 (by decide) ?_
              refine jv_iload h dX11_never_85 rfl ?_
              refine jv_ishl h dX11_never_87 ?_
              refine jv_ior h dX11_never_88 ?_
              rw [nI_or (stN_lt _ _) (by omega), ← hst9]
              refine jv_istore h dX11_never_89 (lt_nl hnl (by decide)) ?_
              refine jv_iinc (nI (fl + 1)) h dX11_never_91 rfl (lt_nl hnl (by decide)) (nI_inc fl) ?_
              refine jv_goto 54 h dX11_never_94 (by decide) ?_
              first
              | exact ih (fl + 1) (by omega) (by omega)
              | (have hI := ih (fl + 1) (by omega) (by omega)
                 rw [hst9] at hI
                 exact hI)
      exact hl54 8 0 (by omega) (by omega)
    · refine jv_iconst (-1) h dX11_never_15 (by decide) ?_
      exact jv_iret h hr dX11_never_16 ⟨_, rfl, rfl, by unfold sp_never; rw [if_neg (by simp_all)], FrW.rf _ _ _⟩
set_option maxHeartbeats 4000000 in
set_option maxRecDepth 100000 in
theorem c_meet {g : GT} {T : TT} {Mi : MI} {Ml : ML} {X u nx : Nat} {S : Nat → Nat} {R : Nat → Nat → Nat} (hX : DayS g T X) (hL : BltR Mi (X + 1) S R u nx) (hW : WF S) (h19 : S 1 ≤ 9999) (p q w : Int32) : Ct g yX11_meet cX11_meet 10 (some .int) 6 0 0 [.ref X, .int p, .int q, .int w] T Mi Ml (Gi T (fun rv Mi' Ml' => rv = sp_meet S p q w ∧ FrW Mi Ml Mi' Ml' X)) := by
  refine Ct.of' (plainFor_of_name (by decide +kernel)) (by exact Nat.le_of_ble_eq_true rfl) ?_
  intro x hg hR h hr hnm hnl
  subst hg
  obtain ⟨x0, ⟨x1, x2⟩, ⟨x3, x4⟩, ⟨x5, x6, x7, x8⟩, ⟨x9, x10, x11, x12, x13, x14⟩, ⟨x15, x16⟩, ⟨x17, x18, x19, x20⟩, ⟨x21, x22, x23, x24⟩, ⟨x25, x26, x27, x28, x29, x30⟩, x31, x32, x33, x34, x35, x36⟩ := id hX
  obtain ⟨z1, z2, z3, z4, z5, z6, z7⟩ := id x2
  obtain ⟨e1, e2, e3⟩ := id z5
  obtain ⟨s1, s2, s3, s4, s5⟩ := id z6
  obtain ⟨h1, h2, h3, h4, h5⟩ := id z7
  obtain ⟨l1, l2, l3⟩ := id hL
  obtain ⟨y0, y1, y2, y3⟩ := id l1
  obtain ⟨v1, v2, v3, v4⟩ := id l2
  obtain ⟨r1, r2, r3, r4, r5, r6⟩ := id l3
  obtain ⟨w0, w1, w2, w3, w4, w5, w6, w7⟩ := id hW
  have hK : WkS x.1 T (X + 176) := ⟨x18, x19, x20⟩
  have hK2 : WkS x.1 T (X + 179) := ⟨x22, x23, x24⟩
  refine jv_aload_n h dX11_meet_0 rfl ?_
  refine jv_iload_n h dX11_meet_1 rfl ?_
  refine jv_VRi [_] h dX11_meet_2 cw_X11_99 cf_10 (by first | assumption | exact s4 _ (by omega) | exact s5 _ (by omega)) (c_isPerson (by first | assumption | exact s4 _ (by omega) | exact s5 _ (by omega)) (by first | assumption | exact s4 _ (by omega) | exact s5 _ (by omega)) (by first | assumption | exact s4 _ (by omega) | exact s5 _ (by omega)) _) (by decide) rfl rfl (Nat.le_of_ble_eq_true rfl) ⟨Nat.zero_le _, Nat.zero_le _⟩ ?_
  refine jv_beq 30 h dX11_meet_5 (by decide) (fun c5 => ?_) (fun c5 => ?_)
  · refine jv_iconst (-1) h dX11_meet_30 (by decide) ?_
    exact jv_iret h hr dX11_meet_31 ⟨_, rfl, rfl, by unfold sp_meet; rw [if_neg (by simp_all)], FrW.rf _ _ _⟩
  · refine jv_aload_n h dX11_meet_8 rfl ?_
    refine jv_iload_n h dX11_meet_9 rfl ?_
    refine jv_VRi [_] h dX11_meet_10 cw_X11_99 cf_10 (by first | assumption | exact s4 _ (by omega) | exact s5 _ (by omega)) (c_isPerson (by first | assumption | exact s4 _ (by omega) | exact s5 _ (by omega)) (by first | assumption | exact s4 _ (by omega) | exact s5 _ (by omega)) (by first | assumption | exact s4 _ (by omega) | exact s5 _ (by omega)) _) (by decide) rfl rfl (Nat.le_of_ble_eq_true rfl) ⟨Nat.zero_le _, Nat.zero_le _⟩ ?_
    refine jv_beq 30 h dX11_meet_13 (by decide) (fun c13 => ?_) (fun c13 => ?_)
    · refine jv_iconst (-1) h dX11_meet_30 (by decide) ?_
      exact jv_iret h hr dX11_meet_31 ⟨_, rfl, rfl, by unfold sp_meet; rw [if_neg (by simp_all)], FrW.rf _ _ _⟩
    · refine jv_iload_n h dX11_meet_16 rfl ?_
      refine jv_iload_n h dX11_meet_17 rfl ?_
      refine jv_icmp_eq 30 h dX11_meet_18 (by decide) (fun c18 => ?_) (fun c18 => ?_)
      · refine jv_iconst (-1) h dX11_meet_30 (by decide) ?_
        exact jv_iret h hr dX11_meet_31 ⟨_, rfl, rfl, by unfold sp_meet; rw [if_neg (by simp_all)], FrW.rf _ _ _⟩
      · refine jv_iload_n h dX11_meet_21 rfl ?_
        refine jv_iconst (nI 0) h dX11_meet_22 (by decide) ?_
        refine jv_iconst (nI 2) h dX11_meet_23 (by decide) ?_
        refine jv_SRi [_, _, _] h dX11_meet_24 cw_X11_68 (c_within (m := 0) (n := 3) _ (by decide) (by decide)) (by decide) rfl rfl (Nat.le_of_ble_eq_true rfl) ⟨Nat.zero_le _, Nat.zero_le _⟩ ?_
        refine jv_bne 32 h dX11_meet_27 (by decide) (fun c27 => ?_) (fun c27 => ?_)
        · obtain ⟨i, rfl, -, hi⟩ := isB_t c5
          obtain ⟨i2, rfl, -, hi2⟩ := isB_t c13
          obtain ⟨w9, rfl, -, hw9⟩ := isB_t c27
          have hsp : sp_meet S (nI i) (nI i2) (nI w9) = meR S i i2 w9 0 61 := by
            unfold sp_meet
            rw [if_pos ⟨c5, c13, c18, c27⟩, pn_nI (by omega), pn_nI (by omega), pn_nI (by omega)]
          have w7i := w7 i hi
          have w7j := w7 i2 hi2
          refine jv_aload_n h dX11_meet_32 rfl ?_
          refine jv_gr 6 h dX11_meet_33 cf_10 (by decide) gw_286 (by first | assumption | exact s4 _ (by omega) | exact s5 _ (by omega)) (by first | assumption | exact s4 _ (by omega) | exact s5 _ (by omega)) ?_
          refine jv_aload_n h dX11_meet_36 rfl ?_
          refine jv_gr 0 h dX11_meet_37 cf_10 (by decide) gw_280 (by first | assumption | exact s4 _ (by omega) | exact s5 _ (by omega)) (by first | assumption | exact s4 _ (by omega) | exact s5 _ (by omega)) ?_
          refine jv_aload_n h dX11_meet_40 rfl ?_
          refine jv_gr 0 h dX11_meet_41 cf_10 (by decide) gw_280 (by first | assumption | exact s4 _ (by omega) | exact s5 _ (by omega)) (by first | assumption | exact s4 _ (by omega) | exact s5 _ (by omega)) ?_
          refine jv_gr 1 h dX11_meet_44 cf_0 (by decide) gw_165 (by first | assumption | exact s4 _ (by omega) | exact s5 _ (by omega)) (by first | assumption | exact s4 _ (by omega) | exact s5 _ (by omega)) ?_
          refine jv_gr 0 h dX11_meet_47 cf_5 (by decide) gw_119 (by first | assumption | exact s4 _ (by omega) | exact s5 _ (by omega)) (by first | assumption | exact s4 _ (by omega) | exact s5 _ (by omega)) ?_
          refine jv_iload_n h dX11_meet_50 rfl ?_
          refine jv_aald h dX11_meet_51 (by first | assumption | exact s4 _ (by omega) | exact s5 _ (by omega)) (by decide) (by repeat (with_reducible first | exact NF_nI _ | assumption | refine NF_add ?_ ?_ | refine NF_mul ?_ ?_)) ⟨by omega, by decide⟩ (by first | assumption | exact s4 _ (by omega) | exact s5 _ (by omega)) ?_
          refine jv_VGv [_, _] h dX11_meet_52 cw_X11_245 cf_8 (by first | assumption | exact s4 _ (by omega) | exact s5 _ (by omega)) (c_wkbegin hK x2 hL hW hi (by omega)) (by decide) rfl rfl (Nat.le_of_ble_eq_true rfl) ⟨Nat.zero_le _, Nat.zero_le _⟩ (fun Mi52 Ml52 hp52 => ?_)
          obtain ⟨f1, f2, f3, f4, f5, f6, f7, f8⟩ := hp52
          refine jv_aload_n h dX11_meet_55 rfl ?_
          refine jv_gr 7 h dX11_meet_56 cf_10 (by decide) gw_287 (by first | assumption | exact s4 _ (by omega) | exact s5 _ (by omega)) (by first | assumption | exact s4 _ (by omega) | exact s5 _ (by omega)) ?_
          refine jv_aload_n h dX11_meet_59 rfl ?_
          refine jv_gr 0 h dX11_meet_60 cf_10 (by decide) gw_280 (by first | assumption | exact s4 _ (by omega) | exact s5 _ (by omega)) (by first | assumption | exact s4 _ (by omega) | exact s5 _ (by omega)) ?_
          refine jv_aload_n h dX11_meet_63 rfl ?_
          refine jv_gr 0 h dX11_meet_64 cf_10 (by decide) gw_280 (by first | assumption | exact s4 _ (by omega) | exact s5 _ (by omega)) (by first | assumption | exact s4 _ (by omega) | exact s5 _ (by omega)) ?_
          refine jv_gr 1 h dX11_meet_67 cf_0 (by decide) gw_165 (by first | assumption | exact s4 _ (by omega) | exact s5 _ (by omega)) (by first | assumption | exact s4 _ (by omega) | exact s5 _ (by omega)) ?_
          refine jv_gr 0 h dX11_meet_70 cf_5 (by decide) gw_119 (by first | assumption | exact s4 _ (by omega) | exact s5 _ (by omega)) (by first | assumption | exact s4 _ (by omega) | exact s5 _ (by omega)) ?_
          refine jv_iload_n h dX11_meet_73 rfl ?_
          refine jv_aald h dX11_meet_74 (by first | assumption | exact s4 _ (by omega) | exact s5 _ (by omega)) (by decide) (by repeat (with_reducible first | exact NF_nI _ | assumption | refine NF_add ?_ ?_ | refine NF_mul ?_ ?_)) ⟨by omega, by decide⟩ (by first | assumption | exact s4 _ (by omega) | exact s5 _ (by omega)) ?_
          refine jv_VGv [_, _] h dX11_meet_75 cw_X11_245 cf_8 (by first | assumption | exact s4 _ (by omega) | exact s5 _ (by omega)) (c_wkbegin hK2 x2 (hL.fr w0 (fun a z1 z2 => f1 a (by omega))) hW hi2 (by omega)) (by decide) rfl rfl (Nat.le_of_ble_eq_true rfl) ⟨Nat.zero_le _, Nat.zero_le _⟩ (fun Mi75 Ml75 hp75 => ?_)
          obtain ⟨g1, g2, g3, g4, g5, g6, g7, g8⟩ := hp75
          refine jv_iconst (nI 0) h dX11_meet_78 (by decide) ?_
          refine jv_istore h dX11_meet_79 (lt_nl hnl (by decide)) ?_
          have hl81 : ∀ (n : Nat) (n9 : Nat) (M1 : MI) (L1 : ML) (o5 o6 o7 o8 o9 : Option Value), 62 - n9 < n → n9 ≤ 61 → meR S i i2 w9 n9 (61 - n9) = meR S i i2 w9 0 61 → FrW Mi Ml M1 L1 X → BlkR M1 (X + 176 + 1) S → BlkR M1 (X + 179 + 1) S → M1 (X + 176) 4 = nI (S 1 + n9) → M1 (X + 179) 4 = nI (S 1 + n9) → M1 (X + 176) 1 = nI (S (18 + 6 * i)) → M1 (X + 179) 1 = nI (S (18 + 6 * i2)) → BR (L1 (X + 176) 5) (wsA S (stA S i) (S (18 + 6 * i)) (S 1) n9) → BR (L1 (X + 179) 5) (wsA S (stA S i2) (S (18 + 6 * i2)) (S 1) n9) → V x 0 0 T M1 L1 81 [some (.ref X), some (.int (nI i)), some (.int (nI i2)), some (.int (nI w9)), some (.int (nI n9)), o5, o6, o7, o8, o9] [] := by
            intro n
            induction n with
            | zero => intro n9 M1 L1 o5 o6 o7 o8 o9 hN9 hn9 hz fr b1_ b2_ s1_ s2_ k1_ k2_ a1_ a2_; exact absurd hN9 (by omega)
            | succ n ih =>
              intro n9 M1 L1 o5 o6 o7 o8 o9 hN9 hn9 hz fr b1_ b2_ s1_ s2_ k1_ k2_ a1_ a2_
              refine jv_iload h dX11_meet_81 rfl ?_
              refine jv_bipush (nI 60) h dX11_meet_83 (by decide) ?_
              refine jv_ngt 179 h dX11_meet_85 (by decide) (by repeat (with_reducible first | exact NF_nI _ | assumption | refine NF_add ?_ ?_ | refine NF_mul ?_ ?_)) (by repeat (with_reducible first | exact NF_nI _ | assumption | refine NF_add ?_ ?_ | refine NF_mul ?_ ?_)) ⟨by omega, by omega⟩ (fun c85 => ?_) (fun c85 => ?_)
              · refine jv_bipush (-4) h dX11_meet_179 (by decide) ?_
                exact jv_iret h hr dX11_meet_181 ⟨_, rfl, rfl, by
      rw [hsp, ← hz, show 61 - n9 = 0 by omega]
      rfl, fr.1, fr.2⟩
              · have hz9 := hz
                rw [show 61 - n9 = (61 - (n9 + 1)) + 1 by omega, meR_s] at hz9
                refine jv_aload_n h dX11_meet_88 rfl ?_
                refine jv_gr 6 h dX11_meet_89 cf_10 (by decide) gw_286 (by first | assumption | exact s4 _ (by omega) | exact s5 _ (by omega)) (by first | assumption | exact s4 _ (by omega) | exact s5 _ (by omega)) ?_
                refine jv_bipush (nI 15) h dX11_meet_92 (by decide) ?_
                refine jv_VGl [_] h dX11_meet_94 cw_X11_263 cf_8 (by first | assumption | exact s4 _ (by omega) | exact s5 _ (by omega)) (c_moved hK b1_ hW s1_ (by omega) a1_ (NF_nI _) (by decide)) (by decide) rfl rfl (Nat.le_of_ble_eq_true rfl) ⟨Nat.zero_le _, Nat.zero_le _⟩ (fun v_94 Mi94 Ml94 hp94 => ?_)
                obtain ⟨n1, n2, n3⟩ := hp94
                subst Mi94
                subst Ml94
                refine jv_lstore h dX11_meet_97 (lt_nl hnl (by decide)) ?_
                refine jv_aload_n h dX11_meet_99 rfl ?_
                refine jv_gr 7 h dX11_meet_100 cf_10 (by decide) gw_287 (by first | assumption | exact s4 _ (by omega) | exact s5 _ (by omega)) (by first | assumption | exact s4 _ (by omega) | exact s5 _ (by omega)) ?_
                refine jv_bipush (nI 15) h dX11_meet_103 (by decide) ?_
                refine jv_VGl [_] h dX11_meet_105 cw_X11_263 cf_8 (by first | assumption | exact s4 _ (by omega) | exact s5 _ (by omega)) (c_moved hK2 b2_ hW s2_ (by omega) a2_ (NF_nI _) (by decide)) (by decide) rfl rfl (Nat.le_of_ble_eq_true rfl) ⟨Nat.zero_le _, Nat.zero_le _⟩ (fun v_105 Mi105 Ml105 hp105 => ?_)
                obtain ⟨p1, p2, p3⟩ := hp105
                subst Mi105
                subst Ml105
                refine jv_lstore h dX11_meet_108 (lt_nl hnl (by decide)) ?_
                refine jv_lload h dX11_meet_110 rfl ?_
                refine jv_lload h dX11_meet_112 rfl ?_
                refine jv_land h dX11_meet_114 ?_
                refine jv_SRi [_] h dX11_meet_115 cw_X11_267 (c_leastSpot (n3.and p3)) (by decide) rfl rfl (Nat.le_of_ble_eq_true rfl) ⟨Nat.zero_le _, Nat.zero_le _⟩ ?_
                refine jv_istore h dX11_meet_118 (lt_nl hnl (by decide)) ?_
                refine jv_iload h dX11_meet_120 rfl ?_
                refine jv_bipush (-4) h dX11_meet_122 (by decide) ?_
                refine jv_icmp_eq 155 h dX11_meet_124 (by decide) (fun c124 => ?_) (fun c124 => ?_)
                · rw [if_pos (show meF S i i2 n9 = -4 from c124)] at hz9
                  refine jv_aload_n h dX11_meet_155 rfl ?_
                  refine jv_gr 6 h dX11_meet_156 cf_10 (by decide) gw_286 (by first | assumption | exact s4 _ (by omega) | exact s5 _ (by omega)) (by first | assumption | exact s4 _ (by omega) | exact s5 _ (by omega)) ?_
                  refine jv_lload h dX11_meet_159 rfl ?_
                  refine jv_VGv [_] h dX11_meet_161 cw_X11_271 cf_8 (by first | assumption | exact s4 _ (by omega) | exact s5 _ (by omega)) (c_wgoOn hK b1_ hW s1_ (by omega) k1_ (by omega) n3) (by decide) rfl rfl (Nat.le_of_ble_eq_true rfl) ⟨Nat.zero_le _, Nat.zero_le _⟩ (fun Mi161 Ml161 hp161 => ?_)
                  obtain ⟨rfl, j1, j2, j3⟩ := hp161
                  refine jv_aload_n h dX11_meet_164 rfl ?_
                  refine jv_gr 7 h dX11_meet_165 cf_10 (by decide) gw_287 (by first | assumption | exact s4 _ (by omega) | exact s5 _ (by omega)) (by first | assumption | exact s4 _ (by omega) | exact s5 _ (by omega)) ?_
                  refine jv_lload h dX11_meet_168 rfl ?_
                  refine jv_VGv [_] h dX11_meet_170 cw_X11_271 cf_8 (by first | assumption | exact s4 _ (by omega) | exact s5 _ (by omega)) (c_wgoOn hK2 (b2_.fr (upd2_row _ _ (by omega)) (upd2_row _ _ (by omega))) hW ((congrFun (upd2_row _ _ (by omega)) 4).trans s2_) (by omega) ((congrFun (upd2_row _ _ (by omega)) 1).trans k2_) (by omega) p3) (by decide) rfl rfl (Nat.le_of_ble_eq_true rfl) ⟨Nat.zero_le _, Nat.zero_le _⟩ (fun Mi170 Ml170 hp170 => ?_)
                  obtain ⟨rfl, o1, o2, o3⟩ := hp170
                  refine jv_iinc (nI (n9 + 1)) h dX11_meet_173 rfl (lt_nl hnl (by decide)) (nI_inc n9) ?_
                  refine jv_goto 81 h dX11_meet_176 (by decide) ?_
                  exact ih (n9 + 1) _ _ _ _ _ _ _ (by omega) (by omega) hz9 ⟨fun a ha => by rw [upd2_row _ _ (by omega), upd2_row _ _ (by omega)]; exact fr.1 a ha, fun a ha => (o1 a (by omega)).trans ((j1 a (by omega)).trans (fr.2 a ha))⟩ (b1_.fr (by rw [upd2_row _ _ (by omega), upd2_row _ _ (by omega)]) (by rw [upd2_row _ _ (by omega), upd2_row _ _ (by omega)])) (b2_.fr (by rw [upd2_row _ _ (by omega), upd2_row _ _ (by omega)]) (by rw [upd2_row _ _ (by omega), upd2_row _ _ (by omega)])) (by rw [upd2_row _ _ (by omega), upd2_same]; rfl) (by rw [upd2_same]; rfl) (by rw [upd2_row _ _ (by omega), upd2_ne _ _ (by omega)]; exact k1_) (by rw [upd2_ne _ _ (by omega), upd2_row _ _ (by omega)]; exact k2_) (by rw [o1 _ (by omega)]; exact j3) o3
                · rw [if_neg (show ¬ meF S i i2 n9 = -4 from c124)] at hz9
                  obtain ⟨k9, hk9, hk8⟩ := fs_ex c124
                  rw [hk8]
                  have hk7 : meF S i i2 n9 = nI k9 := hk8
                  rw [hk7] at hz9
                  unfold meA at hz9
                  rw [pn_nI (by omega)] at hz9
                  refine jv_iload_n h dX11_meet_127 rfl ?_
                  refine jv_zne 136 h dX11_meet_128 (by decide) (by repeat (with_reducible first | exact NF_nI _ | assumption | refine NF_add ?_ ?_ | refine NF_mul ?_ ?_)) (by omega) (fun c128 => ?_) (fun c128 => ?_)
                  · refine jv_iload_n h dX11_meet_136 rfl ?_
                    refine jv_iconst (nI 1) h dX11_meet_137 (by decide) ?_
                    refine jv_nne 149 h dX11_meet_138 (by decide) (by repeat (with_reducible first | exact NF_nI _ | assumption | refine NF_add ?_ ?_ | refine NF_mul ?_ ?_)) (by repeat (with_reducible first | exact NF_nI _ | assumption | refine NF_add ?_ ?_ | refine NF_mul ?_ ?_)) ⟨by omega, by omega⟩ (fun c138 => ?_) (fun c138 => ?_)
                    · refine jv_iload h dX11_meet_149 rfl ?_
                      refine jv_bipush (nI 7) h dX11_meet_151 (by decide) ?_
                      refine jv_iremN h dX11_meet_153 (by repeat (with_reducible first | exact NF_nI _ | assumption | refine NF_add ?_ ?_ | refine NF_mul ?_ ?_)) (by repeat (with_reducible first | exact NF_nI _ | assumption | refine NF_add ?_ ?_ | refine NF_mul ?_ ?_)) (by omega) ⟨by omega, by omega⟩ ?_
                      exact jv_iret h hr dX11_meet_154 ⟨_, rfl, rfl, by
      rw [hsp, ← hz, show 61 - n9 = (61 - (n9 + 1)) + 1 by omega, meR_s, if_neg (show ¬ meF S i i2 n9 = -4 from c124), hk7]
      unfold meA
      rw [pn_nI (by omega)]
      first
      | rw [if_pos c128]
      | rw [if_neg c128, if_pos c138]
      | rw [if_neg c128, if_neg c138], fr.1, fr.2⟩
                    · refine jv_iload h dX11_meet_141 rfl ?_
                      refine jv_bipush (nI 7) h dX11_meet_143 (by decide) ?_
                      refine jv_idivN h dX11_meet_145 (by repeat (with_reducible first | exact NF_nI _ | assumption | refine NF_add ?_ ?_ | refine NF_mul ?_ ?_)) (by repeat (with_reducible first | exact NF_nI _ | assumption | refine NF_add ?_ ?_ | refine NF_mul ?_ ?_)) (by omega) ⟨by omega, by omega⟩ ?_
                      refine jv_goto 154 h dX11_meet_146 (by decide) ?_
                      exact jv_iret h hr dX11_meet_154 ⟨_, rfl, rfl, by
      rw [hsp, ← hz, show 61 - n9 = (61 - (n9 + 1)) + 1 by omega, meR_s, if_neg (show ¬ meF S i i2 n9 = -4 from c124), hk7]
      unfold meA
      rw [pn_nI (by omega)]
      first
      | rw [if_pos c128]
      | rw [if_neg c128, if_pos c138]
      | rw [if_neg c128, if_neg c138], fr.1, fr.2⟩
                  · refine jv_iload h dX11_meet_131 rfl ?_
                    refine jv_goto 154 h dX11_meet_133 (by decide) ?_
                    exact jv_iret h hr dX11_meet_154 ⟨_, rfl, rfl, by
      rw [hsp, ← hz, show 61 - n9 = (61 - (n9 + 1)) + 1 by omega, meR_s, if_neg (show ¬ meF S i i2 n9 = -4 from c124), hk7]
      unfold meA
      rw [pn_nI (by omega)]
      first
      | rw [if_pos c128]
      | rw [if_neg c128, if_pos c138]
      | rw [if_neg c128, if_neg c138], fr.1, fr.2⟩
          exact hl81 63 0 _ _ _ _ _ _ _ (by omega) (by omega) rfl ⟨fun a ha => (g1 a (by omega)).trans (f1 a (by omega)), fun a ha => (g2 a (by omega)).trans (f2 a (by omega))⟩ (f3.fr (g1 _ (by omega)) (g1 _ (by omega))) g3 ((congrFun (g1 _ (by omega)) 4).trans f6) g6 ((congrFun (g1 _ (by omega)) 1).trans f4) g4 (by rw [g2 _ (by omega), f8]; exact BR.st hW hi) (by rw [g8]; exact BR.st hW hi2)
        · refine jv_iconst (-1) h dX11_meet_30 (by decide) ?_
          exact jv_iret h hr dX11_meet_31 ⟨_, rfl, rfl, by unfold sp_meet; rw [if_neg (by simp_all)], FrW.rf _ _ _⟩
