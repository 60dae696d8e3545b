theorem BlkR.go {Mi : MI} {B : Nat} {S : Nat → Nat} (h : BlkR Mi B S) (h6 : S 2 ≤ 6) : BlkR Mi B (goS S) := by
  obtain ⟨k0, k1, k2, k3⟩ := h
  refine ⟨by rw [goS_lo (by decide) (by decide)]; exact k0, by rw [goS_lo (by decide) (by decide)]; exact k1, by rw [goS_lo (by decide) (by decide)]; exact k2, fun k hk => ?_⟩
  rw [goS_2] at hk
  rw [goS_lo (by omega) (by omega)]
  exact k3 k hk
theorem BlkR.dw {Mi : MI} {B : Nat} {S : Nat → Nat} (h : BlkR Mi B S) : BlkR Mi B (dwS S) := by
  obtain ⟨k0, k1, k2, k3⟩ := h
  refine ⟨by rw [dwS_o (by decide)]; exact k0, by rw [dwS_o (by decide)]; exact k1, by rw [dwS_o (by decide)]; exact k2, fun k hk => ?_⟩
  rw [dwS_o (by decide)] at hk
  rw [dwS_o (by omega)]
  exact k3 k hk
theorem ScnR.dw {Mi : MI} {A : Nat} {S : Nat → Nat} (h : ScnR Mi A S) : ScnR (upd2 Mi A 3 (nI (drN (S 5)))) A (dwS S) := by
  obtain ⟨h1, h2, h3, h4⟩ := h
  refine ⟨by rw [upd2_ne _ _ (by omega), dwS_o (by decide)]; exact h1, by rw [upd2_ne _ _ (by omega), dwS_o (by decide)]; exact h2, by rw [upd2_same, dwS_5], fun p hp => ?_⟩
  rw [dwS_o (by decide)] at hp
  unfold PerR
  rw [upd2_row _ _ (by omega), dwS_o (by omega), dwS_o (by omega), dwS_o (by omega), dwS_o (by omega), dwS_o (by omega), dwS_o (by omega)]
  exact h4 p hp

set_option maxHeartbeats 4000000 in
set_option maxRecDepth 100000 in
theorem c_byDraw {g : GT} {T : TT} {Mi : MI} {Ml : ML} {B u nx : Nat} {S : Nat → Nat} {R : Nat → Nat → Nat} (hB : BltS g T B) (hL : BltR Mi B S R u nx) (hW : WF S)  : Ct g yX0_stepByDraw cX0_stepByDraw 1 (some .boolean) 6 0 0 [.ref B] T Mi Ml (Gi T (fun v Mi' Ml' => v = bI (!(stB S)) ∧ Ml' = Ml ∧ Fr Mi Mi' B (B + 77) ∧ BltR Mi' B (dS S) (updR R nx S) (min (u + 1) 8) ((nx + 1) % 8))) := by
  refine Ct.of' (plainFor_of_name (by decide +kernel)) (by exact Nat.le_of_ble_eq_true rfl) ?_
  intro x hg hR h hr hnm hnl
  subst hg
  obtain ⟨z1, z2, z3, z4, z5, z6, z7⟩ := id hB
  obtain ⟨e1, e2, e3⟩ := id z5
  obtain ⟨s1, s2, s3, s4, s5⟩ := id z6
  obtain ⟨h1, h2, h3, h4, h5⟩ := id z7
  obtain ⟨l1, l2, l3⟩ := id hL
  obtain ⟨y0, y1, y2, y3⟩ := id l1
  obtain ⟨v1, v2, v3, v4⟩ := id l2
  obtain ⟨r1, r2, r3, r4, r5, r6⟩ := id l3
  obtain ⟨w0, w1, w2, w3, w4, w5, w6, w7⟩ := id hW
  refine jv_aload_n h dX0_stepByDraw_0 rfl ?_
  refine jv_gr 2 h dX0_stepByDraw_1 cf_0 (by decide) gw_167 (by first | assumption | exact s4 _ (by omega) | exact s5 _ (by omega)) (by first | assumption | exact s4 _ (by omega) | exact s5 _ (by omega)) ?_
  refine jv_aload_n h dX0_stepByDraw_4 rfl ?_
  refine jv_gr 1 h dX0_stepByDraw_5 cf_0 (by decide) gw_164 (by first | assumption | exact s4 _ (by omega) | exact s5 _ (by omega)) (by first | assumption | exact s4 _ (by omega) | exact s5 _ (by omega)) ?_
  refine jv_VGv [_] h dX0_stepByDraw_8 cw_X0_86 cf_3 (by first | assumption | exact s4 _ (by omega) | exact s5 _ (by omega)) (c_push z7 l3 z6 l2 hW (by omega)) (by decide) rfl rfl (Nat.le_of_ble_eq_true rfl) ⟨Nat.zero_le _, Nat.zero_le _⟩ (fun Mi8 Ml8 hp8 => ?_)
  obtain ⟨rfl, f1, f2⟩ := hp8
  have l2' : ScnR Mi8 (B + 3) S := l2.fr w0 (fun a h1 h2 => f1 a (by omega))
  have l1' : BlkR Mi8 (B + 1) S := l1.fr (f1 _ (by omega)) (f1 _ (by omega))
  have v3' : Mi8 (B + 3) 3 = nI (S 5) := l2'.2.2.1
  refine jv_aload_n h dX0_stepByDraw_11 rfl ?_
  refine jv_gr 1 h dX0_stepByDraw_12 cf_0 (by decide) gw_164 (by first | assumption | exact s4 _ (by omega) | exact s5 _ (by omega)) (by first | assumption | exact s4 _ (by omega) | exact s5 _ (by omega)) ?_
  refine jv_aload_n h dX0_stepByDraw_15 rfl ?_
  refine jv_gr 1 h dX0_stepByDraw_16 cf_0 (by decide) gw_164 (by first | assumption | exact s4 _ (by omega) | exact s5 _ (by omega)) (by first | assumption | exact s4 _ (by omega) | exact s5 _ (by omega)) ?_
  refine jv_gv 3 h dX0_stepByDraw_19 cf_5 (by decide) gw_130 (by first | assumption | exact s4 _ (by omega) | exact s5 _ (by omega)) (by first | assumption | exact (upd2_ne _ _ (by omega)).trans (by assumption) | exact (upd2_ne _ _ (by omega)).trans ((upd2_ne _ _ (by omega)).trans (by assumption))) ?_
  refine jv_ldc h dX0_stepByDraw_22 gw_665 ?_
  first | refine jv_imulN h dX0_stepByDraw_24 (by repeat (with_reducible first | exact NF_nI _ | first | assumption | exact NF_l1 | exact NF_l2 | refine NF_add ?_ ?_ | refine NF_mul ?_ ?_)) (by repeat (with_reducible first | exact NF_nI _ | first | assumption | exact NF_l1 | exact NF_l2 | refine NF_add ?_ ?_ | refine NF_mul ?_ ?_)) ?_ | refine jv_imul h dX0_stepByDraw_24 ?_
  refine jv_sipush (nI 12345) h dX0_stepByDraw_25 (by decide) ?_
  first | refine jv_iaddN h dX0_stepByDraw_28 (by repeat (with_reducible first | exact NF_nI _ | first | assumption | exact NF_l1 | exact NF_l2 | refine NF_add ?_ ?_ | refine NF_mul ?_ ?_)) (by repeat (with_reducible first | exact NF_nI _ | first | assumption | exact NF_l1 | exact NF_l2 | refine NF_add ?_ ?_ | refine NF_mul ?_ ?_)) ?_ | refine jv_iadd h dX0_stepByDraw_28 ?_
  refine jv_ldc h dX0_stepByDraw_29 gw_666 ?_
  refine jv_iand h dX0_stepByDraw_31 ?_
  rw [nI_dr]
  refine jv_pi 3 h dX0_stepByDraw_32 cf_5 (by decide) gw_130 (by first | assumption | exact s4 _ (by omega) | exact s5 _ (by omega)) rfl rfl rfl ?_
  have m1 := l2'.dw
  have m2 : BlkR (upd2 Mi8 (B + 3) 3 (nI (drN (S 5)))) (B + 1) (dwS S) := (l1'.fr (upd2_row _ _ (by omega)) (upd2_row _ _ (by omega))).dw
  have m3 := dwS_WF hW
  have hdr := drN_lt (S 5)
  have hm4 := m1.2.2.1
  rw [dwS_5] at hm4
  refine jv_aload_n h dX0_stepByDraw_35 rfl ?_
  refine jv_gr 1 h dX0_stepByDraw_36 cf_0 (by decide) gw_164 (by first | assumption | exact s4 _ (by omega) | exact s5 _ (by omega)) (by first | assumption | exact s4 _ (by omega) | exact s5 _ (by omega)) ?_
  refine jv_gv 3 h dX0_stepByDraw_39 cf_5 (by decide) gw_130 (by first | assumption | exact s4 _ (by omega) | exact s5 _ (by omega)) (by exact hm4) ?_
  refine jv_ldc h dX0_stepByDraw_42 gw_667 ?_
  refine jv_idivN h dX0_stepByDraw_44 (by repeat (with_reducible first | exact NF_nI _ | first | assumption | exact NF_l1 | exact NF_l2 | refine NF_add ?_ ?_ | refine NF_mul ?_ ?_)) (by repeat (with_reducible first | exact NF_nI _ | first | assumption | exact NF_l1 | exact NF_l2 | refine NF_add ?_ ?_ | refine NF_mul ?_ ?_)) (by omega) ⟨by omega, by omega⟩ ?_
  refine jv_bipush (nI 12) h dX0_stepByDraw_45 (by decide) ?_
  refine jv_iremN h dX0_stepByDraw_47 (by repeat (with_reducible first | exact NF_nI _ | first | assumption | exact NF_l1 | exact NF_l2 | refine NF_add ?_ ?_ | refine NF_mul ?_ ?_)) (by repeat (with_reducible first | exact NF_nI _ | first | assumption | exact NF_l1 | exact NF_l2 | refine NF_add ?_ ?_ | refine NF_mul ?_ ?_)) (by omega) ⟨by omega, by omega⟩ ?_
  refine jv_aload_n h dX0_stepByDraw_48 rfl ?_
  refine jv_gr 1 h dX0_stepByDraw_49 cf_0 (by decide) gw_164 (by first | assumption | exact s4 _ (by omega) | exact s5 _ (by omega)) (by first | assumption | exact s4 _ (by omega) | exact s5 _ (by omega)) ?_
  refine jv_VRi [] h dX0_stepByDraw_52 cw_X0_98 cf_5 (by first | assumption | exact s4 _ (by omega) | exact s5 _ (by omega)) (c_allRiders z6 m1 m3) (by decide) rfl rfl (Nat.le_of_ble_eq_true rfl) ⟨Nat.zero_le _, Nat.zero_le _⟩ ?_
  rw [rd_dw]
  have hrd := rdN_lt hW
  refine jv_SRi [_] h dX0_stepByDraw_55 cw_X0_102 (c_bitCount (by repeat (with_reducible first | exact NF_nI _ | first | assumption | exact NF_l1 | exact NF_l2 | refine NF_add ?_ ?_ | refine NF_mul ?_ ?_)) (by omega)) (by decide) rfl rfl (Nat.le_of_ble_eq_true rfl) ⟨Nat.zero_le _, Nat.zero_le _⟩ ?_
  have hpc := pcN_le (rdN S)
  refine jv_nge 63 h dX0_stepByDraw_58 (by decide) (by repeat (with_reducible first | exact NF_nI _ | first | assumption | exact NF_l1 | exact NF_l2 | refine NF_add ?_ ?_ | refine NF_mul ?_ ?_)) (by repeat (with_reducible first | exact NF_nI _ | first | assumption | exact NF_l1 | exact NF_l2 | refine NF_add ?_ ?_ | refine NF_mul ?_ ?_)) ⟨by omega, by omega⟩ (fun c58 => ?_) (fun c58 => ?_)
  · refine jv_aload_n h dX0_stepByDraw_63 rfl ?_
    refine jv_gr 1 h dX0_stepByDraw_64 cf_0 (by decide) gw_164 (by first | assumption | exact s4 _ (by omega) | exact s5 _ (by omega)) (by first | assumption | exact s4 _ (by omega) | exact s5 _ (by omega)) ?_
    refine jv_aload_n h dX0_stepByDraw_67 rfl ?_
    refine jv_gr 0 h dX0_stepByDraw_68 cf_0 (by decide) gw_161 (by first | assumption | exact s4 _ (by omega) | exact s5 _ (by omega)) (by first | assumption | exact s4 _ (by omega) | exact s5 _ (by omega)) ?_
    refine jv_VGv [_] h dX0_stepByDraw_71 cw_X0_89 cf_5 (by first | assumption | exact s4 _ (by omega) | exact s5 _ (by omega)) (c_goOn z6 z5 m1 m2 m3 (by omega)) (by decide) rfl rfl (Nat.le_of_ble_eq_true rfl) ⟨Nat.zero_le _, Nat.zero_le _⟩ (fun Mi71 Ml71 hp71 => ?_)
    refine jv_iconst (nI 1) h dX0_stepByDraw_74 (by decide) ?_
    exact jv_zret h hr dX0_stepByDraw_75 rfl ⟨_, rfl, rfl, by
    obtain ⟨rfl, g1, g2⟩ := hp71
    have hs : stB S = false := by unfold stB; simp; omega
    refine ⟨by rw [hs]; rfl, rfl, Fr.tr (l := B) (h := B + 77) (f1.tr (Fr.up (lo := B) (hi := B + 77) (by omega)) (by omega) : Fr Mi (upd2 Mi8 (B + 3) 3 (nI (drN (S 5)))) B (B + 77)) g1 (by omega), ?_⟩
    unfold dS
    rw [if_neg (by rw [hs]; decide)]
    exact ⟨(m2.fr (g1 _ (by omega)) (g1 _ (by omega))).go (by rw [dwS_o (by decide)]; omega), g2, f2.fr (fun a h1 h2 => by rw [g1 a (by omega), upd2_row _ _ (by omega)])⟩⟩
  · refine jv_iconst (nI 0) h dX0_stepByDraw_61 (by decide) ?_
    exact jv_zret h hr dX0_stepByDraw_62 rfl ⟨_, rfl, rfl, by
    have hs : stB S = true := by unfold stB; simp; omega
    refine ⟨by rw [hs]; rfl, rfl, f1.tr (Fr.up (lo := B) (hi := B + 77) (by omega)) (by omega), ?_⟩
    unfold dS
    rw [if_pos hs]
    exact ⟨m2, m1, f2.fr (fun a h1 h2 => upd2_row _ _ (by omega))⟩⟩
set_option maxHeartbeats 4000000 in
set_option maxRecDepth 100000 in
theorem c_comes {g : GT} {T : TT} {Mi : MI} {Ml : ML} {X u nx : Nat} {S : Nat → Nat} {R : Nat → Nat → Nat} (hX : DayS g T X) (hL : BltR Mi (X + 1) S R u nx) (hW : WF S) (dy f s : Int32) : Ct g yX11_comes cX11_comes 5 (some .int) 5 0 0 [.ref X, .int dy, .int f, .int s] T Mi Ml (Ri T Mi Ml (sp_comes S dy f s)) := by
  refine Ct.of' (plainFor_of_name (by decide +kernel)) (by exact Nat.le_of_ble_eq_true rfl) ?_
  intro x hg hR h hr hnm hnl
  subst hg
  obtain ⟨x0, ⟨x1, x2⟩, ⟨x3, x4⟩, ⟨x5, x6, x7, x8⟩, ⟨x9, x10, x11, x12, x13, x14⟩, ⟨x15, x16⟩, ⟨x17, x18, x19, x20⟩, ⟨x21, x22, x23, x24⟩, ⟨x25, x26, x27, x28, x29, x30⟩, x31, x32, x33, x34, x35, x36⟩ := id hX
  obtain ⟨z1, z2, z3, z4, z5, z6, z7⟩ := id x2
  obtain ⟨e1, e2, e3⟩ := id z5
  obtain ⟨s1, s2, s3, s4, s5⟩ := id z6
  obtain ⟨h1, h2, h3, h4, h5⟩ := id z7
  obtain ⟨l1, l2, l3⟩ := id hL
  obtain ⟨y0, y1, y2, y3⟩ := id l1
  obtain ⟨v1, v2, v3, v4⟩ := id l2
  obtain ⟨r1, r2, r3, r4, r5, r6⟩ := id l3
  obtain ⟨w0, w1, w2, w3, w4, w5, w6, w7⟩ := id hW
  refine jv_iload_n h dX11_comes_0 rfl ?_
  refine jv_SRi [_] h dX11_comes_1 cw_X11_76 (c_isDay _) (by decide) rfl rfl (Nat.le_of_ble_eq_true rfl) ⟨Nat.zero_le _, Nat.zero_le _⟩ ?_
  refine jv_beq 22 h dX11_comes_4 (by decide) (fun c4 => ?_) (fun c4 => ?_)
  · refine jv_iconst (-1) h dX11_comes_22 (by decide) ?_
    exact jv_iret h hr dX11_comes_23 ⟨by unfold sp_comes; rw [if_neg (by simp_all)], rfl, rfl, rfl⟩
  · refine jv_aload_n h dX11_comes_7 rfl ?_
    refine jv_iload_n h dX11_comes_8 rfl ?_
    refine jv_VRi [_] h dX11_comes_9 cw_X11_72 cf_10 (by first | assumption | exact s4 _ (by omega) | exact s5 _ (by omega)) (c_isFloor (by first | assumption | exact s4 _ (by omega) | exact s5 _ (by omega)) (by first | assumption | exact s4 _ (by omega) | exact s5 _ (by omega)) (by first | assumption | exact s4 _ (by omega) | exact s5 _ (by omega)) _) (by decide) rfl rfl (Nat.le_of_ble_eq_true rfl) ⟨Nat.zero_le _, Nat.zero_le _⟩ ?_
    refine jv_beq 22 h dX11_comes_12 (by decide) (fun c12 => ?_) (fun c12 => ?_)
    · refine jv_iconst (-1) h dX11_comes_22 (by decide) ?_
      exact jv_iret h hr dX11_comes_23 ⟨by unfold sp_comes; rw [if_neg (by simp_all)], rfl, rfl, rfl⟩
    · refine jv_iload_n h dX11_comes_15 rfl ?_
      refine jv_SRi [_] h dX11_comes_16 cw_X11_211 (c_isSide _) (by decide) rfl rfl (Nat.le_of_ble_eq_true rfl) ⟨Nat.zero_le _, Nat.zero_le _⟩ ?_
      refine jv_bne 24 h dX11_comes_19 (by decide) (fun c19 => ?_) (fun c19 => ?_)
      · obtain ⟨d9, rfl, -, hd9⟩ := isB_t c4
        obtain ⟨f9, rfl, -, hf9⟩ := isB_t c12
        obtain ⟨s9, rfl, -, hs9⟩ := isB_t c19
        have hsp : ∀ r, r = fsN (fun n => decide (S (6 + ciN (S 2) (pbN (S 2) f9 s9) (S 1 + n)) = d9)) 0 12 → r = sp_comes S (nI d9) (nI f9) (nI s9) := by
          intro r hr9
          unfold sp_comes
          rw [if_pos ⟨by assumption, by assumption, by assumption⟩, pn_nI (by omega), pn_nI (by omega), pn_nI (by omega)]
          exact hr9
        refine jv_iconst (nI 0) h dX11_comes_24 (by decide) ?_
        refine jv_istore h dX11_comes_25 (lt_nl hnl (by decide)) ?_
        have hl27 : ∀ (n : Nat) (i : Nat), 12 - i < n → i ≤ 12 → fsN (fun n => decide (S (6 + ciN (S 2) (pbN (S 2) f9 s9) (S 1 + n)) = d9)) i (12 - i) = fsN (fun n => decide (S (6 + ciN (S 2) (pbN (S 2) f9 s9) (S 1 + n)) = d9)) 0 12 → V x 0 0 T Mi Ml 27 [some (.ref X), some (.int (nI d9)), some (.int (nI f9)), some (.int (nI s9)), some (.int (nI i))] [] := by
          intro n
          induction n with
          | zero => intro i hN9 hi hz; exact absurd hN9 (by omega)
          | succ n ih =>
            intro i hN9 hi hz
            refine jv_iload h dX11_comes_27 rfl ?_
            refine jv_bipush (nI 11) h dX11_comes_29 (by decide) ?_
            refine jv_ngt 69 h dX11_comes_31 (by decide) (by repeat (with_reducible first | exact NF_nI _ | assumption | refine NF_add ?_ ?_ | refine NF_mul ?_ ?_)) (by repeat (with_reducible first | exact NF_nI _ | assumption | refine NF_add ?_ ?_ | refine NF_mul ?_ ?_)) ⟨by omega, by omega⟩ (fun c31 => ?_) (fun c31 => ?_)
            · refine jv_bipush (-4) h dX11_comes_69 (by decide) ?_
              exact jv_iret h hr dX11_comes_71 ⟨by
    rw [show 12 - i = 0 by omega] at hz
    rw [← hsp _ hz]; rfl, rfl, rfl, rfl⟩
            · have hci := ciN_lt (h := S 2) (c := pbN (S 2) f9 s9) (s := S 1 + i) (by omega)
              have w6i := w6 _ hci
              refine jv_aload_n h dX11_comes_34 rfl ?_
              refine jv_gr 0 h dX11_comes_35 cf_10 (by decide) gw_280 (by first | assumption | exact s4 _ (by omega) | exact s5 _ (by omega)) (by first | assumption | exact s4 _ (by omega) | exact s5 _ (by omega)) ?_
              refine jv_gr 0 h dX11_comes_38 cf_0 (by decide) gw_162 (by first | assumption | exact s4 _ (by omega) | exact s5 _ (by omega)) (by first | assumption | exact s4 _ (by omega) | exact s5 _ (by omega)) ?_
              refine jv_gr 3 h dX11_comes_41 cf_1 (by decide) gw_55 (by first | assumption | exact s4 _ (by omega) | exact s5 _ (by omega)) (by first | assumption | exact s4 _ (by omega) | exact s5 _ (by omega)) ?_
              refine jv_aload_n h dX11_comes_44 rfl ?_
              refine jv_gr 0 h dX11_comes_45 cf_10 (by decide) gw_280 (by first | assumption | exact s4 _ (by omega) | exact s5 _ (by omega)) (by first | assumption | exact s4 _ (by omega) | exact s5 _ (by omega)) ?_
              refine jv_iload_n h dX11_comes_48 rfl ?_
              refine jv_iload_n h dX11_comes_49 rfl ?_
              refine jv_iload h dX11_comes_50 rfl ?_
              refine jv_VRi [_, _, _] h dX11_comes_52 cw_X11_217 cf_0 (by first | assumption | exact s4 _ (by omega) | exact s5 _ (by omega)) (c_carBy (by first | assumption | exact s4 _ (by omega) | exact s5 _ (by omega)) (by first | assumption | exact s4 _ (by omega) | exact s5 _ (by omega)) (by first | assumption | exact s4 _ (by omega) | exact s5 _ (by omega)) (by repeat (with_reducible first | exact NF_nI _ | assumption | refine NF_add ?_ ?_ | refine NF_mul ?_ ?_)) (by repeat (with_reducible first | exact NF_nI _ | assumption | refine NF_add ?_ ?_ | refine NF_mul ?_ ?_)) (by repeat (with_reducible first | exact NF_nI _ | assumption | refine NF_add ?_ ?_ | refine NF_mul ?_ ?_)) (by omega)) (by decide) rfl rfl (Nat.le_of_ble_eq_true rfl) ⟨Nat.zero_le _, Nat.zero_le _⟩ ?_
              refine jv_iav h dX11_comes_55 (by first | assumption | exact s4 _ (by omega) | exact s5 _ (by omega)) (by repeat (with_reducible first | exact NF_nI _ | assumption | refine NF_add ?_ ?_ | refine NF_mul ?_ ?_)) ⟨by omega, by decide⟩ (by exact y3 _ hci) ?_
              refine jv_iload_n h dX11_comes_56 rfl ?_
              refine jv_nne 63 h dX11_comes_57 (by decide) (by repeat (with_reducible first | exact NF_nI _ | assumption | refine NF_add ?_ ?_ | refine NF_mul ?_ ?_)) (by repeat (with_reducible first | exact NF_nI _ | assumption | refine NF_add ?_ ?_ | refine NF_mul ?_ ?_)) ⟨by omega, by omega⟩ (fun c57 => ?_) (fun c57 => ?_)
              · refine jv_iinc (nI (i + 1)) h dX11_comes_63 rfl (lt_nl hnl (by decide)) (nI_inc i) ?_
                refine jv_goto 27 h dX11_comes_66 (by decide) ?_
                rw [show 12 - i = (12 - (i + 1)) + 1 by omega] at hz
                unfold fsN at hz
                rw [if_neg (by simp; exact c57)] at hz
                exact ih (i + 1) (by omega) (by omega) hz
              · refine jv_iload h dX11_comes_60 rfl ?_
                exact jv_iret h hr dX11_comes_62 ⟨by
    rw [show 12 - i = (12 - (i + 1)) + 1 by omega] at hz
    unfold fsN at hz
    rw [if_pos (by simp; exact c57)] at hz
    rw [hsp _ hz], rfl, rfl, rfl⟩
        exact hl27 13 0 (by omega) (by omega) rfl
      · refine jv_iconst (-1) h dX11_comes_22 (by decide) ?_
        exact jv_iret h hr dX11_comes_23 ⟨by unfold sp_comes; rw [if_neg (by simp_all)], rfl, rfl, rfl⟩
set_option maxHeartbeats 4000000 in
set_option maxRecDepth 100000 in
theorem c_heaviest {g : GT} {T : TT} {Mi : MI} {Ml : ML} {X u nx : Nat} {S : Nat → Nat} {R : Nat → Nat → Nat} (hX : DayS g T X) (hL : BltR Mi (X + 1) S R u nx) (hW : WF S) (w : Int32) : Ct g yX11_heaviest cX11_heaviest 6 (some .int) 3 0 0 [.ref X, .int w] T Mi Ml (Ri T Mi Ml (sp_heaviest S w)) := by
  refine Ct.of' (plainFor_of_name (by decide +kernel)) (by exact Nat.le_of_ble_eq_true rfl) ?_
  intro x hg hR h hr hnm hnl
  subst hg
  obtain ⟨x0, ⟨x1, x2⟩, ⟨x3, x4⟩, ⟨x5, x6, x7, x8⟩, ⟨x9, x10, x11, x12, x13, x14⟩, ⟨x15, x16⟩, ⟨x17, x18, x19, x20⟩, ⟨x21, x22, x23, x24⟩, ⟨x25, x26, x27, x28, x29, x30⟩, x31, x32, x33, x34, x35, x36⟩ := id hX
  obtain ⟨z1, z2, z3, z4, z5, z6, z7⟩ := id x2
  obtain ⟨e1, e2, e3⟩ := id z5
  obtain ⟨s1, s2, s3, s4, s5⟩ := id z6
  obtain ⟨h1, h2, h3, h4, h5⟩ := id z7
  obtain ⟨l1, l2, l3⟩ := id hL
  obtain ⟨y0, y1, y2, y3⟩ := id l1
  obtain ⟨v1, v2, v3, v4⟩ := id l2
  obtain ⟨r1, r2, r3, r4, r5, r6⟩ := id l3
  obtain ⟨w0, w1, w2, w3, w4, w5, w6, w7⟩ := id hW
  refine jv_iload_n h dX11_heaviest_0 rfl ?_
  refine jv_iconst (nI 0) h dX11_heaviest_1 (by decide) ?_
  refine jv_iconst (nI 1) h dX11_heaviest_2 (by decide) ?_
  refine jv_SRi [_, _, _] h dX11_heaviest_3 cw_X11_68 (c_within (m := 0) (n := 2) _ (by decide) (by decide)) (by decide) rfl rfl (Nat.le_of_ble_eq_true rfl) ⟨Nat.zero_le _, Nat.zero_le _⟩ ?_
  refine jv_bne 11 h dX11_heaviest_6 (by decide) (fun c6 => ?_) (fun c6 => ?_)
  · refine jv_iconst (nI 0) h dX11_heaviest_11 (by decide) ?_
    refine jv_istore_n h dX11_heaviest_12 (lt_nl hnl (by decide)) ?_
    refine jv_aload_n h dX11_heaviest_13 rfl ?_
    refine jv_gr 0 h dX11_heaviest_14 cf_10 (by decide) gw_280 (by first | assumption | exact s4 _ (by omega) | exact s5 _ (by omega)) (by first | assumption | exact s4 _ (by omega) | exact s5 _ (by omega)) ?_
    refine jv_gr 1 h dX11_heaviest_17 cf_0 (by decide) gw_165 (by first | assumption | exact s4 _ (by omega) | exact s5 _ (by omega)) (by first | assumption | exact s4 _ (by omega) | exact s5 _ (by omega)) ?_
    refine jv_iconst (nI 0) h dX11_heaviest_20 (by decide) ?_
    refine jv_VRi [_] h dX11_heaviest_21 cw_X11_165 cf_5 (by first | assumption | exact s4 _ (by omega) | exact s5 _ (by omega)) (c_load (by first | assumption | exact s4 _ (by omega) | exact s5 _ (by omega)) (by first | assumption | exact s4 _ (by omega) | exact s5 _ (by omega)) (by first | assumption | exact s4 _ (by omega) | exact s5 _ (by omega)) (by repeat (with_reducible first | exact NF_nI _ | assumption | refine NF_add ?_ ?_ | refine NF_mul ?_ ?_)) (by omega)) (by decide) rfl rfl (Nat.le_of_ble_eq_true rfl) ⟨Nat.zero_le _, Nat.zero_le _⟩ ?_
    refine jv_istore_n h dX11_heaviest_24 (lt_nl hnl (by decide)) ?_
    refine jv_iconst (nI 1) h dX11_heaviest_25 (by decide) ?_
    refine jv_istore h dX11_heaviest_26 (lt_nl hnl (by decide)) ?_
    have hl28 : ∀ (n : Nat) (i : Nat), 2 * S 2 - i < n → i ≤ 2 * S 2 → 0 < i → V x 0 0 T Mi Ml 28 [some (.ref X), some (.int w), some (.int (nI (hvN S i))), some (.int (nI (ldN S (hvN S i) (S 0)))), some (.int (nI i)), none] [] := by
      intro n
      induction n with
      | zero => intro i hN9 hi hi0; exact absurd hN9 (by omega)
      | succ n ih =>
        intro i hN9 hi hi0
        refine jv_iload h dX11_heaviest_28 rfl ?_
        refine jv_aload_n h dX11_heaviest_30 rfl ?_
        refine jv_gr 0 h dX11_heaviest_31 cf_10 (by decide) gw_280 (by first | assumption | exact s4 _ (by omega) | exact s5 _ (by omega)) (by first | assumption | exact s4 _ (by omega) | exact s5 _ (by omega)) ?_
        refine jv_gr 0 h dX11_heaviest_34 cf_0 (by decide) gw_162 (by first | assumption | exact s4 _ (by omega) | exact s5 _ (by omega)) (by first | assumption | exact s4 _ (by omega) | exact s5 _ (by omega)) ?_
        refine jv_VRi [] h dX11_heaviest_37 cw_X11_275 cf_1 (by first | assumption | exact s4 _ (by omega) | exact s5 _ (by omega)) (c_cars (by first | assumption | exact s4 _ (by omega) | exact s5 _ (by omega)) (by first | assumption | exact (upd2_ne _ _ (by omega)).trans (by assumption) | exact (upd2_ne _ _ (by omega)).trans ((upd2_ne _ _ (by omega)).trans (by assumption)))) (by decide) rfl rfl (Nat.le_of_ble_eq_true rfl) ⟨Nat.zero_le _, Nat.zero_le _⟩ ?_
        refine jv_nge 75 h dX11_heaviest_40 (by decide) (by repeat (with_reducible first | exact NF_nI _ | assumption | refine NF_add ?_ ?_ | refine NF_mul ?_ ?_)) (by repeat (with_reducible first | exact NF_nI _ | assumption | refine NF_add ?_ ?_ | refine NF_mul ?_ ?_)) ⟨by omega, by omega⟩ (fun c40 => ?_) (fun c40 => ?_)
        · have hie : i = 2 * S 2 := by omega
          subst hie
          refine jv_iload_n h dX11_heaviest_75 rfl ?_
          refine jv_if_ne 83 h dX11_heaviest_76 (by decide) (fun c76 => ?_) (fun c76 => ?_)
          · refine jv_iload_n h dX11_heaviest_83 rfl ?_
            exact jv_iret h hr dX11_heaviest_84 ⟨by unfold sp_heaviest; rw [if_pos c6]; first | (rw [if_pos c76]; done) | (rw [if_neg c76]; done), rfl, rfl, rfl⟩
          · refine jv_iload_n h dX11_heaviest_79 rfl ?_
            refine jv_goto 84 h dX11_heaviest_80 (by decide) ?_
            exact jv_iret h hr dX11_heaviest_84 ⟨by unfold sp_heaviest; rw [if_pos c6]; first | (rw [if_pos c76]; done) | (rw [if_neg c76]; done), rfl, rfl, rfl⟩
        · have hh1 := hvN_lt S i hi0
          have hl1 := ldN_le hW i (S 0) (Nat.le_refl _)
          have hl2 := ldN_le hW (hvN S i) (S 0) (Nat.le_refl _)
          refine jv_aload_n h dX11_heaviest_43 rfl ?_
          refine jv_gr 0 h dX11_heaviest_44 cf_10 (by decide) gw_280 (by first | assumption | exact s4 _ (by omega) | exact s5 _ (by omega)) (by first | assumption | exact s4 _ (by omega) | exact s5 _ (by omega)) ?_
          refine jv_gr 1 h dX11_heaviest_47 cf_0 (by decide) gw_165 (by first | assumption | exact s4 _ (by omega) | exact s5 _ (by omega)) (by first | assumption | exact s4 _ (by omega) | exact s5 _ (by omega)) ?_
          refine jv_iload h dX11_heaviest_50 rfl ?_
          refine jv_VRi [_] h dX11_heaviest_52 cw_X11_165 cf_5 (by first | assumption | exact s4 _ (by omega) | exact s5 _ (by omega)) (c_load (by first | assumption | exact s4 _ (by omega) | exact s5 _ (by omega)) (by first | assumption | exact s4 _ (by omega) | exact s5 _ (by omega)) (by first | assumption | exact s4 _ (by omega) | exact s5 _ (by omega)) (by repeat (with_reducible first | exact NF_nI _ | assumption | refine NF_add ?_ ?_ | refine NF_mul ?_ ?_)) (by omega)) (by decide) rfl rfl (Nat.le_of_ble_eq_true rfl) ⟨Nat.zero_le _, Nat.zero_le _⟩ ?_
          refine jv_istore h dX11_heaviest_55 (lt_nl hnl (by decide)) ?_
          refine jv_iload h dX11_heaviest_57 rfl ?_
          refine jv_iload_n h dX11_heaviest_59 rfl ?_
          refine jv_nle 69 h dX11_heaviest_60 (by decide) (by repeat (with_reducible first | exact NF_nI _ | assumption | refine NF_add ?_ ?_ | refine NF_mul ?_ ?_)) (by repeat (with_reducible first | exact NF_nI _ | assumption | refine NF_add ?_ ?_ | refine NF_mul ?_ ?_)) ⟨by omega, by omega⟩ (fun c60 => ?_) (fun c60 => ?_)
          · refine jv_iinc (nI (i + 1)) h dX11_heaviest_69 rfl (lt_nl hnl (by decide)) (nI_inc i) ?_
            refine jv_goto 28 h dX11_heaviest_72 (by decide) ?_
            refine jv_forget6 ?_
            have key := ih (i + 1) (by omega) (by omega) (by omega)
            have e : hvN S (i + 1) = if ldN S (hvN S i) (S 0) < ldN S i (S 0) then i else hvN S i := rfl
            first
            | (rw [if_pos (by omega)] at e; rw [e] at key; exact key)
            | (rw [if_neg (by omega)] at e; rw [e] at key; exact key)
          · refine jv_iload h dX11_heaviest_63 rfl ?_
            refine jv_istore_n h dX11_heaviest_65 (lt_nl hnl (by decide)) ?_
            refine jv_iload h dX11_heaviest_66 rfl ?_
            refine jv_istore_n h dX11_heaviest_68 (lt_nl hnl (by decide)) ?_
            refine jv_iinc (nI (i + 1)) h dX11_heaviest_69 rfl (lt_nl hnl (by decide)) (nI_inc i) ?_
            refine jv_goto 28 h dX11_heaviest_72 (by decide) ?_
            refine jv_forget6 ?_
            have key := ih (i + 1) (by omega) (by omega) (by omega)
            have e : hvN S (i + 1) = if ldN S (hvN S i) (S 0) < ldN S i (S 0) then i else hvN S i := rfl
            first
            | (rw [if_pos (by omega)] at e; rw [e] at key; exact key)
            | (rw [if_neg (by omega)] at e; rw [e] at key; exact key)
    refine jv_forget6 ?_
    have key := hl28 (2 * S 2 + 1) 1 (by omega) (by omega) (by omega)
    have e : hvN S 1 = 0 := by unfold hvN hvN; split <;> rfl
    rw [e] at key
    exact key
  · refine jv_iconst (-1) h dX11_heaviest_9 (by decide) ?_
    exact jv_iret h hr dX11_heaviest_10 ⟨by unfold sp_heaviest; rw [if_neg (by simp [c6])], rfl, rfl, rfl⟩
