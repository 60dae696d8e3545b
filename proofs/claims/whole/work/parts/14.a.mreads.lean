theorem sw_1_4 (w : Int32) : (w.toInt < 1 ∨ 4 < w.toInt) ∨ (w = nI 1 ∨ w = nI 2 ∨ w = nI 3 ∨ w = nI 4) := by
  rcases sw_cases w (n := 5) (by decide) with h | ⟨j, h, rfl⟩
  · left; omega
  · rcases (show j = 0 ∨ j = 1 ∨ j = 2 ∨ j = 3 ∨ j = 4 by omega) with rfl | rfl | rfl | rfl | rfl
    · left; left; decide
    · simp
    · simp
    · simp
    · simp
theorem sw_0_4 (w : Int32) : (w.toInt < 0 ∨ 4 < w.toInt) ∨ (w = nI 0 ∨ w = nI 1 ∨ w = nI 2 ∨ w = nI 3 ∨ w = nI 4) := by
  rcases sw_cases w (n := 5) (by decide) with h | ⟨j, h, rfl⟩
  · left; omega
  · right; rcases (show j = 0 ∨ j = 1 ∨ j = 2 ∨ j = 3 ∨ j = 4 by omega) with rfl | rfl | rfl | rfl | rfl <;> simp

set_option maxHeartbeats 4000000 in
set_option maxRecDepth 100000 in
theorem cm_of {g : GT} {T : TT} {Mi : MI} {Ml : ML} {Y : Nat} {S : Nat → Nat} (hM : ModS g T Y) (hN : NowR Mi (Y + 1) S) (hW : WF S) (p w : Int32) : Ct g yX12_of cX12_of 4 (some .int) 3 0 0 [.ref Y, .int p, .int w] T Mi Ml (Ri T Mi Ml (sp_of S p w)) := by
  refine Ct.of' (plainFor_of_name (by decide +kernel)) (by exact Nat.le_of_ble_eq_true rfl) ?_
  intro x hg hR h hr hnm hnl
  subst hg
  obtain ⟨hY, ⟨r0, a0⟩, ⟨r1, a1⟩, ⟨r5, a5⟩, ⟨r6, a6⟩, ⟨r7, a7⟩, ⟨r9, a9⟩, ⟨r12, a12⟩, ⟨r13, a13⟩, ⟨r14, a14⟩, ⟨r15, a15⟩, r16, a16⟩ := id hM
  obtain ⟨w0, w1, w2, w3, w4, w5, w6, w7⟩ := id hW
  refine jv_aload_n h dX12_of_0 rfl ?_
  refine jv_iload_n h dX12_of_1 rfl ?_
  refine jv_VRi [_] h dX12_of_2 cw_X12_81 cf_11 (by assumption) (cm_isPerson (by assumption) (by assumption) (by assumption) _) (by decide) rfl rfl (Nat.le_of_ble_eq_true rfl) ⟨Nat.zero_le _, Nat.zero_le _⟩ ?_
  refine jv_beq 20 h dX12_of_5 (by decide) (fun c5 => ?_) (fun c5 => ?_)
  · refine jv_iconst (-1) h dX12_of_20 (by decide) ?_
    exact jv_iret h hr dX12_of_21 ⟨by unfold sp_of; first | (rw [if_pos c5, wi_out c17]; rfl) | (rw [if_neg (by simp [c5])]; done), rfl, rfl, rfl⟩
  · refine jv_iload_n h dX12_of_8 rfl ?_
    refine jv_i2l h dX12_of_9 ?_
    refine jv_lconst (lN 0) h dX12_of_10 (by decide) ?_
    refine jv_ldc2 h dX12_of_11 gw_981 ?_
    refine jv_SRi [_, _, _] h dX12_of_14 cw_X12_44 (c_mwithin (m := 0) (n := 6) _ (by decide) (by decide)) (by decide) rfl rfl (Nat.le_of_ble_eq_true rfl) ⟨Nat.zero_le _, Nat.zero_le _⟩ ?_
    refine jv_bne 22 h dX12_of_17 (by decide) (fun c17 => ?_) (fun c17 => ?_)
    · obtain ⟨i, rfl, -, hi⟩ := isB_t c5
      have hi := hi
      have w7i := w7 i hi
      have hpl := plN_lt (h := S 2) (c := S (21 + 6 * i) - 1) (s := S 1) (by omega)
      refine jv_aload_n h dX12_of_22 rfl ?_
      refine jv_iload_n h dX12_of_23 rfl ?_
      refine jv_iconst (nI 3) h dX12_of_24 (by decide) ?_
      refine jv_VRi [_, _] h dX12_of_25 cw_X12_54 cf_11 (by assumption) (cm_told (by assumption) (by repeat (with_reducible first | exact NF_nI _ | assumption | refine NF_add ?_ ?_ | refine NF_mul ?_ ?_)) (by repeat (with_reducible first | exact NF_nI _ | assumption | refine NF_add ?_ ?_ | refine NF_mul ?_ ?_)) (by omega) (by first | assumption | exact hN.n0 | exact hN.n1 | exact hN.n2 | exact hN.n3 | exact hN.n4 | exact hN.n5 | exact hN.dy (by omega) | exact hN.p3 (by omega) | exact hN.p0 (by omega) | exact hN.p1 (by omega) | exact hN.p2 (by omega) | exact hN.p4 (by omega) | exact hN.p5 (by omega))) (by decide) rfl rfl (Nat.le_of_ble_eq_true rfl) ⟨Nat.zero_le _, Nat.zero_le _⟩ ?_
      refine jv_istore_n h dX12_of_28 (lt_nl hnl (by decide)) ?_
      refine jv_iload_n h dX12_of_29 rfl ?_
      have hsw30 : (w.toInt < 1 ∨ 4 < w.toInt) ∨ (w = nI 1 ∨ w = nI 2 ∨ w = nI 3 ∨ w = nI 4) := sw_1_4 w
      rcases hsw30 with hsw30 | rfl | rfl | rfl | rfl
      · refine jv_tabOut 129 h dX12_of_30 hsw30 (by decide) ?_
        obtain ⟨j, rfl, -, hj⟩ := isB_t c17
        have hj5 : j = 0 ∨ j = 5 := by rw [nI_toInt (by omega)] at hsw30; omega
        have hx9 : Mi (Y + 1) (18 + 6 * i + j) = ofN S i j := by
          rcases hj5 with rfl | rfl
          · exact hN.p0 (by omega)
          · exact hN.p5 (by omega)
        refine jv_aload_n h dX12_of_129 rfl ?_
        refine jv_iload_n h dX12_of_130 rfl ?_
        refine jv_iload_n h dX12_of_131 rfl ?_
        refine jv_VRi [_, _] h dX12_of_132 cw_X12_54 cf_11 (by assumption) (cm_told hM (NF_nI _) (NF_nI _) (by omega) hx9) (by decide) rfl rfl (Nat.le_of_ble_eq_true rfl) ⟨Nat.zero_le _, Nat.zero_le _⟩ ?_
        exact jv_iret h hr dX12_of_135 ⟨by simp only [sp_of, c5, if_true, pn_nI (show i < 2 ^ 31 by omega), wi_nI hj (by decide)], rfl, rfl, rfl⟩
      · refine jv_tabIn (off := 30) 60 h dX12_of_30 (by decide) (by decide) (by decide) (by decide) ?_
        refine jv_aload_n h dX12_of_60 rfl ?_
        refine jv_iload_n h dX12_of_61 rfl ?_
        refine jv_VRi [_] h dX12_of_62 cw_X12_58 cf_11 (by assumption) (cm_weighs (by assumption) (by assumption) (by assumption) (by repeat (with_reducible first | exact NF_nI _ | assumption | refine NF_add ?_ ?_ | refine NF_mul ?_ ?_)) (by omega)) (by decide) rfl rfl (Nat.le_of_ble_eq_true rfl) ⟨Nat.zero_le _, Nat.zero_le _⟩ ?_
        exact jv_iret h hr dX12_of_65 ⟨by simp only [sp_of, c5, if_true, pn_nI (show i < 2 ^ 31 by omega), wi_nI (show 1 < 6 by decide) (by decide), ofN], rfl, rfl, rfl⟩
      · refine jv_tabIn (off := 36) 66 h dX12_of_30 (by decide) (by decide) (by decide) (by decide) ?_
        refine jv_iload_n h dX12_of_66 rfl ?_
        refine jv_if_ge 79 h dX12_of_67 (by decide) (fun c67 => ?_) (fun c67 => ?_)
        · rw [i32_le0, carI_neg (by omega)] at c67
          have hcN : NF (carI (S (21 + 6 * i))) (S (21 + 6 * i) - 1) := by unfold NF carI; rw [if_neg c67]
          refine jv_aload_n h dX12_of_79 rfl ?_
          refine jv_aload_n h dX12_of_80 rfl ?_
          refine jv_iload_n h dX12_of_81 rfl ?_
          refine jv_aload_n h dX12_of_82 rfl ?_
          refine jv_gr 0 h dX12_of_83 cf_11 (by decide) gw_900 (by assumption) (by assumption) ?_
          refine jv_iconst (nI 1) h dX12_of_86 (by decide) ?_
          refine jv_iav h dX12_of_87 (by assumption) (by repeat (with_reducible first | exact NF_nI _ | assumption | refine NF_add ?_ ?_ | refine NF_mul ?_ ?_)) ⟨by omega, by decide⟩ (by first | assumption | exact hN.n0 | exact hN.n1 | exact hN.n2 | exact hN.n3 | exact hN.n4 | exact hN.n5 | exact hN.dy (by omega) | exact hN.p3 (by omega) | exact hN.p0 (by omega) | exact hN.p1 (by omega) | exact hN.p2 (by omega) | exact hN.p4 (by omega) | exact hN.p5 (by omega)) ?_
          refine jv_VRi [_, _] h dX12_of_88 cw_X12_86 cf_11 (by assumption) (cm_placeOf (by assumption) (by assumption) (by assumption) (by repeat (with_reducible first | exact NF_nI _ | assumption | refine NF_add ?_ ?_ | refine NF_mul ?_ ?_)) (by repeat (with_reducible first | exact NF_nI _ | assumption | refine NF_add ?_ ?_ | refine NF_mul ?_ ?_)) (by omega)) (by decide) rfl rfl (Nat.le_of_ble_eq_true rfl) ⟨Nat.zero_le _, Nat.zero_le _⟩ ?_
          refine jv_VRi [_] h dX12_of_91 cw_X12_89 cf_11 (by assumption) (cm_floorOf (by assumption) (by assumption) (by assumption) (by repeat (with_reducible first | exact NF_nI _ | assumption | refine NF_add ?_ ?_ | refine NF_mul ?_ ?_)) (by omega)) (by decide) rfl rfl (Nat.le_of_ble_eq_true rfl) ⟨Nat.zero_le _, Nat.zero_le _⟩ ?_
          exact jv_iret h hr dX12_of_94 ⟨by simp only [sp_of, c5, if_true, pn_nI (show i < 2 ^ 31 by omega), wi_nI (show 2 < 6 by decide) (by decide), ofN]; simp [c67], rfl, rfl, rfl⟩
        · rw [i32_le0, carI_neg (by omega)] at c67
          simp at c67
          refine jv_aload_n h dX12_of_70 rfl ?_
          refine jv_iload_n h dX12_of_71 rfl ?_
          refine jv_iconst (nI 2) h dX12_of_72 (by decide) ?_
          refine jv_VRi [_, _] h dX12_of_73 cw_X12_54 cf_11 (by assumption) (cm_told (by assumption) (by repeat (with_reducible first | exact NF_nI _ | assumption | refine NF_add ?_ ?_ | refine NF_mul ?_ ?_)) (by repeat (with_reducible first | exact NF_nI _ | assumption | refine NF_add ?_ ?_ | refine NF_mul ?_ ?_)) (by omega) (by first | assumption | exact hN.n0 | exact hN.n1 | exact hN.n2 | exact hN.n3 | exact hN.n4 | exact hN.n5 | exact hN.dy (by omega) | exact hN.p3 (by omega) | exact hN.p0 (by omega) | exact hN.p1 (by omega) | exact hN.p2 (by omega) | exact hN.p4 (by omega) | exact hN.p5 (by omega))) (by decide) rfl rfl (Nat.le_of_ble_eq_true rfl) ⟨Nat.zero_le _, Nat.zero_le _⟩ ?_
          refine jv_goto 94 h dX12_of_76 (by decide) ?_
          exact jv_iret h hr dX12_of_94 ⟨by simp only [sp_of, c5, if_true, pn_nI (show i < 2 ^ 31 by omega), wi_nI (show 2 < 6 by decide) (by decide), ofN]; simp [c67], rfl, rfl, rfl⟩
      · refine jv_tabIn (off := 65) 95 h dX12_of_30 (by decide) (by decide) (by decide) (by decide) ?_
        refine jv_iload_n h dX12_of_95 rfl ?_
        refine jv_if_ge 104 h dX12_of_96 (by decide) (fun c96 => ?_) (fun c96 => ?_)
        · rw [i32_le0, carI_neg (by omega)] at c96
          have hcN : NF (carI (S (21 + 6 * i))) (S (21 + 6 * i) - 1) := by unfold NF carI; rw [if_neg c96]
          refine jv_iload_n h dX12_of_104 rfl ?_
          exact jv_iret h hr dX12_of_105 ⟨by simp only [sp_of, c5, if_true, pn_nI (show i < 2 ^ 31 by omega), wi_nI (show 3 < 6 by decide) (by decide), ofN]; first | (simp [c96]; done) | (simp only [if_pos c96]; rw [hcN]), rfl, rfl, rfl⟩
        · rw [i32_le0, carI_neg (by omega)] at c96
          simp at c96
          refine jv_bipush (-4) h dX12_of_99 (by decide) ?_
          refine jv_goto 105 h dX12_of_101 (by decide) ?_
          exact jv_iret h hr dX12_of_105 ⟨by simp only [sp_of, c5, if_true, pn_nI (show i < 2 ^ 31 by omega), wi_nI (show 3 < 6 by decide) (by decide), ofN]; first | (simp [c96]; done) | (simp only [if_pos c96]; rw [hcN]), rfl, rfl, rfl⟩
      · refine jv_tabIn (off := 76) 106 h dX12_of_30 (by decide) (by decide) (by decide) (by decide) ?_
        refine jv_iload_n h dX12_of_106 rfl ?_
        refine jv_if_ge 119 h dX12_of_107 (by decide) (fun c107 => ?_) (fun c107 => ?_)
        · rw [i32_le0, carI_neg (by omega)] at c107
          have hcN : NF (carI (S (21 + 6 * i))) (S (21 + 6 * i) - 1) := by unfold NF carI; rw [if_neg c107]
          refine jv_aload_n h dX12_of_119 rfl ?_
          refine jv_gr 0 h dX12_of_120 cf_11 (by decide) gw_900 (by assumption) (by assumption) ?_
          refine jv_bipush (nI 6) h dX12_of_123 (by decide) ?_
          refine jv_iload_n h dX12_of_125 rfl ?_
          first | refine jv_iaddN h dX12_of_126 (by repeat (with_reducible first | exact NF_nI _ | assumption | refine NF_add ?_ ?_ | refine NF_mul ?_ ?_)) (by repeat (with_reducible first | exact NF_nI _ | assumption | refine NF_add ?_ ?_ | refine NF_mul ?_ ?_)) ?_ | refine jv_iadd h dX12_of_126 ?_
          refine jv_iav h dX12_of_127 (by assumption) (by repeat (with_reducible first | exact NF_nI _ | assumption | refine NF_add ?_ ?_ | refine NF_mul ?_ ?_)) ⟨by omega, by decide⟩ (by first | assumption | exact hN.n0 | exact hN.n1 | exact hN.n2 | exact hN.n3 | exact hN.n4 | exact hN.n5 | exact hN.dy (by omega) | exact hN.p3 (by omega) | exact hN.p0 (by omega) | exact hN.p1 (by omega) | exact hN.p2 (by omega) | exact hN.p4 (by omega) | exact hN.p5 (by omega)) ?_
          exact jv_iret h hr dX12_of_128 ⟨by simp only [sp_of, c5, if_true, pn_nI (show i < 2 ^ 31 by omega), wi_nI (show 4 < 6 by decide) (by decide), ofN]; simp [c107], rfl, rfl, rfl⟩
        · rw [i32_le0, carI_neg (by omega)] at c107
          simp at c107
          refine jv_aload_n h dX12_of_110 rfl ?_
          refine jv_iload_n h dX12_of_111 rfl ?_
          refine jv_iconst (nI 4) h dX12_of_112 (by decide) ?_
          refine jv_VRi [_, _] h dX12_of_113 cw_X12_54 cf_11 (by assumption) (cm_told (by assumption) (by repeat (with_reducible first | exact NF_nI _ | assumption | refine NF_add ?_ ?_ | refine NF_mul ?_ ?_)) (by repeat (with_reducible first | exact NF_nI _ | assumption | refine NF_add ?_ ?_ | refine NF_mul ?_ ?_)) (by omega) (by first | assumption | exact hN.n0 | exact hN.n1 | exact hN.n2 | exact hN.n3 | exact hN.n4 | exact hN.n5 | exact hN.dy (by omega) | exact hN.p3 (by omega) | exact hN.p0 (by omega) | exact hN.p1 (by omega) | exact hN.p2 (by omega) | exact hN.p4 (by omega) | exact hN.p5 (by omega))) (by decide) rfl rfl (Nat.le_of_ble_eq_true rfl) ⟨Nat.zero_le _, Nat.zero_le _⟩ ?_
          refine jv_goto 128 h dX12_of_116 (by decide) ?_
          exact jv_iret h hr dX12_of_128 ⟨by simp only [sp_of, c5, if_true, pn_nI (show i < 2 ^ 31 by omega), wi_nI (show 4 < 6 by decide) (by decide), ofN]; simp [c107], rfl, rfl, rfl⟩
    · refine jv_iconst (-1) h dX12_of_20 (by decide) ?_
      exact jv_iret h hr dX12_of_21 ⟨by unfold sp_of; first | (rw [if_pos c5, wi_out c17]; rfl) | (rw [if_neg (by simp [c5])]; done), rfl, rfl, rfl⟩
set_option maxHeartbeats 4000000 in
set_option maxRecDepth 100000 in
theorem cm_car {g : GT} {T : TT} {Mi : MI} {Ml : ML} {Y : Nat} {S : Nat → Nat} (hM : ModS g T Y) (hN : NowR Mi (Y + 1) S) (hW : WF S) (c w : Int32) : Ct g yX12_car cX12_car 4 (some .int) 4 0 0 [.ref Y, .int c, .int w] T Mi Ml (Ri T Mi Ml (sp_car S c w)) := by
  refine Ct.of' (plainFor_of_name (by decide +kernel)) (by exact Nat.le_of_ble_eq_true rfl) ?_
  intro x hg hR h hr hnm hnl
  subst hg
  obtain ⟨hY, ⟨r0, a0⟩, ⟨r1, a1⟩, ⟨r5, a5⟩, ⟨r6, a6⟩, ⟨r7, a7⟩, ⟨r9, a9⟩, ⟨r12, a12⟩, ⟨r13, a13⟩, ⟨r14, a14⟩, ⟨r15, a15⟩, r16, a16⟩ := id hM
  obtain ⟨w0, w1, w2, w3, w4, w5, w6, w7⟩ := id hW
  refine jv_aload_n h dX12_car_0 rfl ?_
  refine jv_iload_n h dX12_car_1 rfl ?_
  refine jv_VRi [_] h dX12_car_2 cw_X12_92 cf_11 (by assumption) (cm_isCar (by assumption) (by assumption) (by assumption) _) (by decide) rfl rfl (Nat.le_of_ble_eq_true rfl) ⟨Nat.zero_le _, Nat.zero_le _⟩ ?_
  refine jv_beq 20 h dX12_car_5 (by decide) (fun c5 => ?_) (fun c5 => ?_)
  · refine jv_iconst (-1) h dX12_car_20 (by decide) ?_
    exact jv_iret h hr dX12_car_21 ⟨by unfold sp_car; first | (rw [if_pos c5, wi_out c17]; rfl) | (rw [if_neg (by simp [c5])]; done), rfl, rfl, rfl⟩
  · refine jv_iload_n h dX12_car_8 rfl ?_
    refine jv_i2l h dX12_car_9 ?_
    refine jv_lconst (lN 0) h dX12_car_10 (by decide) ?_
    refine jv_ldc2 h dX12_car_11 gw_981 ?_
    refine jv_SRi [_, _, _] h dX12_car_14 cw_X12_44 (c_mwithin (m := 0) (n := 6) _ (by decide) (by decide)) (by decide) rfl rfl (Nat.le_of_ble_eq_true rfl) ⟨Nat.zero_le _, Nat.zero_le _⟩ ?_
    refine jv_bne 22 h dX12_car_17 (by decide) (fun c17 => ?_) (fun c17 => ?_)
    · obtain ⟨i, rfl, -, hi⟩ := isB_t c5
      have hpl := plN_lt (h := S 2) (c := i) (s := S 1) (by omega)
      refine jv_aload_n h dX12_car_22 rfl ?_
      refine jv_iload_n h dX12_car_23 rfl ?_
      refine jv_aload_n h dX12_car_24 rfl ?_
      refine jv_gr 0 h dX12_car_25 cf_11 (by decide) gw_900 (by assumption) (by assumption) ?_
      refine jv_iconst (nI 1) h dX12_car_28 (by decide) ?_
      refine jv_iav h dX12_car_29 (by assumption) (by repeat (with_reducible first | exact NF_nI _ | assumption | refine NF_add ?_ ?_ | refine NF_mul ?_ ?_)) ⟨by omega, by decide⟩ (by first | assumption | exact hN.n0 | exact hN.n1 | exact hN.n2 | exact hN.n3 | exact hN.n4 | exact hN.n5 | exact hN.dy (by omega) | exact hN.p3 (by omega) | exact hN.p0 (by omega) | exact hN.p1 (by omega) | exact hN.p2 (by omega) | exact hN.p4 (by omega) | exact hN.p5 (by omega)) ?_
      refine jv_VRi [_, _] h dX12_car_30 cw_X12_86 cf_11 (by assumption) (cm_placeOf (by assumption) (by assumption) (by assumption) (by repeat (with_reducible first | exact NF_nI _ | assumption | refine NF_add ?_ ?_ | refine NF_mul ?_ ?_)) (by repeat (with_reducible first | exact NF_nI _ | assumption | refine NF_add ?_ ?_ | refine NF_mul ?_ ?_)) (by omega)) (by decide) rfl rfl (Nat.le_of_ble_eq_true rfl) ⟨Nat.zero_le _, Nat.zero_le _⟩ ?_
      refine jv_istore_n h dX12_car_33 (lt_nl hnl (by decide)) ?_
      refine jv_iload_n h dX12_car_34 rfl ?_
      have hsw35 : (w.toInt < 0 ∨ 4 < w.toInt) ∨ (w = nI 0 ∨ w = nI 1 ∨ w = nI 2 ∨ w = nI 3 ∨ w = nI 4) := sw_0_4 w
      rcases hsw35 with hsw35 | rfl | rfl | rfl | rfl | rfl
      · refine jv_tabOut 108 h dX12_car_35 hsw35 (by decide) ?_
        refine jv_aload_n h dX12_car_108 rfl ?_
        refine jv_iload_n h dX12_car_109 rfl ?_
        refine jv_VRi [_] h dX12_car_110 cw_X12_98 cf_11 (by assumption) (cm_whoIn (by assumption) (by assumption) (by assumption) (by repeat (with_reducible first | exact NF_nI _ | assumption | refine NF_add ?_ ?_ | refine NF_mul ?_ ?_)) (by omega)) (by decide) rfl rfl (Nat.le_of_ble_eq_true rfl) ⟨Nat.zero_le _, Nat.zero_le _⟩ ?_
        exact jv_iret h hr dX12_car_113 ⟨by obtain ⟨j, rfl, -, hj⟩ := isB_t c17; (have hj5 : j = 5 := (by rw [nI_toInt (by omega)] at hsw35; omega)); subst hj5; simp only [sp_car, c5, if_true, pn_nI (show i < 2 ^ 31 by omega), wi_nI (show 5 < 6 by decide) (by decide), caN], rfl, rfl, rfl⟩
      · refine jv_tabIn (off := 33) 68 h dX12_car_35 (by decide) (by decide) (by decide) (by decide) ?_
        refine jv_aload_n h dX12_car_68 rfl ?_
        refine jv_gr 0 h dX12_car_69 cf_11 (by decide) gw_900 (by assumption) (by assumption) ?_
        refine jv_bipush (nI 6) h dX12_car_72 (by decide) ?_
        refine jv_iload_n h dX12_car_74 rfl ?_
        first | refine jv_iaddN h dX12_car_75 (by repeat (with_reducible first | exact NF_nI _ | assumption | refine NF_add ?_ ?_ | refine NF_mul ?_ ?_)) (by repeat (with_reducible first | exact NF_nI _ | assumption | refine NF_add ?_ ?_ | refine NF_mul ?_ ?_)) ?_ | refine jv_iadd h dX12_car_75 ?_
        refine jv_iav h dX12_car_76 (by assumption) (by repeat (with_reducible first | exact NF_nI _ | assumption | refine NF_add ?_ ?_ | refine NF_mul ?_ ?_)) ⟨by omega, by decide⟩ (by first | assumption | exact hN.n0 | exact hN.n1 | exact hN.n2 | exact hN.n3 | exact hN.n4 | exact hN.n5 | exact hN.dy (by omega) | exact hN.p3 (by omega) | exact hN.p0 (by omega) | exact hN.p1 (by omega) | exact hN.p2 (by omega) | exact hN.p4 (by omega) | exact hN.p5 (by omega)) ?_
        exact jv_iret h hr dX12_car_77 ⟨by simp only [sp_car, c5, if_true, pn_nI (show i < 2 ^ 31 by omega), wi_nI (show 0 < 6 by decide) (by decide), caN], rfl, rfl, rfl⟩
      · refine jv_tabIn (off := 43) 78 h dX12_car_35 (by decide) (by decide) (by decide) (by decide) ?_
        refine jv_iload_n h dX12_car_78 rfl ?_
        exact jv_iret h hr dX12_car_79 ⟨by simp only [sp_car, c5, if_true, pn_nI (show i < 2 ^ 31 by omega), wi_nI (show 1 < 6 by decide) (by decide), caN], rfl, rfl, rfl⟩
      · refine jv_tabIn (off := 45) 80 h dX12_car_35 (by decide) (by decide) (by decide) (by decide) ?_
        refine jv_aload_n h dX12_car_80 rfl ?_
        refine jv_iload_n h dX12_car_81 rfl ?_
        refine jv_VRi [_] h dX12_car_82 cw_X12_89 cf_11 (by assumption) (cm_floorOf (by assumption) (by assumption) (by assumption) (by repeat (with_reducible first | exact NF_nI _ | assumption | refine NF_add ?_ ?_ | refine NF_mul ?_ ?_)) (by omega)) (by decide) rfl rfl (Nat.le_of_ble_eq_true rfl) ⟨Nat.zero_le _, Nat.zero_le _⟩ ?_
        exact jv_iret h hr dX12_car_85 ⟨by simp only [sp_car, c5, if_true, pn_nI (show i < 2 ^ 31 by omega), wi_nI (show 2 < 6 by decide) (by decide), caN], rfl, rfl, rfl⟩
      · refine jv_tabIn (off := 51) 86 h dX12_car_35 (by decide) (by decide) (by decide) (by decide) ?_
        refine jv_iload_n h dX12_car_86 rfl ?_
        refine jv_aload_n h dX12_car_87 rfl ?_
        refine jv_gr 0 h dX12_car_88 cf_11 (by decide) gw_900 (by assumption) (by assumption) ?_
        refine jv_iconst (nI 2) h dX12_car_91 (by decide) ?_
        refine jv_iav h dX12_car_92 (by assumption) (by repeat (with_reducible first | exact NF_nI _ | assumption | refine NF_add ?_ ?_ | refine NF_mul ?_ ?_)) ⟨by omega, by decide⟩ (by first | assumption | exact hN.n0 | exact hN.n1 | exact hN.n2 | exact hN.n3 | exact hN.n4 | exact hN.n5 | exact hN.dy (by omega) | exact hN.p3 (by omega) | exact hN.p0 (by omega) | exact hN.p1 (by omega) | exact hN.p2 (by omega) | exact hN.p4 (by omega) | exact hN.p5 (by omega)) ?_
        refine jv_nge 100 h dX12_car_93 (by decide) (by repeat (with_reducible first | exact NF_nI _ | assumption | refine NF_add ?_ ?_ | refine NF_mul ?_ ?_)) (by repeat (with_reducible first | exact NF_nI _ | assumption | refine NF_add ?_ ?_ | refine NF_mul ?_ ?_)) ⟨by omega, by omega⟩ (fun c93 => ?_) (fun c93 => ?_)
        · refine jv_iconst (nI 1) h dX12_car_100 (by decide) ?_
          exact jv_iret h hr dX12_car_101 ⟨by simp only [sp_car, c5, if_true, pn_nI (show i < 2 ^ 31 by omega), wi_nI (show 3 < 6 by decide) (by decide), caN]; unfold sdN; first | rw [if_pos (by omega)] | rw [if_neg (by omega)], rfl, rfl, rfl⟩
        · refine jv_iconst (nI 0) h dX12_car_96 (by decide) ?_
          refine jv_goto 101 h dX12_car_97 (by decide) ?_
          exact jv_iret h hr dX12_car_101 ⟨by simp only [sp_car, c5, if_true, pn_nI (show i < 2 ^ 31 by omega), wi_nI (show 3 < 6 by decide) (by decide), caN]; unfold sdN; first | rw [if_pos (by omega)] | rw [if_neg (by omega)], rfl, rfl, rfl⟩
      · refine jv_tabIn (off := 67) 102 h dX12_car_35 (by decide) (by decide) (by decide) (by decide) ?_
        refine jv_aload_n h dX12_car_102 rfl ?_
        refine jv_iload_n h dX12_car_103 rfl ?_
        refine jv_VRi [_] h dX12_car_104 cw_X12_95 cf_11 (by assumption) (cm_loadOf (by assumption) (by assumption) (by assumption) (by repeat (with_reducible first | exact NF_nI _ | assumption | refine NF_add ?_ ?_ | refine NF_mul ?_ ?_)) (by omega)) (by decide) rfl rfl (Nat.le_of_ble_eq_true rfl) ⟨Nat.zero_le _, Nat.zero_le _⟩ ?_
        exact jv_iret h hr dX12_car_107 ⟨by simp only [sp_car, c5, if_true, pn_nI (show i < 2 ^ 31 by omega), wi_nI (show 4 < 6 by decide) (by decide), caN], rfl, rfl, rfl⟩
    · refine jv_iconst (-1) h dX12_car_20 (by decide) ?_
      exact jv_iret h hr dX12_car_21 ⟨by unfold sp_car; first | (rw [if_pos c5, wi_out c17]; rfl) | (rw [if_neg (by simp [c5])]; done), rfl, rfl, rfl⟩
set_option maxHeartbeats 4000000 in
set_option maxRecDepth 100000 in
theorem cm_count {g : GT} {T : TT} {Mi : MI} {Ml : ML} {Y : Nat} {S : Nat → Nat} (hM : ModS g T Y) (hN : NowR Mi (Y + 1) S) (hW : WF S) {u : Nat} (hu9 : Mi Y 8 = nI u) (w : Int32) : Ct g yX12_count cX12_count 6 (some .int) 3 0 0 [.ref Y, .int w] T Mi Ml (Ri T Mi Ml (sp_count S u w)) := by
  refine Ct.of' (plainFor_of_name (by decide +kernel)) (by exact Nat.le_of_ble_eq_true rfl) ?_
  intro x hg hR h hr hnm hnl
  subst hg
  obtain ⟨hY, ⟨r0, a0⟩, ⟨r1, a1⟩, ⟨r5, a5⟩, ⟨r6, a6⟩, ⟨r7, a7⟩, ⟨r9, a9⟩, ⟨r12, a12⟩, ⟨r13, a13⟩, ⟨r14, a14⟩, ⟨r15, a15⟩, r16, a16⟩ := id hM
  obtain ⟨w0, w1, w2, w3, w4, w5, w6, w7⟩ := id hW
  refine jv_iconst (nI 0) h dX12_count_0 (by decide) ?_
  refine jv_istore_n h dX12_count_1 (lt_nl hnl (by decide)) ?_
  refine jv_bipush (-4) h dX12_count_2 (by decide) ?_
  refine jv_istore_n h dX12_count_4 (lt_nl hnl (by decide)) ?_
  refine jv_iconst (nI 0) h dX12_count_5 (by decide) ?_
  refine jv_istore h dX12_count_6 (lt_nl hnl (by decide)) ?_
  have hl8 : ∀ (n : Nat) (i : Nat) (fw : Int32), S 0 - i < n → i ≤ S 0 → fw = (if i = 0 then -4 else nI (lmN S i)) → V x 0 0 T Mi Ml 8 [some (.ref Y), some (.int w), some (.int (nI (luN S i))), some (.int fw), some (.int (nI i)), none] [] := by
    intro n
    induction n with
    | zero => intro i fw hN9 hi hf; exact absurd hN9 (by omega)
    | succ n ih =>
      intro i fw hN9 hi hf
      refine jv_iload h dX12_count_8 rfl ?_
      refine jv_aload_n h dX12_count_10 rfl ?_
      refine jv_gr 0 h dX12_count_11 cf_11 (by decide) gw_900 (by assumption) (by assumption) ?_
      refine jv_iconst (nI 0) h dX12_count_14 (by decide) ?_
      refine jv_iav h dX12_count_15 (by assumption) (by repeat (with_reducible first | exact NF_nI _ | assumption | refine NF_add ?_ ?_ | refine NF_mul ?_ ?_)) ⟨by omega, by decide⟩ (by first | assumption | exact hN.n0 | exact hN.n1 | exact hN.n2 | exact hN.n3 | exact hN.n4 | exact hN.n5 | exact hN.dy (by omega) | exact hN.p3 (by omega) | exact hN.p0 (by omega) | exact hN.p1 (by omega) | exact hN.p2 (by omega) | exact hN.p4 (by omega) | exact hN.p5 (by omega)) ?_
      refine jv_nge 58 h dX12_count_16 (by decide) (by repeat (with_reducible first | exact NF_nI _ | assumption | refine NF_add ?_ ?_ | refine NF_mul ?_ ?_)) (by repeat (with_reducible first | exact NF_nI _ | assumption | refine NF_add ?_ ?_ | refine NF_mul ?_ ?_)) ⟨by omega, by omega⟩ (fun c16 => ?_) (fun c16 => ?_)
      · have hie : i = S 0 := by omega
        subst hie
        refine jv_iload_n h dX12_count_58 rfl ?_
        have hsw59 : (w.toInt < 0 ∨ 8 < w.toInt) ∨ (w = nI 0 ∨ w = nI 1 ∨ w = nI 2 ∨ w = nI 3 ∨ w = nI 4 ∨ w = nI 5 ∨ w = nI 6 ∨ w = nI 7 ∨ w = nI 8) := sw_0_8 w
        rcases hsw59 with hsw59 | rfl | rfl | rfl | rfl | rfl | rfl | rfl | rfl | rfl
        · refine jv_tabOut 129 h dX12_count_59 hsw59 (by decide) ?_
          refine jv_iconst (-1) h dX12_count_129 (by decide) ?_
          exact jv_iret h hr dX12_count_130 ⟨by simp only [sp_count, wi_out (isB_out (w := w) (n := 9) (by omega)), coN], rfl, rfl, rfl⟩
        · refine jv_tabIn (off := 49) 108 h dX12_count_59 (by decide) (by decide) (by decide) (by decide) ?_
          refine jv_aload_n h dX12_count_108 rfl ?_
          refine jv_gr 0 h dX12_count_109 cf_11 (by decide) gw_900 (by assumption) (by assumption) ?_
          refine jv_iload_n h dX12_count_112 rfl ?_
          refine jv_iav h dX12_count_113 (by assumption) (by repeat (with_reducible first | exact NF_nI _ | assumption | refine NF_add ?_ ?_ | refine NF_mul ?_ ?_)) ⟨by omega, by decide⟩ (by first | assumption | exact hN.n0 | exact hN.n1 | exact hN.n2 | exact hN.n3 | exact hN.n4 | exact hN.n5 | exact hN.dy (by omega) | exact hN.p3 (by omega) | exact hN.p0 (by omega) | exact hN.p1 (by omega) | exact hN.p2 (by omega) | exact hN.p4 (by omega) | exact hN.p5 (by omega)) ?_
          exact jv_iret h hr dX12_count_114 ⟨by first | (simp only [sp_count, wi_nI (show 0 < 9 by decide) (by decide), coN]; done) | (simp only [sp_count, wi_nI (show 1 < 9 by decide) (by decide), coN]; done) | (simp only [sp_count, wi_nI (show 2 < 9 by decide) (by decide), coN]; done) | (simp only [sp_count, wi_nI (show 3 < 9 by decide) (by decide), coN]; done) | (simp only [sp_count, wi_nI (show 4 < 9 by decide) (by decide), coN]; done), rfl, rfl, rfl⟩
        · refine jv_tabIn (off := 49) 108 h dX12_count_59 (by decide) (by decide) (by decide) (by decide) ?_
          refine jv_aload_n h dX12_count_108 rfl ?_
          refine jv_gr 0 h dX12_count_109 cf_11 (by decide) gw_900 (by assumption) (by assumption) ?_
          refine jv_iload_n h dX12_count_112 rfl ?_
          refine jv_iav h dX12_count_113 (by assumption) (by repeat (with_reducible first | exact NF_nI _ | assumption | refine NF_add ?_ ?_ | refine NF_mul ?_ ?_)) ⟨by omega, by decide⟩ (by first | assumption | exact hN.n0 | exact hN.n1 | exact hN.n2 | exact hN.n3 | exact hN.n4 | exact hN.n5 | exact hN.dy (by omega) | exact hN.p3 (by omega) | exact hN.p0 (by omega) | exact hN.p1 (by omega) | exact hN.p2 (by omega) | exact hN.p4 (by omega) | exact hN.p5 (by omega)) ?_
          exact jv_iret h hr dX12_count_114 ⟨by first | (simp only [sp_count, wi_nI (show 0 < 9 by decide) (by decide), coN]; done) | (simp only [sp_count, wi_nI (show 1 < 9 by decide) (by decide), coN]; done) | (simp only [sp_count, wi_nI (show 2 < 9 by decide) (by decide), coN]; done) | (simp only [sp_count, wi_nI (show 3 < 9 by decide) (by decide), coN]; done) | (simp only [sp_count, wi_nI (show 4 < 9 by decide) (by decide), coN]; done), rfl, rfl, rfl⟩
        · refine jv_tabIn (off := 49) 108 h dX12_count_59 (by decide) (by decide) (by decide) (by decide) ?_
          refine jv_aload_n h dX12_count_108 rfl ?_
          refine jv_gr 0 h dX12_count_109 cf_11 (by decide) gw_900 (by assumption) (by assumption) ?_
          refine jv_iload_n h dX12_count_112 rfl ?_
          refine jv_iav h dX12_count_113 (by assumption) (by repeat (with_reducible first | exact NF_nI _ | assumption | refine NF_add ?_ ?_ | refine NF_mul ?_ ?_)) ⟨by omega, by decide⟩ (by first | assumption | exact hN.n0 | exact hN.n1 | exact hN.n2 | exact hN.n3 | exact hN.n4 | exact hN.n5 | exact hN.dy (by omega) | exact hN.p3 (by omega) | exact hN.p0 (by omega) | exact hN.p1 (by omega) | exact hN.p2 (by omega) | exact hN.p4 (by omega) | exact hN.p5 (by omega)) ?_
          exact jv_iret h hr dX12_count_114 ⟨by first | (simp only [sp_count, wi_nI (show 0 < 9 by decide) (by decide), coN]; done) | (simp only [sp_count, wi_nI (show 1 < 9 by decide) (by decide), coN]; done) | (simp only [sp_count, wi_nI (show 2 < 9 by decide) (by decide), coN]; done) | (simp only [sp_count, wi_nI (show 3 < 9 by decide) (by decide), coN]; done) | (simp only [sp_count, wi_nI (show 4 < 9 by decide) (by decide), coN]; done), rfl, rfl, rfl⟩
        · refine jv_tabIn (off := 49) 108 h dX12_count_59 (by decide) (by decide) (by decide) (by decide) ?_
          refine jv_aload_n h dX12_count_108 rfl ?_
          refine jv_gr 0 h dX12_count_109 cf_11 (by decide) gw_900 (by assumption) (by assumption) ?_
          refine jv_iload_n h dX12_count_112 rfl ?_
          refine jv_iav h dX12_count_113 (by assumption) (by repeat (with_reducible first | exact NF_nI _ | assumption | refine NF_add ?_ ?_ | refine NF_mul ?_ ?_)) ⟨by omega, by decide⟩ (by first | assumption | exact hN.n0 | exact hN.n1 | exact hN.n2 | exact hN.n3 | exact hN.n4 | exact hN.n5 | exact hN.dy (by omega) | exact hN.p3 (by omega) | exact hN.p0 (by omega) | exact hN.p1 (by omega) | exact hN.p2 (by omega) | exact hN.p4 (by omega) | exact hN.p5 (by omega)) ?_
          exact jv_iret h hr dX12_count_114 ⟨by first | (simp only [sp_count, wi_nI (show 0 < 9 by decide) (by decide), coN]; done) | (simp only [sp_count, wi_nI (show 1 < 9 by decide) (by decide), coN]; done) | (simp only [sp_count, wi_nI (show 2 < 9 by decide) (by decide), coN]; done) | (simp only [sp_count, wi_nI (show 3 < 9 by decide) (by decide), coN]; done) | (simp only [sp_count, wi_nI (show 4 < 9 by decide) (by decide), coN]; done), rfl, rfl, rfl⟩
        · refine jv_tabIn (off := 49) 108 h dX12_count_59 (by decide) (by decide) (by decide) (by decide) ?_
          refine jv_aload_n h dX12_count_108 rfl ?_
          refine jv_gr 0 h dX12_count_109 cf_11 (by decide) gw_900 (by assumption) (by assumption) ?_
          refine jv_iload_n h dX12_count_112 rfl ?_
          refine jv_iav h dX12_count_113 (by assumption) (by repeat (with_reducible first | exact NF_nI _ | assumption | refine NF_add ?_ ?_ | refine NF_mul ?_ ?_)) ⟨by omega, by decide⟩ (by first | assumption | exact hN.n0 | exact hN.n1 | exact hN.n2 | exact hN.n3 | exact hN.n4 | exact hN.n5 | exact hN.dy (by omega) | exact hN.p3 (by omega) | exact hN.p0 (by omega) | exact hN.p1 (by omega) | exact hN.p2 (by omega) | exact hN.p4 (by omega) | exact hN.p5 (by omega)) ?_
          exact jv_iret h hr dX12_count_114 ⟨by first | (simp only [sp_count, wi_nI (show 0 < 9 by decide) (by decide), coN]; done) | (simp only [sp_count, wi_nI (show 1 < 9 by decide) (by decide), coN]; done) | (simp only [sp_count, wi_nI (show 2 < 9 by decide) (by decide), coN]; done) | (simp only [sp_count, wi_nI (show 3 < 9 by decide) (by decide), coN]; done) | (simp only [sp_count, wi_nI (show 4 < 9 by decide) (by decide), coN]; done), rfl, rfl, rfl⟩
        · refine jv_tabIn (off := 56) 115 h dX12_count_59 (by decide) (by decide) (by decide) (by decide) ?_
          refine jv_aload_n h dX12_count_115 rfl ?_
          refine jv_gv 8 h dX12_count_116 cf_11 (by decide) gw_908 (by assumption) (by first | assumption | exact hN.n0 | exact hN.n1 | exact hN.n2 | exact hN.n3 | exact hN.n4 | exact hN.n5 | exact hN.dy (by omega) | exact hN.p3 (by omega) | exact hN.p0 (by omega) | exact hN.p1 (by omega) | exact hN.p2 (by omega) | exact hN.p4 (by omega) | exact hN.p5 (by omega)) ?_
          exact jv_iret h hr dX12_count_119 ⟨by simp only [sp_count, wi_nI (show 5 < 9 by decide) (by decide), coN], rfl, rfl, rfl⟩
        · refine jv_tabIn (off := 61) 120 h dX12_count_59 (by decide) (by decide) (by decide) (by decide) ?_
          refine jv_aload_n h dX12_count_120 rfl ?_
          refine jv_VRi [] h dX12_count_121 cw_X12_107 cf_11 (by assumption) (cm_riders (by assumption) (by assumption) (by assumption)) (by decide) rfl rfl (Nat.le_of_ble_eq_true rfl) ⟨Nat.zero_le _, Nat.zero_le _⟩ ?_
          exact jv_iret h hr dX12_count_124 ⟨by simp only [sp_count, wi_nI (show 6 < 9 by decide) (by decide), coN, rdN], rfl, rfl, rfl⟩
        · refine jv_tabIn (off := 66) 125 h dX12_count_59 (by decide) (by decide) (by decide) (by decide) ?_
          refine jv_iload_n h dX12_count_125 rfl ?_
          exact jv_iret h hr dX12_count_126 ⟨by simp only [sp_count, wi_nI (show 7 < 9 by decide) (by decide), coN], rfl, rfl, rfl⟩
        · refine jv_tabIn (off := 68) 127 h dX12_count_59 (by decide) (by decide) (by decide) (by decide) ?_
          refine jv_iload_n h dX12_count_127 rfl ?_
          exact jv_iret h hr dX12_count_128 ⟨by simp only [sp_count, wi_nI (show 8 < 9 by decide) (by decide), coN]; rw [hf], rfl, rfl, rfl⟩
      · have w7i := w7 i (by omega)
        have hlu := luN_le hW i (by omega)
        have hlm := lmN_le hW i (by omega)
        refine jv_aload_n h dX12_count_19 rfl ?_
        refine jv_iload h dX12_count_20 rfl ?_
        refine jv_iconst (nI 5) h dX12_count_22 (by decide) ?_
        refine jv_VRi [_, _] h dX12_count_23 cw_X12_54 cf_11 (by assumption) (cm_told (by assumption) (by repeat (with_reducible first | exact NF_nI _ | assumption | refine NF_add ?_ ?_ | refine NF_mul ?_ ?_)) (by repeat (with_reducible first | exact NF_nI _ | assumption | refine NF_add ?_ ?_ | refine NF_mul ?_ ?_)) (by omega) (by first | assumption | exact hN.n0 | exact hN.n1 | exact hN.n2 | exact hN.n3 | exact hN.n4 | exact hN.n5 | exact hN.dy (by omega) | exact hN.p3 (by omega) | exact hN.p0 (by omega) | exact hN.p1 (by omega) | exact hN.p2 (by omega) | exact hN.p4 (by omega) | exact hN.p5 (by omega))) (by decide) rfl rfl (Nat.le_of_ble_eq_true rfl) ⟨Nat.zero_le _, Nat.zero_le _⟩ ?_
        refine jv_istore h dX12_count_26 (lt_nl hnl (by decide)) ?_
        refine jv_iload_n h dX12_count_28 rfl ?_
        refine jv_iload h dX12_count_29 rfl ?_
        first | refine jv_iaddN h dX12_count_31 (by repeat (with_reducible first | exact NF_nI _ | assumption | refine NF_add ?_ ?_ | refine NF_mul ?_ ?_)) (by repeat (with_reducible first | exact NF_nI _ | assumption | refine NF_add ?_ ?_ | refine NF_mul ?_ ?_)) ?_ | refine jv_iadd h dX12_count_31 ?_
        refine jv_istore_n h dX12_count_32 (lt_nl hnl (by decide)) ?_
        refine jv_iload_n h dX12_count_33 rfl ?_
        refine jv_bipush (-4) h dX12_count_34 (by decide) ?_
        refine jv_icmp_eq 45 h dX12_count_36 (by decide) (fun c36 => ?_) (fun c36 => ?_)
        · have hi0 : i = 0 := by
            rcases Nat.eq_zero_or_pos i with q | q
            · exact q
            · rw [hf, if_neg (by omega)] at c36
              have h1 := congrArg Int32.toInt c36
              rw [nI_toInt (by omega)] at h1
              have h2 : (-4 : Int32).toInt = -4 := by decide
              omega
          refine jv_iload h dX12_count_45 rfl ?_
          refine jv_goto 51 h dX12_count_47 (by decide) ?_
          refine jv_istore_n h dX12_count_51 (lt_nl hnl (by decide)) ?_
          refine jv_iinc (nI (i + 1)) h dX12_count_52 rfl (lt_nl hnl (by decide)) (nI_inc i) ?_
          refine jv_goto 8 h dX12_count_55 (by decide) ?_
          refine jv_forget6 ?_
          exact ih (i + 1) _ (by omega) (by omega) (by rw [if_neg (by omega)]; first | (rw [hi0]; simp [lmN, hi0]; done) | (rw [hfw]; simp only [lmN, if_neg hi0]; congr 1; omega) | (simp only [lmN, if_neg hi0]; congr 1; omega))
        · have hi0 : i ≠ 0 := fun q => c36 (by rw [hf, if_pos q])
          have hfw : NF fw (lmN S i) := by unfold NF; rw [hf, if_neg hi0]
          refine jv_iload h dX12_count_39 rfl ?_
          refine jv_iload_n h dX12_count_41 rfl ?_
          refine jv_nge 50 h dX12_count_42 (by decide) (by repeat (with_reducible first | exact NF_nI _ | assumption | refine NF_add ?_ ?_ | refine NF_mul ?_ ?_)) (by repeat (with_reducible first | exact NF_nI _ | assumption | refine NF_add ?_ ?_ | refine NF_mul ?_ ?_)) ⟨by omega, by omega⟩ (fun c42 => ?_) (fun c42 => ?_)
          · refine jv_iload_n h dX12_count_50 rfl ?_
            refine jv_istore_n h dX12_count_51 (lt_nl hnl (by decide)) ?_
            refine jv_iinc (nI (i + 1)) h dX12_count_52 rfl (lt_nl hnl (by decide)) (nI_inc i) ?_
            refine jv_goto 8 h dX12_count_55 (by decide) ?_
            refine jv_forget6 ?_
            exact ih (i + 1) _ (by omega) (by omega) (by rw [if_neg (by omega)]; first | (rw [hi0]; simp [lmN, hi0]; done) | (rw [hfw]; simp only [lmN, if_neg hi0]; congr 1; omega) | (simp only [lmN, if_neg hi0]; congr 1; omega))
          · refine jv_iload h dX12_count_45 rfl ?_
            refine jv_goto 51 h dX12_count_47 (by decide) ?_
            refine jv_istore_n h dX12_count_51 (lt_nl hnl (by decide)) ?_
            refine jv_iinc (nI (i + 1)) h dX12_count_52 rfl (lt_nl hnl (by decide)) (nI_inc i) ?_
            refine jv_goto 8 h dX12_count_55 (by decide) ?_
            refine jv_forget6 ?_
            exact ih (i + 1) _ (by omega) (by omega) (by rw [if_neg (by omega)]; first | (rw [hi0]; simp [lmN, hi0]; done) | (rw [hfw]; simp only [lmN, if_neg hi0]; congr 1; omega) | (simp only [lmN, if_neg hi0]; congr 1; omega))
  refine jv_forget6 ?_
  exact hl8 (S 0 + 1) 0 _ (by omega) (by omega) (by simp)
set_option maxHeartbeats 4000000 in
set_option maxRecDepth 100000 in
theorem cm_at {g : GT} {T : TT} {Mi : MI} {Ml : ML} {Y : Nat} {S : Nat → Nat} (hM : ModS g T Y) (hN : NowR Mi (Y + 1) S) (hW : WF S) (f s n : Int32) : Ct g yX12_at cX12_at 4 (some .int) 3 0 0 [.ref Y, .int f, .int s, .int n] T Mi Ml (Ri T Mi Ml (sp_at S f s n)) := by
  refine Ct.of' (plainFor_of_name (by decide +kernel)) (by exact Nat.le_of_ble_eq_true rfl) ?_
  intro x hg hR h hr hnm hnl
  subst hg
  obtain ⟨hY, ⟨r0, a0⟩, ⟨r1, a1⟩, ⟨r5, a5⟩, ⟨r6, a6⟩, ⟨r7, a7⟩, ⟨r9, a9⟩, ⟨r12, a12⟩, ⟨r13, a13⟩, ⟨r14, a14⟩, ⟨r15, a15⟩, r16, a16⟩ := id hM
  obtain ⟨w0, w1, w2, w3, w4, w5, w6, w7⟩ := id hW
  refine jv_aload_n h dX12_at_0 rfl ?_
  refine jv_iload_n h dX12_at_1 rfl ?_
  refine jv_VRi [_] h dX12_at_2 cw_X12_70 cf_11 (by assumption) (cm_isFloor (by assumption) (by assumption) (by assumption) _) (by decide) rfl rfl (Nat.le_of_ble_eq_true rfl) ⟨Nat.zero_le _, Nat.zero_le _⟩ ?_
  refine jv_beq 51 h dX12_at_5 (by decide) (fun c5 => ?_) (fun c5 => ?_)
  · refine jv_iconst (-1) h dX12_at_51 (by decide) ?_
    exact jv_iret h hr dX12_at_52 ⟨by first | (unfold sp_at; rw [if_neg (by simp_all)]; done) | (unfold sp_at; rw [if_pos ⟨by assumption, by assumption, by assumption⟩, pn_nI (by omega), pn_nI (by omega), pn_nI (by omega)]), rfl, rfl, rfl⟩
  · refine jv_iload_n h dX12_at_8 rfl ?_
    refine jv_i2l h dX12_at_9 ?_
    refine jv_lconst (lN 0) h dX12_at_10 (by decide) ?_
    refine jv_lconst (lN 1) h dX12_at_11 (by decide) ?_
    refine jv_SRi [_, _, _] h dX12_at_12 cw_X12_44 (c_mwithin (m := 0) (n := 2) _ (by decide) (by decide)) (by decide) rfl rfl (Nat.le_of_ble_eq_true rfl) ⟨Nat.zero_le _, Nat.zero_le _⟩ ?_
    refine jv_beq 51 h dX12_at_15 (by decide) (fun c15 => ?_) (fun c15 => ?_)
    · refine jv_iconst (-1) h dX12_at_51 (by decide) ?_
      exact jv_iret h hr dX12_at_52 ⟨by first | (unfold sp_at; rw [if_neg (by simp_all)]; done) | (unfold sp_at; rw [if_pos ⟨by assumption, by assumption, by assumption⟩, pn_nI (by omega), pn_nI (by omega), pn_nI (by omega)]), rfl, rfl, rfl⟩
    · refine jv_iload_n h dX12_at_18 rfl ?_
      refine jv_i2l h dX12_at_19 ?_
      refine jv_lconst (lN 0) h dX12_at_20 (by decide) ?_
      refine jv_ldc2 h dX12_at_21 gw_1126 ?_
      refine jv_SRi [_, _, _] h dX12_at_24 cw_X12_44 (c_mwithin (m := 0) (n := 1000) _ (by decide) (by decide)) (by decide) rfl rfl (Nat.le_of_ble_eq_true rfl) ⟨Nat.zero_le _, Nat.zero_le _⟩ ?_
      refine jv_beq 51 h dX12_at_27 (by decide) (fun c27 => ?_) (fun c27 => ?_)
      · refine jv_iconst (-1) h dX12_at_51 (by decide) ?_
        exact jv_iret h hr dX12_at_52 ⟨by first | (unfold sp_at; rw [if_neg (by simp_all)]; done) | (unfold sp_at; rw [if_pos ⟨by assumption, by assumption, by assumption⟩, pn_nI (by omega), pn_nI (by omega), pn_nI (by omega)]), rfl, rfl, rfl⟩
      · obtain ⟨f9, rfl, -, hf9⟩ := isB_t c5
        obtain ⟨s9, rfl, -, hs9⟩ := isB_t c15
        obtain ⟨n9, rfl, -, hn9⟩ := isB_t c27
        have hpb := pbN_lt (h := S 2) (f := f9) (s := s9) (by omega)
        refine jv_aload_n h dX12_at_30 rfl ?_
        refine jv_aload_n h dX12_at_31 rfl ?_
        refine jv_iload_n h dX12_at_32 rfl ?_
        refine jv_iload_n h dX12_at_33 rfl ?_
        refine jv_VRi [_, _] h dX12_at_34 cw_X12_142 cf_11 (by assumption) (cm_placeAt (by assumption) (by assumption) (by assumption) (by repeat (with_reducible first | exact NF_nI _ | assumption | refine NF_add ?_ ?_ | refine NF_mul ?_ ?_)) (by repeat (with_reducible first | exact NF_nI _ | assumption | refine NF_add ?_ ?_ | refine NF_mul ?_ ?_)) (by omega)) (by decide) rfl rfl (Nat.le_of_ble_eq_true rfl) ⟨Nat.zero_le _, Nat.zero_le _⟩ ?_
        refine jv_aload_n h dX12_at_37 rfl ?_
        refine jv_gr 0 h dX12_at_38 cf_11 (by decide) gw_900 (by assumption) (by assumption) ?_
        refine jv_iconst (nI 1) h dX12_at_41 (by decide) ?_
        refine jv_iav h dX12_at_42 (by assumption) (by repeat (with_reducible first | exact NF_nI _ | assumption | refine NF_add ?_ ?_ | refine NF_mul ?_ ?_)) ⟨by omega, by decide⟩ (by first | assumption | exact hN.n0 | exact hN.n1 | exact hN.n2 | exact hN.n3 | exact hN.n4 | exact hN.n5 | exact hN.dy (by omega) | exact hN.p3 (by omega) | exact hN.p0 (by omega) | exact hN.p1 (by omega) | exact hN.p2 (by omega) | exact hN.p4 (by omega) | exact hN.p5 (by omega)) ?_
        refine jv_iload_n h dX12_at_43 rfl ?_
        first | refine jv_iaddN h dX12_at_44 (by repeat (with_reducible first | exact NF_nI _ | assumption | refine NF_add ?_ ?_ | refine NF_mul ?_ ?_)) (by repeat (with_reducible first | exact NF_nI _ | assumption | refine NF_add ?_ ?_ | refine NF_mul ?_ ?_)) ?_ | refine jv_iadd h dX12_at_44 ?_
        refine jv_VRi [_, _] h dX12_at_45 cw_X12_145 cf_11 (by assumption) (cm_carIn (by assumption) (by assumption) (by assumption) (by repeat (with_reducible first | exact NF_nI _ | assumption | refine NF_add ?_ ?_ | refine NF_mul ?_ ?_)) (by repeat (with_reducible first | exact NF_nI _ | assumption | refine NF_add ?_ ?_ | refine NF_mul ?_ ?_)) (by omega)) (by decide) rfl rfl (Nat.le_of_ble_eq_true rfl) ⟨Nat.zero_le _, Nat.zero_le _⟩ ?_
        refine jv_goto 52 h dX12_at_48 (by decide) ?_
        exact jv_iret h hr dX12_at_52 ⟨by first | (unfold sp_at; rw [if_neg (by simp_all)]; done) | (unfold sp_at; rw [if_pos ⟨by assumption, by assumption, by assumption⟩, pn_nI (by omega), pn_nI (by omega), pn_nI (by omega)]), rfl, rfl, rfl⟩
set_option maxHeartbeats 4000000 in
set_option maxRecDepth 100000 in
theorem cm_place {g : GT} {T : TT} {Mi : MI} {Ml : ML} {Y : Nat} {S : Nat → Nat} (hM : ModS g T Y) (hN : NowR Mi (Y + 1) S) (hW : WF S) (c n : Int32) : Ct g yX12_place cX12_place 3 (some .int) 3 0 0 [.ref Y, .int c, .int n] T Mi Ml (Ri T Mi Ml (sp_place S c n)) := by
  refine Ct.of' (plainFor_of_name (by decide +kernel)) (by exact Nat.le_of_ble_eq_true rfl) ?_
  intro x hg hR h hr hnm hnl
  subst hg
  obtain ⟨hY, ⟨r0, a0⟩, ⟨r1, a1⟩, ⟨r5, a5⟩, ⟨r6, a6⟩, ⟨r7, a7⟩, ⟨r9, a9⟩, ⟨r12, a12⟩, ⟨r13, a13⟩, ⟨r14, a14⟩, ⟨r15, a15⟩, r16, a16⟩ := id hM
  obtain ⟨w0, w1, w2, w3, w4, w5, w6, w7⟩ := id hW
  refine jv_aload_n h dX12_place_0 rfl ?_
  refine jv_iload_n h dX12_place_1 rfl ?_
  refine jv_VRi [_] h dX12_place_2 cw_X12_92 cf_11 (by assumption) (cm_isCar (by assumption) (by assumption) (by assumption) _) (by decide) rfl rfl (Nat.le_of_ble_eq_true rfl) ⟨Nat.zero_le _, Nat.zero_le _⟩ ?_
  refine jv_beq 36 h dX12_place_5 (by decide) (fun c5 => ?_) (fun c5 => ?_)
  · refine jv_iconst (-1) h dX12_place_36 (by decide) ?_
    exact jv_iret h hr dX12_place_37 ⟨by first | (unfold sp_place; rw [if_neg (by simp_all)]; done) | (unfold sp_place; rw [if_pos ⟨by assumption, by assumption⟩, pn_nI (by omega), pn_nI (by omega)]), rfl, rfl, rfl⟩
  · refine jv_iload_n h dX12_place_8 rfl ?_
    refine jv_i2l h dX12_place_9 ?_
    refine jv_lconst (lN 0) h dX12_place_10 (by decide) ?_
    refine jv_ldc2 h dX12_place_11 gw_1126 ?_
    refine jv_SRi [_, _, _] h dX12_place_14 cw_X12_44 (c_mwithin (m := 0) (n := 1000) _ (by decide) (by decide)) (by decide) rfl rfl (Nat.le_of_ble_eq_true rfl) ⟨Nat.zero_le _, Nat.zero_le _⟩ ?_
    refine jv_beq 36 h dX12_place_17 (by decide) (fun c17 => ?_) (fun c17 => ?_)
    · refine jv_iconst (-1) h dX12_place_36 (by decide) ?_
      exact jv_iret h hr dX12_place_37 ⟨by first | (unfold sp_place; rw [if_neg (by simp_all)]; done) | (unfold sp_place; rw [if_pos ⟨by assumption, by assumption⟩, pn_nI (by omega), pn_nI (by omega)]), rfl, rfl, rfl⟩
    · obtain ⟨c9, rfl, -, hc9⟩ := isB_t c5
      obtain ⟨n9, rfl, -, hn9⟩ := isB_t c17
      refine jv_aload_n h dX12_place_20 rfl ?_
      refine jv_iload_n h dX12_place_21 rfl ?_
      refine jv_aload_n h dX12_place_22 rfl ?_
      refine jv_gr 0 h dX12_place_23 cf_11 (by decide) gw_900 (by assumption) (by assumption) ?_
      refine jv_iconst (nI 1) h dX12_place_26 (by decide) ?_
      refine jv_iav h dX12_place_27 (by assumption) (by repeat (with_reducible first | exact NF_nI _ | assumption | refine NF_add ?_ ?_ | refine NF_mul ?_ ?_)) ⟨by omega, by decide⟩ (by first | assumption | exact hN.n0 | exact hN.n1 | exact hN.n2 | exact hN.n3 | exact hN.n4 | exact hN.n5 | exact hN.dy (by omega) | exact hN.p3 (by omega) | exact hN.p0 (by omega) | exact hN.p1 (by omega) | exact hN.p2 (by omega) | exact hN.p4 (by omega) | exact hN.p5 (by omega)) ?_
      refine jv_iload_n h dX12_place_28 rfl ?_
      first | refine jv_iaddN h dX12_place_29 (by repeat (with_reducible first | exact NF_nI _ | assumption | refine NF_add ?_ ?_ | refine NF_mul ?_ ?_)) (by repeat (with_reducible first | exact NF_nI _ | assumption | refine NF_add ?_ ?_ | refine NF_mul ?_ ?_)) ?_ | refine jv_iadd h dX12_place_29 ?_
      refine jv_VRi [_, _] h dX12_place_30 cw_X12_86 cf_11 (by assumption) (cm_placeOf (by assumption) (by assumption) (by assumption) (by repeat (with_reducible first | exact NF_nI _ | assumption | refine NF_add ?_ ?_ | refine NF_mul ?_ ?_)) (by repeat (with_reducible first | exact NF_nI _ | assumption | refine NF_add ?_ ?_ | refine NF_mul ?_ ?_)) (by omega)) (by decide) rfl rfl (Nat.le_of_ble_eq_true rfl) ⟨Nat.zero_le _, Nat.zero_le _⟩ ?_
      refine jv_goto 37 h dX12_place_33 (by decide) ?_
      exact jv_iret h hr dX12_place_37 ⟨by first | (unfold sp_place; rw [if_neg (by simp_all)]; done) | (unfold sp_place; rw [if_pos ⟨by assumption, by assumption⟩, pn_nI (by omega), pn_nI (by omega)]), rfl, rfl, rfl⟩
set_option maxHeartbeats 4000000 in
set_option maxRecDepth 100000 in
theorem cm_goes {g : GT} {T : TT} {Mi : MI} {Ml : ML} {Y : Nat} {S : Nat → Nat} (hM : ModS g T Y) (hN : NowR Mi (Y + 1) S) (hW : WF S) (n s : Int32) : Ct g yX12_goes cX12_goes 5 (some .int) 2 0 0 [.ref Y, .int n, .int s] T Mi Ml (Ri T Mi Ml (sp_goes n s)) := by
  refine Ct.of' (plainFor_of_name (by decide +kernel)) (by exact Nat.le_of_ble_eq_true rfl) ?_
  intro x hg hR h hr hnm hnl
  subst hg
  obtain ⟨hY, ⟨r0, a0⟩, ⟨r1, a1⟩, ⟨r5, a5⟩, ⟨r6, a6⟩, ⟨r7, a7⟩, ⟨r9, a9⟩, ⟨r12, a12⟩, ⟨r13, a13⟩, ⟨r14, a14⟩, ⟨r15, a15⟩, r16, a16⟩ := id hM
  obtain ⟨w0, w1, w2, w3, w4, w5, w6, w7⟩ := id hW
  refine jv_iload_n h dX12_goes_0 rfl ?_
  refine jv_i2l h dX12_goes_1 ?_
  refine jv_lconst (lN 0) h dX12_goes_2 (by decide) ?_
  refine jv_ldc2 h dX12_goes_3 gw_1186 ?_
  refine jv_SRi [_, _, _] h dX12_goes_6 cw_X12_44 (c_mwithin (m := 0) (n := 31) _ (by decide) (by decide)) (by decide) rfl rfl (Nat.le_of_ble_eq_true rfl) ⟨Nat.zero_le _, Nat.zero_le _⟩ ?_
  refine jv_beq 24 h dX12_goes_9 (by decide) (fun c9 => ?_) (fun c9 => ?_)
  · refine jv_iconst (-1) h dX12_goes_24 (by decide) ?_
    exact jv_iret h hr dX12_goes_25 ⟨by unfold sp_goes; rw [if_neg (by simp_all)], rfl, rfl, rfl⟩
  · refine jv_iload_n h dX12_goes_12 rfl ?_
    refine jv_i2l h dX12_goes_13 ?_
    refine jv_lconst (lN 0) h dX12_goes_14 (by decide) ?_
    refine jv_ldc2 h dX12_goes_15 gw_1187 ?_
    refine jv_SRi [_, _, _] h dX12_goes_18 cw_X12_44 (c_mwithin (m := 0) (n := 101) _ (by decide) (by decide)) (by decide) rfl rfl (Nat.le_of_ble_eq_true rfl) ⟨Nat.zero_le _, Nat.zero_le _⟩ ?_
    refine jv_bne 26 h dX12_goes_21 (by decide) (fun c21 => ?_) (fun c21 => ?_)
    · obtain ⟨n9, rfl, -, hn9⟩ := isB_t c9
      obtain ⟨s9, rfl, -, hs9⟩ := isB_t c21
      refine jv_ldc h dX12_goes_26 gw_1188 ?_
      refine jv_istore_n h dX12_goes_28 (lt_nl hnl (by decide)) ?_
      refine jv_iconst (nI 0) h dX12_goes_29 (by decide) ?_
      refine jv_istore h dX12_goes_30 (lt_nl hnl (by decide)) ?_
      have hl32 : ∀ (n : Nat) (i z : Nat), n9 - i < n → i ≤ n9 → z = gsN s9 i → V x 0 0 T Mi Ml 32 [some (.ref Y), some (.int (nI n9)), some (.int (nI s9)), some (.int (nI z)), some (.int (nI i))] [] := by
        intro n
        induction n with
        | zero => intro i z hN9 hi hz; exact absurd hN9 (by omega)
        | succ n ih =>
          intro i z hN9 hi hz
          refine jv_iload h dX12_goes_32 rfl ?_
          refine jv_iload_n h dX12_goes_34 rfl ?_
          refine jv_nge 54 h dX12_goes_35 (by decide) (by repeat (with_reducible first | exact NF_nI _ | first | assumption | exact NF_l3 | refine NF_add ?_ ?_ | refine NF_mul ?_ ?_)) (by repeat (with_reducible first | exact NF_nI _ | first | assumption | exact NF_l3 | refine NF_add ?_ ?_ | refine NF_mul ?_ ?_)) ⟨by omega, by omega⟩ (fun c35 => ?_) (fun c35 => ?_)
          · refine jv_iload_n h dX12_goes_54 rfl ?_
            exact jv_iret h hr dX12_goes_55 ⟨by unfold sp_goes; rw [if_pos ⟨by assumption, by assumption⟩, pn_nI (by omega), pn_nI (by omega), hz, show i = n9 by omega], rfl, rfl, rfl⟩
          · have hle := gsN_le s9 i
            have hmu : gsN s9 i * (100 - s9) ≤ 1000000 * 100 := Nat.mul_le_mul hle (by omega)
            subst hz
            refine jv_iload_n h dX12_goes_38 rfl ?_
            refine jv_bipush (nI 100) h dX12_goes_39 (by decide) ?_
            refine jv_iload_n h dX12_goes_41 rfl ?_
            first | refine jv_isubN h dX12_goes_42 (by repeat (with_reducible first | exact NF_nI _ | first | assumption | exact NF_l3 | refine NF_add ?_ ?_ | refine NF_mul ?_ ?_)) (by repeat (with_reducible first | exact NF_nI _ | first | assumption | exact NF_l3 | refine NF_add ?_ ?_ | refine NF_mul ?_ ?_)) (by omega) ?_ | refine jv_isub h dX12_goes_42 ?_
            first | refine jv_imulN h dX12_goes_43 (by repeat (with_reducible first | exact NF_nI _ | first | assumption | exact NF_l3 | refine NF_add ?_ ?_ | refine NF_mul ?_ ?_)) (by repeat (with_reducible first | exact NF_nI _ | first | assumption | exact NF_l3 | refine NF_add ?_ ?_ | refine NF_mul ?_ ?_)) ?_ | refine jv_imul h dX12_goes_43 ?_
            refine jv_bipush (nI 100) h dX12_goes_44 (by decide) ?_
            refine jv_idivN h dX12_goes_46 (by repeat (with_reducible first | exact NF_nI _ | first | assumption | exact NF_l3 | refine NF_add ?_ ?_ | refine NF_mul ?_ ?_)) (by repeat (with_reducible first | exact NF_nI _ | first | assumption | exact NF_l3 | refine NF_add ?_ ?_ | refine NF_mul ?_ ?_)) (by omega) ⟨by omega, by omega⟩ ?_
            refine jv_istore_n h dX12_goes_47 (lt_nl hnl (by decide)) ?_
            refine jv_iinc (nI (i + 1)) h dX12_goes_48 rfl (lt_nl hnl (by decide)) (nI_inc i) ?_
            refine jv_goto 32 h dX12_goes_51 (by decide) ?_
            exact ih (i + 1) _ (by omega) (by omega) rfl
      exact hl32 (n9 + 1) 0 1000000 (by omega) (by omega) rfl
    · refine jv_iconst (-1) h dX12_goes_24 (by decide) ?_
      exact jv_iret h hr dX12_goes_25 ⟨by unfold sp_goes; rw [if_neg (by simp_all)], rfl, rfl, rfl⟩
set_option maxHeartbeats 4000000 in
set_option maxRecDepth 100000 in
theorem cm_comes {g : GT} {T : TT} {Mi : MI} {Ml : ML} {Y : Nat} {S : Nat → Nat} (hM : ModS g T Y) (hN : NowR Mi (Y + 1) S) (hW : WF S) (dy f s : Int32) : Ct g yX12_comes cX12_comes 5 (some .int) 3 0 0 [.ref Y, .int dy, .int f, .int s] T Mi Ml (Ri T Mi Ml (sp_comes S dy f s)) := by
  refine Ct.of' (plainFor_of_name (by decide +kernel)) (by exact Nat.le_of_ble_eq_true rfl) ?_
  intro x hg hR h hr hnm hnl
  subst hg
  obtain ⟨hY, ⟨r0, a0⟩, ⟨r1, a1⟩, ⟨r5, a5⟩, ⟨r6, a6⟩, ⟨r7, a7⟩, ⟨r9, a9⟩, ⟨r12, a12⟩, ⟨r13, a13⟩, ⟨r14, a14⟩, ⟨r15, a15⟩, r16, a16⟩ := id hM
  obtain ⟨w0, w1, w2, w3, w4, w5, w6, w7⟩ := id hW
  refine jv_iload_n h dX12_comes_0 rfl ?_
  refine jv_SRi [_] h dX12_comes_1 cw_X12_74 (cm_isDay _) (by decide) rfl rfl (Nat.le_of_ble_eq_true rfl) ⟨Nat.zero_le _, Nat.zero_le _⟩ ?_
  refine jv_beq 25 h dX12_comes_4 (by decide) (fun c4 => ?_) (fun c4 => ?_)
  · refine jv_iconst (-1) h dX12_comes_25 (by decide) ?_
    exact jv_iret h hr dX12_comes_26 ⟨by unfold sp_comes; rw [if_neg (by simp_all)], rfl, rfl, rfl⟩
  · refine jv_aload_n h dX12_comes_7 rfl ?_
    refine jv_iload_n h dX12_comes_8 rfl ?_
    refine jv_VRi [_] h dX12_comes_9 cw_X12_70 cf_11 (by assumption) (cm_isFloor (by assumption) (by assumption) (by assumption) _) (by decide) rfl rfl (Nat.le_of_ble_eq_true rfl) ⟨Nat.zero_le _, Nat.zero_le _⟩ ?_
    refine jv_beq 25 h dX12_comes_12 (by decide) (fun c12 => ?_) (fun c12 => ?_)
    · refine jv_iconst (-1) h dX12_comes_25 (by decide) ?_
      exact jv_iret h hr dX12_comes_26 ⟨by unfold sp_comes; rw [if_neg (by simp_all)], rfl, rfl, rfl⟩
    · refine jv_iload_n h dX12_comes_15 rfl ?_
      refine jv_i2l h dX12_comes_16 ?_
      refine jv_lconst (lN 0) h dX12_comes_17 (by decide) ?_
      refine jv_lconst (lN 1) h dX12_comes_18 (by decide) ?_
      refine jv_SRi [_, _, _] h dX12_comes_19 cw_X12_44 (c_mwithin (m := 0) (n := 2) _ (by decide) (by decide)) (by decide) rfl rfl (Nat.le_of_ble_eq_true rfl) ⟨Nat.zero_le _, Nat.zero_le _⟩ ?_
      refine jv_bne 27 h dX12_comes_22 (by decide) (fun c22 => ?_) (fun c22 => ?_)
      · obtain ⟨d9, rfl, -, hd9⟩ := isB_t c4
        obtain ⟨f9, rfl, -, hf9⟩ := isB_t c12
        obtain ⟨s9, rfl, -, hs9⟩ := isB_t c22
        have hpb := pbN_lt (h := S 2) (f := f9) (s := s9) (by omega)
        have hsp : ∀ r, r = fsN (fun n => decide (S (6 + ciN (S 2) (pbN (S 2) f9 s9) (S 1 + n)) = d9)) 0 12 → r = sp_comes S (nI d9) (nI f9) (nI s9) := by
          intro r hr9
          unfold sp_comes
          rw [if_pos ⟨by assumption, by assumption, by assumption⟩, pn_nI (by omega), pn_nI (by omega), pn_nI (by omega)]
          exact hr9
        refine jv_iconst (nI 0) h dX12_comes_27 (by decide) ?_
        refine jv_istore h dX12_comes_28 (lt_nl hnl (by decide)) ?_
        have hl30 : ∀ (n : Nat) (i : Nat), 12 - i < n → i ≤ 12 → fsN (fun n => decide (S (6 + ciN (S 2) (pbN (S 2) f9 s9) (S 1 + n)) = d9)) i (12 - i) = fsN (fun n => decide (S (6 + ciN (S 2) (pbN (S 2) f9 s9) (S 1 + n)) = d9)) 0 12 → V x 0 0 T Mi Ml 30 [some (.ref Y), some (.int (nI d9)), some (.int (nI f9)), some (.int (nI s9)), some (.int (nI i))] [] := by
          intro n
          induction n with
          | zero => intro i hN9 hi hz; exact absurd hN9 (by omega)
          | succ n ih =>
            intro i hN9 hi hz
            refine jv_iload h dX12_comes_30 rfl ?_
            refine jv_bipush (nI 12) h dX12_comes_32 (by decide) ?_
            refine jv_nge 77 h dX12_comes_34 (by decide) (by repeat (with_reducible first | exact NF_nI _ | assumption | refine NF_add ?_ ?_ | refine NF_mul ?_ ?_)) (by repeat (with_reducible first | exact NF_nI _ | assumption | refine NF_add ?_ ?_ | refine NF_mul ?_ ?_)) ⟨by omega, by omega⟩ (fun c34 => ?_) (fun c34 => ?_)
            · refine jv_bipush (-4) h dX12_comes_77 (by decide) ?_
              exact jv_iret h hr dX12_comes_79 ⟨by
    rw [show 12 - i = 0 by omega] at hz
    rw [← hsp _ hz]; rfl, rfl, rfl, rfl⟩
            · have hci := ciN_lt (h := S 2) (c := pbN (S 2) f9 s9) (s := S 1 + i) (by omega)
              have w6i := w6 _ hci
              refine jv_aload_n h dX12_comes_37 rfl ?_
              refine jv_gr 0 h dX12_comes_38 cf_11 (by decide) gw_900 (by assumption) (by assumption) ?_
              refine jv_bipush (nI 6) h dX12_comes_41 (by decide) ?_
              refine jv_aload_n h dX12_comes_43 rfl ?_
              refine jv_aload_n h dX12_comes_44 rfl ?_
              refine jv_iload_n h dX12_comes_45 rfl ?_
              refine jv_iload_n h dX12_comes_46 rfl ?_
              refine jv_VRi [_, _] h dX12_comes_47 cw_X12_142 cf_11 (by assumption) (cm_placeAt (by assumption) (by assumption) (by assumption) (by repeat (with_reducible first | exact NF_nI _ | assumption | refine NF_add ?_ ?_ | refine NF_mul ?_ ?_)) (by repeat (with_reducible first | exact NF_nI _ | assumption | refine NF_add ?_ ?_ | refine NF_mul ?_ ?_)) (by omega)) (by decide) rfl rfl (Nat.le_of_ble_eq_true rfl) ⟨Nat.zero_le _, Nat.zero_le _⟩ ?_
              refine jv_aload_n h dX12_comes_50 rfl ?_
              refine jv_gr 0 h dX12_comes_51 cf_11 (by decide) gw_900 (by assumption) (by assumption) ?_
              refine jv_iconst (nI 1) h dX12_comes_54 (by decide) ?_
              refine jv_iav h dX12_comes_55 (by assumption) (by repeat (with_reducible first | exact NF_nI _ | assumption | refine NF_add ?_ ?_ | refine NF_mul ?_ ?_)) ⟨by omega, by decide⟩ (by first | assumption | exact hN.n0 | exact hN.n1 | exact hN.n2 | exact hN.n3 | exact hN.n4 | exact hN.n5 | exact hN.dy (by omega) | exact hN.p3 (by omega) | exact hN.p0 (by omega) | exact hN.p1 (by omega) | exact hN.p2 (by omega) | exact hN.p4 (by omega) | exact hN.p5 (by omega)) ?_
              refine jv_iload h dX12_comes_56 rfl ?_
              first | refine jv_iaddN h dX12_comes_58 (by repeat (with_reducible first | exact NF_nI _ | assumption | refine NF_add ?_ ?_ | refine NF_mul ?_ ?_)) (by repeat (with_reducible first | exact NF_nI _ | assumption | refine NF_add ?_ ?_ | refine NF_mul ?_ ?_)) ?_ | refine jv_iadd h dX12_comes_58 ?_
              refine jv_VRi [_, _] h dX12_comes_59 cw_X12_145 cf_11 (by assumption) (cm_carIn (by assumption) (by assumption) (by assumption) (by repeat (with_reducible first | exact NF_nI _ | assumption | refine NF_add ?_ ?_ | refine NF_mul ?_ ?_)) (by repeat (with_reducible first | exact NF_nI _ | assumption | refine NF_add ?_ ?_ | refine NF_mul ?_ ?_)) (by omega)) (by decide) rfl rfl (Nat.le_of_ble_eq_true rfl) ⟨Nat.zero_le _, Nat.zero_le _⟩ ?_
              first | refine jv_iaddN h dX12_comes_62 (by repeat (with_reducible first | exact NF_nI _ | assumption | refine NF_add ?_ ?_ | refine NF_mul ?_ ?_)) (by repeat (with_reducible first | exact NF_nI _ | assumption | refine NF_add ?_ ?_ | refine NF_mul ?_ ?_)) ?_ | refine jv_iadd h dX12_comes_62 ?_
              refine jv_iav h dX12_comes_63 (by assumption) (by repeat (with_reducible first | exact NF_nI _ | assumption | refine NF_add ?_ ?_ | refine NF_mul ?_ ?_)) ⟨by omega, by decide⟩ (by first | assumption | exact hN.n0 | exact hN.n1 | exact hN.n2 | exact hN.n3 | exact hN.n4 | exact hN.n5 | exact hN.dy (by omega) | exact hN.p3 (by omega) | exact hN.p0 (by omega) | exact hN.p1 (by omega) | exact hN.p2 (by omega) | exact hN.p4 (by omega) | exact hN.p5 (by omega)) ?_
              refine jv_iload_n h dX12_comes_64 rfl ?_
              refine jv_nne 71 h dX12_comes_65 (by decide) (by repeat (with_reducible first | exact NF_nI _ | assumption | refine NF_add ?_ ?_ | refine NF_mul ?_ ?_)) (by repeat (with_reducible first | exact NF_nI _ | assumption | refine NF_add ?_ ?_ | refine NF_mul ?_ ?_)) ⟨by omega, by omega⟩ (fun c65 => ?_) (fun c65 => ?_)
              · refine jv_iinc (nI (i + 1)) h dX12_comes_71 rfl (lt_nl hnl (by decide)) (nI_inc i) ?_
                refine jv_goto 30 h dX12_comes_74 (by decide) ?_
                rw [show 12 - i = (12 - (i + 1)) + 1 by omega] at hz
                unfold fsN at hz
                rw [if_neg (by simp; exact c65)] at hz
                exact ih (i + 1) (by omega) (by omega) hz
              · refine jv_iload h dX12_comes_68 rfl ?_
                exact jv_iret h hr dX12_comes_70 ⟨by
    rw [show 12 - i = (12 - (i + 1)) + 1 by omega] at hz
    unfold fsN at hz
    rw [if_pos (by simp; exact c65)] at hz
    rw [hsp _ hz], rfl, rfl, rfl⟩
        exact hl30 13 0 (by omega) (by omega) rfl
      · refine jv_iconst (-1) h dX12_comes_25 (by decide) ?_
        exact jv_iret h hr dX12_comes_26 ⟨by unfold sp_comes; rw [if_neg (by simp_all)], rfl, rfl, rfl⟩
set_option maxHeartbeats 4000000 in
set_option maxRecDepth 100000 in
theorem cm_heaviest {g : GT} {T : TT} {Mi : MI} {Ml : ML} {Y : Nat} {S : Nat → Nat} (hM : ModS g T Y) (hN : NowR Mi (Y + 1) S) (hW : WF S) (w : Int32) : Ct g yX12_heaviest cX12_heaviest 4 (some .int) 4 0 0 [.ref Y, .int w] T Mi Ml (Ri T Mi Ml (sp_heaviest S w)) := by
  refine Ct.of' (plainFor_of_name (by decide +kernel)) (by exact Nat.le_of_ble_eq_true rfl) ?_
  intro x hg hR h hr hnm hnl
  subst hg
  obtain ⟨hY, ⟨r0, a0⟩, ⟨r1, a1⟩, ⟨r5, a5⟩, ⟨r6, a6⟩, ⟨r7, a7⟩, ⟨r9, a9⟩, ⟨r12, a12⟩, ⟨r13, a13⟩, ⟨r14, a14⟩, ⟨r15, a15⟩, r16, a16⟩ := id hM
  obtain ⟨w0, w1, w2, w3, w4, w5, w6, w7⟩ := id hW
  refine jv_iload_n h dX12_heaviest_0 rfl ?_
  refine jv_i2l h dX12_heaviest_1 ?_
  refine jv_lconst (lN 0) h dX12_heaviest_2 (by decide) ?_
  refine jv_lconst (lN 1) h dX12_heaviest_3 (by decide) ?_
  refine jv_SRi [_, _, _] h dX12_heaviest_4 cw_X12_44 (c_mwithin (m := 0) (n := 2) _ (by decide) (by decide)) (by decide) rfl rfl (Nat.le_of_ble_eq_true rfl) ⟨Nat.zero_le _, Nat.zero_le _⟩ ?_
  refine jv_bne 12 h dX12_heaviest_7 (by decide) (fun c7 => ?_) (fun c7 => ?_)
  · refine jv_iconst (nI 0) h dX12_heaviest_12 (by decide) ?_
    refine jv_istore_n h dX12_heaviest_13 (lt_nl hnl (by decide)) ?_
    refine jv_iconst (nI 1) h dX12_heaviest_14 (by decide) ?_
    refine jv_istore_n h dX12_heaviest_15 (lt_nl hnl (by decide)) ?_
    have hl16 : ∀ (n : Nat) (i : Nat), 2 * S 2 - i < n → i ≤ 2 * S 2 → 0 < i → V x 0 0 T Mi Ml 16 [some (.ref Y), some (.int w), some (.int (nI (hvN S i))), some (.int (nI i))] [] := by
      intro n
      induction n with
      | zero => intro i hN9 hi hi0; exact absurd hN9 (by omega)
      | succ n ih =>
        intro i hN9 hi hi0
        refine jv_iload_n h dX12_heaviest_16 rfl ?_
        refine jv_aload_n h dX12_heaviest_17 rfl ?_
        refine jv_VRi [] h dX12_heaviest_18 cw_X12_48 cf_11 (by assumption) (cm_many (by assumption) (by assumption) (by assumption)) (by decide) rfl rfl (Nat.le_of_ble_eq_true rfl) ⟨Nat.zero_le _, Nat.zero_le _⟩ ?_
        refine jv_nge 49 h dX12_heaviest_21 (by decide) (by repeat (with_reducible first | exact NF_nI _ | assumption | refine NF_add ?_ ?_ | refine NF_mul ?_ ?_)) (by repeat (with_reducible first | exact NF_nI _ | assumption | refine NF_add ?_ ?_ | refine NF_mul ?_ ?_)) ⟨by omega, by omega⟩ (fun c21 => ?_) (fun c21 => ?_)
        · have hie : i = 2 * S 2 := by omega
          subst hie
          have hh1 := hvN_lt S (2 * S 2) (by omega)
          refine jv_iload_n h dX12_heaviest_49 rfl ?_
          refine jv_if_ne 57 h dX12_heaviest_50 (by decide) (fun c50 => ?_) (fun c50 => ?_)
          · refine jv_aload_n h dX12_heaviest_57 rfl ?_
            refine jv_iload_n h dX12_heaviest_58 rfl ?_
            refine jv_VRi [_] h dX12_heaviest_59 cw_X12_95 cf_11 (by assumption) (cm_loadOf (by assumption) (by assumption) (by assumption) (by repeat (with_reducible first | exact NF_nI _ | assumption | refine NF_add ?_ ?_ | refine NF_mul ?_ ?_)) (by omega)) (by decide) rfl rfl (Nat.le_of_ble_eq_true rfl) ⟨Nat.zero_le _, Nat.zero_le _⟩ ?_
            exact jv_iret h hr dX12_heaviest_62 ⟨by unfold sp_heaviest; rw [if_pos c7]; first | (rw [if_pos c50]; done) | (rw [if_neg c50]; done), rfl, rfl, rfl⟩
          · refine jv_iload_n h dX12_heaviest_53 rfl ?_
            refine jv_goto 62 h dX12_heaviest_54 (by decide) ?_
            exact jv_iret h hr dX12_heaviest_62 ⟨by unfold sp_heaviest; rw [if_pos c7]; first | (rw [if_pos c50]; done) | (rw [if_neg c50]; done), rfl, rfl, rfl⟩
        · have hh1 := hvN_lt S i hi0
          have hl1 := ldN_le hW i (S 0) (Nat.le_refl _)
          have hl2 := ldN_le hW (hvN S i) (S 0) (Nat.le_refl _)
          refine jv_aload_n h dX12_heaviest_24 rfl ?_
          refine jv_iload_n h dX12_heaviest_25 rfl ?_
          refine jv_VRi [_] h dX12_heaviest_26 cw_X12_95 cf_11 (by assumption) (cm_loadOf (by assumption) (by assumption) (by assumption) (by repeat (with_reducible first | exact NF_nI _ | assumption | refine NF_add ?_ ?_ | refine NF_mul ?_ ?_)) (by omega)) (by decide) rfl rfl (Nat.le_of_ble_eq_true rfl) ⟨Nat.zero_le _, Nat.zero_le _⟩ ?_
          refine jv_aload_n h dX12_heaviest_29 rfl ?_
          refine jv_iload_n h dX12_heaviest_30 rfl ?_
          refine jv_VRi [_] h dX12_heaviest_31 cw_X12_95 cf_11 (by assumption) (cm_loadOf (by assumption) (by assumption) (by assumption) (by repeat (with_reducible first | exact NF_nI _ | assumption | refine NF_add ?_ ?_ | refine NF_mul ?_ ?_)) (by omega)) (by decide) rfl rfl (Nat.le_of_ble_eq_true rfl) ⟨Nat.zero_le _, Nat.zero_le _⟩ ?_
          refine jv_nle 41 h dX12_heaviest_34 (by decide) (by repeat (with_reducible first | exact NF_nI _ | assumption | refine NF_add ?_ ?_ | refine NF_mul ?_ ?_)) (by repeat (with_reducible first | exact NF_nI _ | assumption | refine NF_add ?_ ?_ | refine NF_mul ?_ ?_)) ⟨by omega, by omega⟩ (fun c34 => ?_) (fun c34 => ?_)
          · refine jv_iload_n h dX12_heaviest_41 rfl ?_
            refine jv_istore_n h dX12_heaviest_42 (lt_nl hnl (by decide)) ?_
            refine jv_iinc (nI (i + 1)) h dX12_heaviest_43 rfl (lt_nl hnl (by decide)) (nI_inc i) ?_
            refine jv_goto 16 h dX12_heaviest_46 (by decide) ?_
            have key := ih (i + 1) (by omega) (by omega) (by omega)
            have e : hvN S (i + 1) = if ldN S (hvN S i) (S 0) < ldN S i (S 0) then i else hvN S i := rfl
            first
            | (rw [if_pos (by omega)] at e; rw [e] at key; exact key)
            | (rw [if_neg (by omega)] at e; rw [e] at key; exact key)
          · refine jv_iload_n h dX12_heaviest_37 rfl ?_
            refine jv_goto 42 h dX12_heaviest_38 (by decide) ?_
            refine jv_istore_n h dX12_heaviest_42 (lt_nl hnl (by decide)) ?_
            refine jv_iinc (nI (i + 1)) h dX12_heaviest_43 rfl (lt_nl hnl (by decide)) (nI_inc i) ?_
            refine jv_goto 16 h dX12_heaviest_46 (by decide) ?_
            have key := ih (i + 1) (by omega) (by omega) (by omega)
            have e : hvN S (i + 1) = if ldN S (hvN S i) (S 0) < ldN S i (S 0) then i else hvN S i := rfl
            first
            | (rw [if_pos (by omega)] at e; rw [e] at key; exact key)
            | (rw [if_neg (by omega)] at e; rw [e] at key; exact key)
    have key := hl16 (2 * S 2 + 1) 1 (by omega) (by omega) (by omega)
    have e : hvN S 1 = 0 := by unfold hvN hvN; split <;> rfl
    rw [e] at key
    exact key
  · refine jv_iconst (-1) h dX12_heaviest_10 (by decide) ?_
    exact jv_iret h hr dX12_heaviest_11 ⟨by unfold sp_heaviest; rw [if_neg (by simp [c7])], rfl, rfl, rfl⟩
