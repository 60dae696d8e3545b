set_option maxHeartbeats 4000000 in
set_option maxRecDepth 100000 in
theorem c_type {g : GT} {T : TT} {Mi : MI} {Ml : ML} {X ln : Nat} {t : Nat → Nat} (hX : DayS g T X) (hT : TapR Mi (X + 155) t ln 0) (hA : TA t ln) (v : Int32) : Ct g yX11_type cX11_type 2 (some .int) 2 0 0 [.ref X, .int v] T Mi Ml (Gi T (fun rv Mi' Ml' => rv = (sp_type t ln v).1 ∧ Ml' = Ml ∧ (∀ a, a ≠ X + 155 → a ≠ X + 156 → Mi' a = Mi a) ∧ TapR Mi' (X + 155) (sp_type t ln v).2.1 (sp_type t ln v).2.2 0)) := by
  refine Ct.of' (plainFor_of_name (by decide +kernel)) (by exact Nat.le_of_ble_eq_true rfl) ?_
  intro x hg hR h hr hnm hnl
  subst hg
  obtain ⟨x0, ⟨x1, x2⟩, ⟨x3, x4⟩, ⟨x5, x6, x7, x8⟩, ⟨x9, x10, x11, x12, x13, x14⟩, ⟨x15, x16⟩, ⟨x17, x18, x19, x20⟩, ⟨x21, x22, x23, x24⟩, ⟨x25, x26, x27, x28, x29, x30⟩, x31, x32, x33, x34, x35, x36⟩ := id hX
  refine jv_iload_n h dX11_type_0 rfl ?_
  refine jv_bipush (nI 32) h dX11_type_1 (by decide) ?_
  refine jv_bipush (nI 126) h dX11_type_3 (by decide) ?_
  refine jv_SRi [_, _, _] h dX11_type_5 cw_X11_68 (c_within (m := 32) (n := 127) _ (by decide) (by decide)) (by decide) rfl rfl (Nat.le_of_ble_eq_true rfl) ⟨Nat.zero_le _, Nat.zero_le _⟩ ?_
  refine jv_bne 13 h dX11_type_8 (by decide) (fun c8 => ?_) (fun c8 => ?_)
  · obtain ⟨c9, rfl, hc1, hc2⟩ := isB_t c8
    have hsp : sp_type t ln (nI c9) = (if ln < 60 then (nI (ln + 1), (fun k => if k = ln then c9 else t k), ln + 1) else (-3, t, ln)) := (by unfold sp_type; rw [if_pos c8, pn_nI (by omega)])
    refine jv_aload_n h dX11_type_13 rfl ?_
    refine jv_gr 3 h dX11_type_14 cf_10 (by decide) gw_283 (by assumption) (by assumption) ?_
    refine jv_iload_n h dX11_type_17 rfl ?_
    refine jv_VGi [_] h dX11_type_18 cw_X11_177 cf_7 (by assumption) (c_tadd hX.tap.2 hT hA (Nat.zero_le _) (NF_nI _)) (by decide) rfl rfl (Nat.le_of_ble_eq_true rfl) ⟨Nat.zero_le _, Nat.zero_le _⟩ (fun v_18 Mi18 Ml18 hp18 => ?_)
    have hm9 := hp18.2.1
    subst Ml18
    obtain ⟨v9, -, i1, i2, i4, i5⟩ := hp18
    subst v_18
    refine jv_beq 34 h dX11_type_21 (by decide) (fun c21 => ?_) (fun c21 => ?_)
    · have cL := of_decide_eq_false c21
      have i6 := i4 cL
      subst i6
      refine jv_bipush (-3) h dX11_type_34 (by decide) ?_
      exact jv_iret h hr dX11_type_36 ⟨_, rfl, rfl, by
    first
    | (rw [hsp, if_pos cL]
       exact ⟨rfl, rfl, i1, i6, (i2 2 (by decide)).trans hT.2.1, i7⟩)
    | (rw [hsp, if_neg cL]
       exact ⟨rfl, rfl, fun _ _ _ => rfl, hT⟩)⟩
    · have cL := of_decide_eq_true c21
      obtain ⟨i6, i7⟩ := i5 cL
      refine jv_aload_n h dX11_type_24 rfl ?_
      refine jv_gr 3 h dX11_type_25 cf_10 (by decide) gw_283 (by assumption) (by assumption) ?_
      refine jv_gv 1 h dX11_type_28 cf_7 (by decide) gw_184 (by assumption) (by exact i6) ?_
      refine jv_goto 36 h dX11_type_31 (by decide) ?_
      exact jv_iret h hr dX11_type_36 ⟨_, rfl, rfl, by
    first
    | (rw [hsp, if_pos cL]
       exact ⟨rfl, rfl, i1, i6, (i2 2 (by decide)).trans hT.2.1, i7⟩)
    | (rw [hsp, if_neg cL]
       exact ⟨rfl, rfl, fun _ _ _ => rfl, hT⟩)⟩
  · refine jv_iconst (-1) h dX11_type_11 (by decide) ?_
    exact jv_iret h hr dX11_type_12 ⟨_, rfl, rfl, by
    have e : sp_type t ln v = (-1, t, ln) := (by unfold sp_type; rw [if_neg (by rw [c8]; decide)])
    rw [e]
    exact ⟨rfl, rfl, fun _ _ _ => rfl, hT⟩⟩
theorem rbS_0 {S D Q : Nat → Nat} {hh : Nat} : rbS S hh D Q 0 = Q 0 := by unfold rbS; rw [if_pos rfl]

set_option maxHeartbeats 4000000 in
set_option maxRecDepth 100000 in
theorem c_block {g : GT} {T : TT} {Mi : MI} {Ml : ML} {X u nx : Nat} {S : Nat → Nat} {R : Nat → Nat → Nat} (hX : DayS g T X) (hL : BltR Mi (X + 1) S R u nx) (hW : WF S) {ln : Nat} {t : Nat → Nat} (hT : TapR Mi (X + 155) t ln 0) (hA : TA t ln) (hR1 : Mi (X + 160) 2 = nI 0) (hR2 : Mi (X + 160) 3 = nI 1) : Ct g yX11_block cX11_block 3 (some .int) 12 0 0 [.ref X] T Mi Ml (Gi T (fun rv Mi' Ml' => rv = (sp_block t ln S).1 ∧ Ml' = Ml ∧ (∀ a, (a ≤ X ∨ X + 78 ≤ a) → a ≠ X + 155 → (a ≤ X + 157 ∨ X + 168 ≤ a) → Mi' a = Mi a) ∧ TapR Mi' (X + 155) t 0 0 ∧ (Mi' (X + 160) 2 = nI 0 ∧ Mi' (X + 160) 3 = nI 1) ∧ ((sp_block t ln S).2 = none → ∀ a, X + 1 ≤ a → a < X + 78 → Mi' a = Mi a) ∧ ∀ S', (sp_block t ln S).2 = some S' → BltR Mi' (X + 1) S' R 0 nx)) := by
  refine Ct.of' (plainFor_of_name (by decide +kernel)) (by exact Nat.le_of_ble_eq_true rfl) ?_
  intro x hg hR h hr hnm hnl
  subst hg
  obtain ⟨x0, ⟨x1, x2⟩, ⟨x3, x4⟩, ⟨x5, x6, x7, x8⟩, ⟨x9, x10, x11, x12, x13, x14⟩, ⟨x15, x16⟩, ⟨x17, x18, x19, x20⟩, ⟨x21, x22, x23, x24⟩, ⟨x25, x26, x27, x28, x29, x30⟩, x31, x32, x33, x34, x35, x36⟩ := id hX
  obtain ⟨z1, z2, z3, z4, z5, z6, z7⟩ := id x2
  obtain ⟨e1, e2, e3⟩ := id z5
  obtain ⟨s1, s2, s3, s4, s5⟩ := id z6
  obtain ⟨h1, h2, h3, h4, h5⟩ := id z7
  obtain ⟨l1, l2, l3⟩ := id hL
  obtain ⟨y0, y1, y2, y3⟩ := id l1
  obtain ⟨v1, v2, v3, v4⟩ := id l2
  obtain ⟨r1, r2, r3, r4, r5, r6⟩ := id l3
  obtain ⟨w0, w1, w2, w3, w4, w5, w6, w7⟩ := id hW
  refine jv_aload_n h dX11_block_0 rfl ?_
  refine jv_gr 4 h dX11_block_1 cf_10 (by decide) gw_284 (by assumption) (by assumption) ?_
  refine jv_aload_n h dX11_block_4 rfl ?_
  refine jv_gr 3 h dX11_block_5 cf_10 (by decide) gw_283 (by assumption) (by assumption) ?_
  refine jv_VGi [_] h dX11_block_8 cw_X11_182 cf_2 (by assumption) (c_reads hX.rd.2 hX.tap.2 hT hA (by omega) (D := D0) (Q := Q0) rfl hR1 hR2) (by decide) rfl rfl (Nat.le_of_ble_eq_true rfl) ⟨Nat.zero_le _, Nat.zero_le _⟩ (fun v_8 Mi8 Ml8 hp8 => ?_)
  have hm9 := hp8.2.1
  subst Ml8
  obtain ⟨v9, -, i1, i2, i3, i4, i5, i6, i7⟩ := hp8
  subst v_8
  refine jv_istore_n h dX11_block_11 (lt_nl hnl (by decide)) ?_
  refine jv_bipush (-20) h dX11_block_12 (by decide) ?_
  refine jv_aload_n h dX11_block_14 rfl ?_
  refine jv_gr 3 h dX11_block_15 cf_10 (by decide) gw_283 (by assumption) (by assumption) ?_
  refine jv_gv 2 h dX11_block_18 cf_7 (by decide) gw_186 (by assumption) (by exact i3) ?_
  refine jv_isub h dX11_block_21 ?_
  refine jv_istore_n h dX11_block_22 (lt_nl hnl (by decide)) ?_
  refine jv_aload_n h dX11_block_23 rfl ?_
  refine jv_gr 3 h dX11_block_24 cf_10 (by decide) gw_283 (by assumption) (by assumption) ?_
  refine jv_VGv [] h dX11_block_27 cw_X11_189 cf_7 (by assumption) (c_tclear hX.tap.2) (by decide) rfl rfl (Nat.le_of_ble_eq_true rfl) ⟨Nat.zero_le _, Nat.zero_le _⟩ (fun Mi27 Ml27 hp27 => ?_)
  have hm9 := hp27.1
  subst Ml27
  obtain ⟨-, rfl⟩ := hp27
  have F27 : ∀ a, a ≠ X + 155 → (a ≤ X + 157 ∨ X + 168 ≤ a) → upd2 (upd2 Mi8 (X + 155) 1 (nI 0)) (X + 155) 2 (nI 0) a = Mi a := fun a h1 h2 => by rw [upd2_row _ _ h1, upd2_row _ _ h1]; exact i1 a h1 (by omega)
  have T27 : TapR (upd2 (upd2 Mi8 (X + 155) 1 (nI 0)) (X + 155) 2 (nI 0)) (X + 155) t 0 0 := ⟨by rw [upd2_ne _ _ (by omega), upd2_same], upd2_same _ _ _ _, fun k hk => absurd hk (by omega)⟩
  have R27 : upd2 (upd2 Mi8 (X + 155) 1 (nI 0)) (X + 155) 2 (nI 0) (X + 160) 2 = nI 0 ∧ upd2 (upd2 Mi8 (X + 155) 1 (nI 0)) (X + 155) 2 (nI 0) (X + 160) 3 = nI 1 := by rw [upd2_row _ _ (show X + 160 ≠ X + 155 by omega), upd2_row _ _ (show X + 160 ≠ X + 155 by omega)]; exact ⟨i6, i7⟩
  refine jv_iload_n h dX11_block_30 rfl ?_
  refine jv_bne 36 h dX11_block_31 (by decide) (fun c31 => ?_) (fun c31 => ?_)
  · obtain ⟨t1, t2, t3, t4, t5⟩ := blP_t c31
    obtain ⟨j1, j2, j3⟩ := i5 c31
    have e158 : upd2 (upd2 Mi8 (X + 155) 1 (nI 0)) (X + 155) 2 (nI 0) (X + 158) = Mi8 (X + 158) := by rw [upd2_row _ _ (show X + 158 ≠ X + 155 by omega), upd2_row _ _ (show X + 158 ≠ X + 155 by omega)]
    have e159 : upd2 (upd2 Mi8 (X + 155) 1 (nI 0)) (X + 155) 2 (nI 0) (X + 158 + 1) = Mi8 (X + 158 + 1) := by rw [upd2_row _ _ (show X + 158 + 1 ≠ X + 155 by omega), upd2_row _ _ (show X + 158 + 1 ≠ X + 155 by omega)]
    have E1 : upd2 (upd2 Mi8 (X + 155) 1 (nI 0)) (X + 155) 2 (nI 0) (X + 158) 0 = nI (blP t ln D0 Q0).2.2.1 := by rw [e158]; exact j1
    have E2 : ∀ k, k < 2 * (blP t ln D0 Q0).2.2.1 → upd2 (upd2 Mi8 (X + 155) 1 (nI 0)) (X + 155) 2 (nI 0) (X + 158 + 1) k = nI ((blP t ln D0 Q0).2.2.2.1 k) := fun k hk => by rw [e159]; exact j2 k hk
    have E3 : ScnR (upd2 (upd2 Mi8 (X + 155) 1 (nI 0)) (X + 155) 2 (nI 0)) (X + 160) (blP t ln D0 Q0).2.2.2.2 := ScnR.fr (Mi := Mi8) j3 t3.1 (fun a h1 h2 => by rw [upd2_row _ _ (by omega), upd2_row _ _ (by omega)])
    have L27 : BltR (upd2 (upd2 Mi8 (X + 155) 1 (nI 0)) (X + 155) 2 (nI 0)) (X + 1) S R u nx := hL.fr (by omega) (fun a h1 h2 => F27 a (by omega) (by omega))
    have hsp : sp_block t ln S = (nI ((blP t ln D0 Q0).2.2.2.2 0), some (rbS S (blP t ln D0 Q0).2.2.1 (blP t ln D0 Q0).2.2.2.1 (blP t ln D0 Q0).2.2.2.2)) := (by unfold sp_block; rw [if_pos c31])
    refine jv_aload_n h dX11_block_36 rfl ?_
    refine jv_gr 0 h dX11_block_37 cf_10 (by decide) gw_280 (by assumption) (by assumption) ?_
    refine jv_aload_n h dX11_block_40 rfl ?_
    refine jv_gr 4 h dX11_block_41 cf_10 (by decide) gw_284 (by assumption) (by assumption) ?_
    refine jv_gr 0 h dX11_block_44 cf_2 (by decide) gw_205 (by assumption) (by assumption) ?_
    refine jv_aload_n h dX11_block_47 rfl ?_
    refine jv_gr 4 h dX11_block_48 cf_10 (by decide) gw_284 (by assumption) (by assumption) ?_
    refine jv_gr 1 h dX11_block_51 cf_2 (by decide) gw_207 (by assumption) (by assumption) ?_
    refine jv_VGv [_, _] h dX11_block_54 cw_X11_192 cf_0 (by assumption) (c_bbegin x2 L27 hW x13 x14 E1 E2 E3 t1 t2 t3 (by omega) (by omega) (by omega)) (by decide) rfl rfl (Nat.le_of_ble_eq_true rfl) ⟨Nat.zero_le _, Nat.zero_le _⟩ (fun Mi54 Ml54 hp54 => ?_)
    have hm9 := hp54.1
    subst Ml54
    obtain ⟨-, k1, k2⟩ := hp54
    have k3 := k2.2.1.1
    rw [rbS_0] at k3
    refine jv_aload_n h dX11_block_57 rfl ?_
    refine jv_gr 0 h dX11_block_58 cf_10 (by decide) gw_280 (by assumption) (by assumption) ?_
    refine jv_gr 1 h dX11_block_61 cf_0 (by decide) gw_165 (by assumption) (by assumption) ?_
    refine jv_gv 1 h dX11_block_64 cf_5 (by decide) gw_122 (by assumption) (by exact k3) ?_
    exact jv_iret h hr dX11_block_67 ⟨_, rfl, rfl, by
    rw [hsp]
    refine ⟨rfl, rfl, fun a h1 h2 h3 => by rw [k1 a (by omega)]; exact F27 a h2 h3, ⟨by rw [k1 _ (by omega)]; exact T27.1, by rw [k1 _ (by omega)]; exact T27.2.1, fun k hk => absurd hk (by omega)⟩, by rw [k1 _ (by omega)]; exact R27, (fun z => by cases z), fun S' z => ?_⟩
    cases z
    exact k2⟩
  · have hsp : sp_block t ln S = (-20 - nI (blP t ln D0 Q0).2.1, none) := (by unfold sp_block; rw [if_neg (by rw [c31]; decide)])
    refine jv_iload_n h dX11_block_34 rfl ?_
    exact jv_iret h hr dX11_block_35 ⟨_, rfl, rfl, by
    rw [hsp]
    exact ⟨rfl, rfl, fun a h1 h2 h3 => F27 a h2 h3, T27, R27, (fun _ a h1 h2 => F27 a (by omega) (by omega)), (fun S' z => by cases z)⟩⟩
