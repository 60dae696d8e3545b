def goA (S : Nat → Nat) (B : Nat → Bool) (kk st : Nat) : Nat → Bool := if kk = 1 then toA S (if kk = 1 ∨ kk = 4 then toA S B st 0 else B) st (S 2) else (if kk = 1 ∨ kk = 4 then toA S B st 0 else B)

set_option maxHeartbeats 4000000 in
set_option maxRecDepth 100000 in
theorem c_wgoOn {g : GT} {T : TT} {Mi : MI} {Ml : ML} {W st kk : Nat} {S : Nat → Nat} {B : Nat → Bool} {v : Int64} (hK : WkS g T W) (hB : BlkR Mi (W + 1) S) (hW : WF S) (hs : Mi W 4 = nI st) (hst : st < 19000) (hk : Mi W 1 = nI kk) (hk5 : kk < 5) (hv : BR v B) : Ct g yX9_goOn cX9_goOn 3 none 5 0 0 [.ref W, .long v] T Mi Ml (Gv T (fun Mi' Ml' => Mi' = upd2 Mi W 4 (nI (st + 1)) ∧ (∀ a, a ≠ W → Ml' a = Ml a) ∧ (∀ q, q ≠ 5 → Ml' W q = Ml W q) ∧ BR (Ml' W 5) (goA S B kk (st + 1)))) := by
  refine Ct.of' (plainFor_of_name (by decide +kernel)) (by exact Nat.le_of_ble_eq_true rfl) ?_
  intro x hg hR h hr hnm hnl
  subst hg
  obtain ⟨k1, k2, k3⟩ := id hK
  obtain ⟨b1, b2, b3⟩ := id k3
  obtain ⟨y0, y1, y2, y3⟩ := id hB
  obtain ⟨w0, w1, w2, w3, w4, w5, w6, w7⟩ := id hW
  have hk1 : upd2 Mi W 4 (nI (st + 1)) W 1 = nI kk := (upd2_ne _ _ (by omega)).trans hk
  have hB1 : BlkR (upd2 Mi W 4 (nI (st + 1))) (W + 1) S := hB.fr (upd2_row _ _ (by omega)) (upd2_row _ _ (by omega))
  have hs1 : upd2 Mi W 4 (nI (st + 1)) W 4 = nI (st + 1) := upd2_same _ _ _ _
  have y01 := hB1.1
  refine jv_aload_n h dX9_goOn_0 rfl ?_
  refine jv_lload_n h dX9_goOn_1 rfl ?_
  refine jv_plg 5 h dX9_goOn_2 cf_8 (by decide) gw_229 (by assumption) rfl rfl ?_
  have hj30 : ∀ (L2 : ML), (∀ a, a ≠ W → L2 a = Ml a) → (∀ q, q ≠ 5 → L2 W q = Ml W q) → BR (L2 W 5) (if kk = 1 ∨ kk = 4 then toA S B (st + 1) 0 else B) → V x 0 0 T (upd2 Mi W 4 (nI (st + 1))) L2 30 [some (.ref W), some (.long v), none] [] := by
    intro L2 f1 f2 HBR
    refine jv_aload_n h dX9_goOn_30 rfl ?_
    refine jv_ge 1 h dX9_goOn_31 cf_8 (by decide) gw_225 (by assumption) (by assumption) (by omega) ?_
    refine jv_gen (L := [0, 1, 0, 0, 0]) (List.mem_of_getElem? (i := 3) rfl) h dX9_goOn_34 (by omega) gw_1242 (oaE (by omega)) ?_
    refine jv_beq 51 h dX9_goOn_37 (by decide) (fun c37 => ?_) (fun c37 => ?_)
    · exact jv_vret h hr dX9_goOn_51 ⟨rfl, by
    first
    | (have hm9 := hp48.1
       subst Mi48
       obtain ⟨-, e1, e2, e3⟩ := hp48
       exact ⟨rfl, rfl, fun a ha => (e1 a ha).trans (f1 a ha), fun q hq => (e2 q hq).trans (f2 q hq), by unfold goA; rw [if_pos (of_decide_eq_true c37)]; exact e3⟩)
    | exact ⟨rfl, rfl, f1, f2, by unfold goA; rw [if_neg (of_decide_eq_false c37)]; exact HBR⟩⟩
    · refine jv_aload_n h dX9_goOn_40 rfl ?_
      refine jv_aload_n h dX9_goOn_41 rfl ?_
      refine jv_gr 0 h dX9_goOn_42 cf_8 (by decide) gw_224 (by assumption) (by assumption) ?_
      refine jv_gv 0 h dX9_goOn_45 cf_1 (by decide) gw_46 (by assumption) (by assumption) ?_
      refine jv_VGv [_] h dX9_goOn_48 cw_X9_111 cf_8 (by assumption) (c_turnOut hK hB1 hW hs1 (by omega) HBR (NF_nI _) (by omega)) (by decide) rfl rfl (Nat.le_of_ble_eq_true rfl) ⟨Nat.zero_le _, Nat.zero_le _⟩ (fun Mi48 Ml48 hp48 => ?_)
      exact jv_vret h hr dX9_goOn_51 ⟨rfl, by
    first
    | (have hm9 := hp48.1
       subst Mi48
       obtain ⟨-, e1, e2, e3⟩ := hp48
       exact ⟨rfl, rfl, fun a ha => (e1 a ha).trans (f1 a ha), fun q hq => (e2 q hq).trans (f2 q hq), by unfold goA; rw [if_pos (of_decide_eq_true c37)]; exact e3⟩)
    | exact ⟨rfl, rfl, f1, f2, by unfold goA; rw [if_neg (of_decide_eq_false c37)]; exact HBR⟩⟩
  refine jv_aload_n h dX9_goOn_5 rfl ?_
  refine jv_dup h dX9_goOn_6 rfl ?_
  refine jv_gv 4 h dX9_goOn_7 cf_8 (by decide) gw_228 (by assumption) (by assumption) ?_
  refine jv_iconst (nI 1) h dX9_goOn_10 (by decide) ?_
  first | refine jv_iaddN h dX9_goOn_11 (by repeat (with_reducible first | exact NF_nI _ | assumption | refine NF_add ?_ ?_ | refine NF_mul ?_ ?_)) (by repeat (with_reducible first | exact NF_nI _ | assumption | refine NF_add ?_ ?_ | refine NF_mul ?_ ?_)) ?_ | refine jv_iadd h dX9_goOn_11 ?_
  refine jv_pi 4 h dX9_goOn_12 cf_8 (by decide) gw_228 (by assumption) rfl rfl rfl ?_
  refine jv_aload_n h dX9_goOn_15 rfl ?_
  refine jv_ge 1 h dX9_goOn_16 cf_8 (by decide) gw_225 (by assumption) (by assumption) (by omega) ?_
  refine jv_gen (L := [0, 1, 0, 0, 1]) (List.mem_of_getElem? (i := 4) rfl) h dX9_goOn_19 (by omega) gw_1241 (obE (by omega)) ?_
  refine jv_beq 30 h dX9_goOn_22 (by decide) (fun c22 => ?_) (fun c22 => ?_)
  · first
    | (have hm9 := hp27.1
       subst Mi27
       obtain ⟨-, e1, e2, e3⟩ := hp27
       exact hj30 _ (fun a ha => by rw [e1 a ha, upd2_row _ _ ha]) (fun q hq => by rw [e2 q hq, upd2_ne _ _ (by omega)]) (by rw [if_pos (of_decide_eq_true c22)]; exact e3))
    | exact hj30 _ (fun a ha => by rw [upd2_row _ _ ha]) (fun q hq => by rw [upd2_ne _ _ (by omega)]) (by rw [if_neg (of_decide_eq_false c22), upd2_same]; exact hv)
  · refine jv_aload_n h dX9_goOn_25 rfl ?_
    refine jv_iconst (nI 0) h dX9_goOn_26 (by decide) ?_
    refine jv_VGv [_] h dX9_goOn_27 cw_X9_111 cf_8 (by assumption) (c_turnOut hK hB1 hW hs1 (by omega) (show BR (upd2 Ml W 5 v W 5) B by rw [upd2_same]; exact hv) (NF_nI _) (by omega)) (by decide) rfl rfl (Nat.le_of_ble_eq_true rfl) ⟨Nat.zero_le _, Nat.zero_le _⟩ (fun Mi27 Ml27 hp27 => ?_)
    first
    | (have hm9 := hp27.1
       subst Mi27
       obtain ⟨-, e1, e2, e3⟩ := hp27
       exact hj30 _ (fun a ha => by rw [e1 a ha, upd2_row _ _ ha]) (fun q hq => by rw [e2 q hq, upd2_ne _ _ (by omega)]) (by rw [if_pos (of_decide_eq_true c22)]; exact e3))
    | exact hj30 _ (fun a ha => by rw [upd2_row _ _ ha]) (fun q hq => by rw [upd2_ne _ _ (by omega)]) (by rw [if_neg (of_decide_eq_false c22), upd2_same]; exact hv)
