set_option maxHeartbeats 4000000 in
set_option maxRecDepth 100000 in
theorem cm_undo {g : GT} {T : TT} {Mi : MI} {Ml : ML} {Y : Nat} {z : SU} (hM : ModS g T Y) (hN : NowR Mi (Y + 1) z.1) (hD : UndR Mi Y z.2.1 z.2.2) (hZ : WFU z)  : Ct g yX12_undo cX12_undo 3 (some .int) 1 0 0 [.ref Y] T Mi Ml (Gi T (fun rv Mi' Ml' => rv = (sp_undo z).1 ∧ Ml' = Ml ∧ MFr Mi Mi' Y ∧ NowR Mi' (Y + 1) (sp_undo z).2.1 ∧ UndR Mi' Y (sp_undo z).2.2.1 (sp_undo z).2.2.2)) := by
  refine Ct.of' (plainFor_of_name (by decide +kernel)) (by exact Nat.le_of_ble_eq_true rfl) ?_
  intro x hg hR h hr hnm hnl
  subst hg
  obtain ⟨hY, ⟨r0, a0⟩, ⟨r1, a1⟩, ⟨r5, a5⟩, ⟨r6, a6⟩, ⟨r7, a7⟩, ⟨r9, a9⟩, ⟨r12, a12⟩, ⟨r13, a13⟩, ⟨r14, a14⟩, ⟨r15, a15⟩, r16, a16⟩ := id hM
  have hW := hZ.1
  obtain ⟨d1, d2, d3⟩ := id hD
  obtain ⟨w0, w1, w2, w3, w4, w5, w6, w7⟩ := id hW
  refine jv_aload_n h dX12_undo_0 rfl ?_
  refine jv_gv 8 h dX12_undo_1 cf_11 (by decide) gw_908 (by assumption) (by first | assumption | exact upd2_same _ _ _ _) ?_
  refine jv_zne 10 h dX12_undo_4 (by decide) (by repeat (with_reducible first | exact NF_nI _ | assumption | refine NF_add ?_ ?_ | refine NF_mul ?_ ?_)) (by omega) (fun c4 => ?_) (fun c4 => ?_)
  · refine jv_aload_n h dX12_undo_10 rfl ?_
    refine jv_dup h dX12_undo_11 rfl ?_
    refine jv_gv 8 h dX12_undo_12 cf_11 (by decide) gw_908 (by assumption) (by first | assumption | exact upd2_same _ _ _ _) ?_
    refine jv_iconst (nI 1) h dX12_undo_15 (by decide) ?_
    first | refine jv_isubN h dX12_undo_16 (by repeat (with_reducible first | exact NF_nI _ | assumption | refine NF_add ?_ ?_ | refine NF_mul ?_ ?_)) (by repeat (with_reducible first | exact NF_nI _ | assumption | refine NF_add ?_ ?_ | refine NF_mul ?_ ?_)) (by omega) ?_ | refine jv_isub h dX12_undo_16 ?_
    refine jv_pi 8 h dX12_undo_17 cf_11 (by decide) gw_908 (by assumption) rfl rfl rfl ?_
    have hU1 : ∀ k, k < 54 → upd2 Mi Y 8 (nI (z.2.2 - 1)) (Y + 5) (54 * (z.2.2 - 1) + k) = eN k (z.2.1 (z.2.2 - 1) k) := fun k hk => by rw [upd2_row _ _ (by omega)]; exact d3 _ (by omega) k hk
    refine jv_bipush (nI 54) h dX12_undo_20 (by decide) ?_
    refine jv_aload_n h dX12_undo_22 rfl ?_
    refine jv_gv 8 h dX12_undo_23 cf_11 (by decide) gw_908 (by assumption) (by first | assumption | exact upd2_same _ _ _ _) ?_
    first | refine jv_imulN h dX12_undo_26 (by repeat (with_reducible first | exact NF_nI _ | assumption | refine NF_add ?_ ?_ | refine NF_mul ?_ ?_)) (by repeat (with_reducible first | exact NF_nI _ | assumption | refine NF_add ?_ ?_ | refine NF_mul ?_ ?_)) ?_ | refine jv_imul h dX12_undo_26 ?_
    refine jv_istore_n h dX12_undo_27 (lt_nl hnl (by decide)) ?_
    refine jv_aload_n h dX12_undo_28 rfl ?_
    refine jv_gr 0 h dX12_undo_29 cf_11 (by decide) gw_900 (by assumption) (by assumption) ?_
    refine jv_iconst (nI 1) h dX12_undo_32 (by decide) ?_
    refine jv_aload_n h dX12_undo_33 rfl ?_
    refine jv_gr 7 h dX12_undo_34 cf_11 (by decide) gw_907 (by assumption) (by assumption) ?_
    refine jv_iload_n h dX12_undo_37 rfl ?_
    refine jv_iconst (nI 1) h dX12_undo_38 (by decide) ?_
    first | refine jv_iaddN h dX12_undo_39 (by repeat (with_reducible first | exact NF_nI _ | assumption | refine NF_add ?_ ?_ | refine NF_mul ?_ ?_)) (by repeat (with_reducible first | exact NF_nI _ | assumption | refine NF_add ?_ ?_ | refine NF_mul ?_ ?_)) ?_ | refine jv_iadd h dX12_undo_39 ?_
    refine jv_iav h dX12_undo_40 (by assumption) (by repeat (with_reducible first | exact NF_nI _ | assumption | refine NF_add ?_ ?_ | refine NF_mul ?_ ?_)) ⟨by omega, by decide⟩ (by exact hU1 1 (by omega)) ?_
    refine jv_iast h dX12_undo_41 (by assumption) (by repeat (with_reducible first | exact NF_nI _ | assumption | refine NF_add ?_ ?_ | refine NF_mul ?_ ?_)) ⟨by omega, by decide⟩ ?_
    have hu5 : upd2 (upd2 Mi Y 8 (nI (z.2.2 - 1))) (Y + 1) 1 (eN 1 (z.2.1 (z.2.2 - 1) 1)) (Y + 5) (54 * (z.2.2 - 1) + 5) = eN 5 (z.2.1 (z.2.2 - 1) 5) := by rw [upd2_row _ _ (by omega)]; exact hU1 5 (by omega)
    refine jv_aload_n h dX12_undo_42 rfl ?_
    refine jv_gr 0 h dX12_undo_43 cf_11 (by decide) gw_900 (by assumption) (by assumption) ?_
    refine jv_iconst (nI 5) h dX12_undo_46 (by decide) ?_
    refine jv_aload_n h dX12_undo_47 rfl ?_
    refine jv_gr 7 h dX12_undo_48 cf_11 (by decide) gw_907 (by assumption) (by assumption) ?_
    refine jv_iload_n h dX12_undo_51 rfl ?_
    refine jv_iconst (nI 5) h dX12_undo_52 (by decide) ?_
    first | refine jv_iaddN h dX12_undo_53 (by repeat (with_reducible first | exact NF_nI _ | assumption | refine NF_add ?_ ?_ | refine NF_mul ?_ ?_)) (by repeat (with_reducible first | exact NF_nI _ | assumption | refine NF_add ?_ ?_ | refine NF_mul ?_ ?_)) ?_ | refine jv_iadd h dX12_undo_53 ?_
    refine jv_iav h dX12_undo_54 (by assumption) (by repeat (with_reducible first | exact NF_nI _ | assumption | refine NF_add ?_ ?_ | refine NF_mul ?_ ?_)) ⟨by omega, by decide⟩ (by exact hu5) ?_
    refine jv_iast h dX12_undo_55 (by assumption) (by repeat (with_reducible first | exact NF_nI _ | assumption | refine NF_add ?_ ?_ | refine NF_mul ?_ ?_)) ⟨by omega, by decide⟩ ?_
    refine jv_bipush (nI 18) h dX12_undo_56 (by decide) ?_
    refine jv_istore_n h dX12_undo_58 (lt_nl hnl (by decide)) ?_
    have hl59 : ∀ (n : Nat) (i : Nat) (M1 : MI), 54 - i < n → 18 ≤ i → i ≤ 54 → (∀ a, a ≠ Y → a ≠ Y + 1 → M1 a = Mi a) → (∀ q, q ≠ 8 → M1 Y q = Mi Y q) → M1 Y 8 = nI (z.2.2 - 1) → NowR M1 (Y + 1) (fun j => if j = 1 ∨ j = 5 ∨ (18 ≤ j ∧ j < i) then z.2.1 (z.2.2 - 1) j else z.1 j) → V x 0 0 T M1 Ml 59 [some (.ref Y), some (.int (nI (54 * (z.2.2 - 1)))), some (.int (nI i))] [] := by
      intro n
      induction n with
      | zero => intro i M1 hN9 h18 hi f1 f2 hu9 f3; exact absurd hN9 (by omega)
      | succ n ih =>
        intro i M1 hN9 h18 hi f1 f2 hu9 f3
        have hq9 : i < 54 → M1 (Y + 5) (54 * (z.2.2 - 1) + i) = eN i (z.2.1 (z.2.2 - 1) i) := fun h => by rw [f1 _ (by omega) (by omega)]; exact d3 _ (by omega) i h
        refine jv_iload_n h dX12_undo_59 rfl ?_
        refine jv_bipush (nI 54) h dX12_undo_60 (by decide) ?_
        refine jv_nge 85 h dX12_undo_62 (by decide) (by repeat (with_reducible first | exact NF_nI _ | assumption | refine NF_add ?_ ?_ | refine NF_mul ?_ ?_)) (by repeat (with_reducible first | exact NF_nI _ | assumption | refine NF_add ?_ ?_ | refine NF_mul ?_ ?_)) ⟨by omega, by omega⟩ (fun c62 => ?_) (fun c62 => ?_)
        · refine jv_aload_n h dX12_undo_85 rfl ?_
          refine jv_gv 8 h dX12_undo_86 cf_11 (by decide) gw_908 (by assumption) (by exact hu9) ?_
          exact jv_iret h hr dX12_undo_89 ⟨_, rfl, rfl, by
    have hsp : sp_undo z = (nI (z.2.2 - 1), (unS z.1 (z.2.1 (z.2.2 - 1)), z.2.1, z.2.2 - 1)) := by unfold sp_undo; rw [if_neg c4]
    rw [hsp]
    try dsimp only
    refine ⟨rfl, rfl, ⟨fun a h1 h2 h3 => f1 a h1 h2, f2⟩, f3.cg (fun k hk => ?_), hu9, by omega, fun j hj k hk => by rw [f1 _ (by omega) (by omega)]; exact d3 j (by omega) k hk⟩
    unfold unS
    try dsimp only
    by_cases hc : k = 1 ∨ k = 5 ∨ 18 ≤ k
    · rw [if_pos hc, if_pos (by omega)]
    · rw [if_neg hc, if_neg (by omega)]⟩
        · replace hq9 := hq9 (by omega)
          refine jv_aload_n h dX12_undo_65 rfl ?_
          refine jv_gr 0 h dX12_undo_66 cf_11 (by decide) gw_900 (by assumption) (by assumption) ?_
          refine jv_iload_n h dX12_undo_69 rfl ?_
          refine jv_aload_n h dX12_undo_70 rfl ?_
          refine jv_gr 7 h dX12_undo_71 cf_11 (by decide) gw_907 (by assumption) (by assumption) ?_
          refine jv_iload_n h dX12_undo_74 rfl ?_
          refine jv_iload_n h dX12_undo_75 rfl ?_
          first | refine jv_iaddN h dX12_undo_76 (by repeat (with_reducible first | exact NF_nI _ | assumption | refine NF_add ?_ ?_ | refine NF_mul ?_ ?_)) (by repeat (with_reducible first | exact NF_nI _ | assumption | refine NF_add ?_ ?_ | refine NF_mul ?_ ?_)) ?_ | refine jv_iadd h dX12_undo_76 ?_
          refine jv_iav h dX12_undo_77 (by assumption) (by repeat (with_reducible first | exact NF_nI _ | assumption | refine NF_add ?_ ?_ | refine NF_mul ?_ ?_)) ⟨by omega, by decide⟩ (by exact hq9) ?_
          refine jv_iast h dX12_undo_78 (by assumption) (by repeat (with_reducible first | exact NF_nI _ | assumption | refine NF_add ?_ ?_ | refine NF_mul ?_ ?_)) ⟨by omega, by decide⟩ ?_
          refine jv_iinc (nI (i + 1)) h dX12_undo_79 rfl (lt_nl hnl (by decide)) (nI_inc i) ?_
          refine jv_goto 59 h dX12_undo_82 (by decide) ?_
          exact ih (i + 1) _ (by omega) (by omega) (by omega) (fun a h1 h2 => by rw [upd2_row _ _ h2, f1 a h1 h2]) (fun q hq => by rw [upd2_row _ _ (by omega), f2 q hq]) (by rw [upd2_row _ _ (by omega)]; exact hu9) ((f3.set (j := i) (w := z.2.1 (z.2.2 - 1) i) rfl).cg (fun k hk => by
            try dsimp only
            by_cases hki : k = i
            · rw [hki, setS_s, if_pos (by omega)]
            · rw [setS_o hki]
              by_cases hc : k = 1 ∨ k = 5 ∨ (18 ≤ k ∧ k < i)
              · rw [if_pos hc, if_pos (by omega)]
              · rw [if_neg hc, if_neg (by omega)]))
    refine hl59 37 18 _ (by omega) (by omega) (by omega) (fun a h1 h2 => by rw [upd2_row _ _ h2, upd2_row _ _ h2, upd2_row _ _ h1]) (fun q hq => by rw [upd2_row _ _ (by omega), upd2_row _ _ (by omega), upd2_ne _ _ (by omega)]) (by rw [upd2_row _ _ (by omega), upd2_row _ _ (by omega), upd2_same]) ?_
    have h0 : NowR (upd2 Mi Y 8 (nI (z.2.2 - 1))) (Y + 1) z.1 := hN.fr (upd2_row _ _ (by omega))
    refine ((h0.set (j := 1) (w := z.2.1 (z.2.2 - 1) 1) rfl).set (j := 5) (w := z.2.1 (z.2.2 - 1) 5) rfl).cg (fun k hk => ?_)
    try dsimp only
    by_cases h5 : k = 5
    · rw [h5, setS_s]; rfl
    · rw [setS_o h5]
      by_cases h1 : k = 1
      · rw [h1, setS_s]; rfl
      · rw [setS_o h1, if_neg (by omega)]
  · refine jv_bipush (-4) h dX12_undo_7 (by decide) ?_
    exact jv_iret h hr dX12_undo_9 ⟨_, rfl, rfl, by
    have e : sp_undo z = (-4, z) := (by unfold sp_undo; rw [if_pos c4])
    rw [e]
    exact ⟨rfl, rfl, MFr.rf _ _, hN, hD⟩⟩
set_option maxHeartbeats 4000000 in
set_option maxRecDepth 100000 in
theorem cm_image {g : GT} {T : TT} {Mi : MI} {Ml : ML} {Y : Nat} {z : SU} (hM : ModS g T Y) (hN : NowR Mi (Y + 1) z.1) (hD : UndR Mi Y z.2.1 z.2.2) (hZ : WFU z)  : Ct g yX12_image cX12_image 2 (some .int) 1 0 0 [.ref Y] T Mi Ml (Gi T (fun rv Mi' Ml' => rv = nI 1 ∧ Ml' = Ml ∧ (∀ a, a ≠ Y → a ≠ Y + 6 → Mi' a = Mi a) ∧ (∀ q, q ≠ 10 → q ≠ 11 → Mi' Y q = Mi Y q) ∧ MKep Mi' Y z.1 z.2.1 z.2.2 true)) := by
  refine Ct.of' (plainFor_of_name (by decide +kernel)) (by exact Nat.le_of_ble_eq_true rfl) ?_
  intro x hg hR h hr hnm hnl
  subst hg
  obtain ⟨hY, ⟨r0, a0⟩, ⟨r1, a1⟩, ⟨r5, a5⟩, ⟨r6, a6⟩, ⟨r7, a7⟩, ⟨r9, a9⟩, ⟨r12, a12⟩, ⟨r13, a13⟩, ⟨r14, a14⟩, ⟨r15, a15⟩, r16, a16⟩ := id hM
  have hW := hZ.1
  obtain ⟨d1, d2, d3⟩ := id hD
  obtain ⟨w0, w1, w2, w3, w4, w5, w6, w7⟩ := id hW
  refine jv_iconst (nI 0) h dX12_image_0 (by decide) ?_
  refine jv_istore_n h dX12_image_1 (lt_nl hnl (by decide)) ?_
  have hl2 : ∀ (n : Nat) (i : Nat) (M1 : MI), 54 - i < n → i ≤ 54 → (∀ a, a ≠ Y + 6 → M1 a = Mi a) → (∀ k, k < i → M1 (Y + 6) k = eN k (z.1 k)) → V x 0 0 T M1 Ml 2 [some (.ref Y), some (.int (nI i))] [] := by
    intro n
    induction n with
    | zero => intro i M1 hN9 hi f1 f2; exact absurd hN9 (by omega)
    | succ n ih =>
      intro i M1 hN9 hi f1 f2
      refine jv_iload_n h dX12_image_2 rfl ?_
      refine jv_bipush (nI 54) h dX12_image_3 (by decide) ?_
      refine jv_nge 26 h dX12_image_5 (by decide) (by repeat (with_reducible first | exact NF_nI _ | assumption | refine NF_add ?_ ?_ | refine NF_mul ?_ ?_)) (by repeat (with_reducible first | exact NF_nI _ | assumption | refine NF_add ?_ ?_ | refine NF_mul ?_ ?_)) ⟨by omega, by omega⟩ (fun c5 => ?_) (fun c5 => ?_)
      · refine jv_iconst (nI 0) h dX12_image_26 (by decide) ?_
        refine jv_istore_n h dX12_image_27 (lt_nl hnl (by decide)) ?_
        have hl28 : ∀ (n : Nat) (i : Nat) (M2 : MI), 432 - i < n → i ≤ 432 → (∀ a, a ≠ Y + 6 → M2 a = Mi a) → (∀ k, k < 54 → M2 (Y + 6) k = eN k (z.1 k)) → (∀ k, k < i → M2 (Y + 6) (54 + k) = Mi (Y + 5) k) → V x 0 0 T M2 Ml 28 [some (.ref Y), some (.int (nI i))] [] := by
          intro n
          induction n with
          | zero => intro i M2 hN9 hi k1 k2 k3; exact absurd hN9 (by omega)
          | succ n ih =>
            intro i M2 hN9 hi k1 k2 k3
            have hu9 : M2 Y 8 = nI z.2.2 := by rw [k1 Y (by omega)]; exact d1
            have e5 : M2 (Y + 5) = Mi (Y + 5) := k1 _ (by omega)
            refine jv_iload_n h dX12_image_28 rfl ?_
            refine jv_sipush (nI 432) h dX12_image_29 (by decide) ?_
            refine jv_nge 56 h dX12_image_32 (by decide) (by repeat (with_reducible first | exact NF_nI _ | assumption | refine NF_add ?_ ?_ | refine NF_mul ?_ ?_)) (by repeat (with_reducible first | exact NF_nI _ | assumption | refine NF_add ?_ ?_ | refine NF_mul ?_ ?_)) ⟨by omega, by omega⟩ (fun c32 => ?_) (fun c32 => ?_)
            · refine jv_aload_n h dX12_image_56 rfl ?_
              refine jv_aload_n h dX12_image_57 rfl ?_
              refine jv_gv 8 h dX12_image_58 cf_11 (by decide) gw_908 (by assumption) (by exact hu9) ?_
              refine jv_pi 10 h dX12_image_61 cf_11 (by decide) gw_910 (by assumption) rfl rfl rfl ?_
              refine jv_aload_n h dX12_image_64 rfl ?_
              refine jv_iconst (nI 1) h dX12_image_65 (by decide) ?_
              refine jv_pi 11 h dX12_image_66 cf_11 (by decide) gw_911 (by assumption) rfl rfl rfl ?_
              refine jv_iconst (nI 1) h dX12_image_69 (by decide) ?_
              exact jv_iret h hr dX12_image_70 ⟨_, rfl, rfl, rfl, rfl, fun a h1 h2 => by rw [upd2_row _ _ h1, upd2_row _ _ h1, k1 a h2], fun q h1 h2 => by rw [upd2_ne _ _ (by omega), upd2_ne _ _ (by omega), k1 Y (by omega)], by rw [upd2_same]; rfl, fun _ => ⟨by rw [upd2_ne _ _ (by omega), upd2_same], d2, fun k hk => by rw [upd2_row _ _ (by omega), upd2_row _ _ (by omega)]; exact k2 k hk, fun j hj k hk => by rw [upd2_row _ _ (by omega), upd2_row _ _ (by omega), k3 _ (by omega)]; exact d3 j hj k hk⟩⟩
            · refine jv_aload_n h dX12_image_35 rfl ?_
              refine jv_gr 9 h dX12_image_36 cf_11 (by decide) gw_909 (by assumption) (by assumption) ?_
              refine jv_bipush (nI 54) h dX12_image_39 (by decide) ?_
              refine jv_iload_n h dX12_image_41 rfl ?_
              first | refine jv_iaddN h dX12_image_42 (by repeat (with_reducible first | exact NF_nI _ | assumption | refine NF_add ?_ ?_ | refine NF_mul ?_ ?_)) (by repeat (with_reducible first | exact NF_nI _ | assumption | refine NF_add ?_ ?_ | refine NF_mul ?_ ?_)) ?_ | refine jv_iadd h dX12_image_42 ?_
              refine jv_aload_n h dX12_image_43 rfl ?_
              refine jv_gr 7 h dX12_image_44 cf_11 (by decide) gw_907 (by assumption) (by assumption) ?_
              refine jv_iload_n h dX12_image_47 rfl ?_
              refine jv_iav h dX12_image_48 (by assumption) (by repeat (with_reducible first | exact NF_nI _ | assumption | refine NF_add ?_ ?_ | refine NF_mul ?_ ?_)) ⟨by omega, by decide⟩ (by rfl) ?_
              refine jv_iast h dX12_image_49 (by assumption) (by repeat (with_reducible first | exact NF_nI _ | assumption | refine NF_add ?_ ?_ | refine NF_mul ?_ ?_)) ⟨by omega, by decide⟩ ?_
              refine jv_iinc (nI (i + 1)) h dX12_image_50 rfl (lt_nl hnl (by decide)) (nI_inc i) ?_
              refine jv_goto 28 h dX12_image_53 (by decide) ?_
              exact ih (i + 1) _ (by omega) (by omega) (fun a ha => by rw [upd2_row _ _ ha, k1 a ha]) (fun k hk => by rw [upd2_ne _ _ (by omega)]; exact k2 k hk) (fun k hk => by
                by_cases hki : k = i
                · rw [hki, upd2_same, e5]
                · rw [upd2_ne _ _ (by omega)]; exact k3 k (by omega))
        exact hl28 433 0 _ (by omega) (by omega) f1 (fun k hk => f2 k (by omega)) (fun k hk => absurd hk (by omega))
      · have hn9 : M1 (Y + 1) i = eN i (z.1 i) := by rw [f1 _ (by omega)]; exact hN i (by omega)
        refine jv_aload_n h dX12_image_8 rfl ?_
        refine jv_gr 9 h dX12_image_9 cf_11 (by decide) gw_909 (by assumption) (by assumption) ?_
        refine jv_iload_n h dX12_image_12 rfl ?_
        refine jv_aload_n h dX12_image_13 rfl ?_
        refine jv_gr 0 h dX12_image_14 cf_11 (by decide) gw_900 (by assumption) (by assumption) ?_
        refine jv_iload_n h dX12_image_17 rfl ?_
        refine jv_iav h dX12_image_18 (by assumption) (by repeat (with_reducible first | exact NF_nI _ | assumption | refine NF_add ?_ ?_ | refine NF_mul ?_ ?_)) ⟨by omega, by decide⟩ (by exact hn9) ?_
        refine jv_iast h dX12_image_19 (by assumption) (by repeat (with_reducible first | exact NF_nI _ | assumption | refine NF_add ?_ ?_ | refine NF_mul ?_ ?_)) ⟨by omega, by decide⟩ ?_
        refine jv_iinc (nI (i + 1)) h dX12_image_20 rfl (lt_nl hnl (by decide)) (nI_inc i) ?_
        refine jv_goto 2 h dX12_image_23 (by decide) ?_
        exact ih (i + 1) _ (by omega) (by omega) (fun a ha => by rw [upd2_row _ _ ha, f1 a ha]) (fun k hk => by
          by_cases hki : k = i
          · rw [hki, upd2_same]
          · rw [upd2_ne _ _ (by omega)]; exact f2 k (by omega))
  exact hl2 55 0 _ (by omega) (by omega) (fun a _ => rfl) (fun k hk => absurd hk (by omega))
set_option maxHeartbeats 4000000 in
set_option maxRecDepth 100000 in
theorem cm_restore {g : GT} {T : TT} {Mi : MI} {Ml : ML} {Y ku : Nat} {kS : Nat → Nat} {kU : Nat → Nat → Nat} {ik : Bool} (hM : ModS g T Y) (hK : MKep Mi Y kS kU ku ik) : Ct g yX12_restore cX12_restore 2 (some .int) 1 0 0 [.ref Y] T Mi Ml (Gi T (fun rv Mi' Ml' => Ml' = Ml ∧ (ik = false → rv = -4 ∧ Mi' = Mi) ∧ (ik = true → rv = nI 1 ∧ MFr Mi Mi' Y ∧ NowR Mi' (Y + 1) kS ∧ UndR Mi' Y kU ku))) := by
  refine Ct.of' (plainFor_of_name (by decide +kernel)) (by exact Nat.le_of_ble_eq_true rfl) ?_
  intro x hg hR h hr hnm hnl
  subst hg
  obtain ⟨hY, ⟨r0, a0⟩, ⟨r1, a1⟩, ⟨r5, a5⟩, ⟨r6, a6⟩, ⟨r7, a7⟩, ⟨r9, a9⟩, ⟨r12, a12⟩, ⟨r13, a13⟩, ⟨r14, a14⟩, ⟨r15, a15⟩, r16, a16⟩ := id hM
  obtain ⟨k1, k2⟩ := id hK
  refine jv_aload_n h dX12_restore_0 rfl ?_
  refine jv_gv 11 h dX12_restore_1 cf_11 (by decide) gw_911 (by assumption) (by first | assumption) ?_
  refine jv_bne 10 h dX12_restore_4 (by decide) (fun c4 => ?_) (fun c4 => ?_)
  · obtain ⟨e1, e2, e3, e4⟩ := k2 c4
    refine jv_iconst (nI 0) h dX12_restore_10 (by decide) ?_
    refine jv_istore_n h dX12_restore_11 (lt_nl hnl (by decide)) ?_
    have hl12 : ∀ (n : Nat) (i : Nat) (M1 : MI), 54 - i < n → i ≤ 54 → (∀ a, a ≠ Y + 1 → M1 a = Mi a) → (∀ k, k < i → M1 (Y + 1) k = eN k (kS k)) → V x 0 0 T M1 Ml 12 [some (.ref Y), some (.int (nI i))] [] := by
      intro n
      induction n with
      | zero => intro i M1 hN9 hi f1 f2; exact absurd hN9 (by omega)
      | succ n ih =>
        intro i M1 hN9 hi f1 f2
        refine jv_iload_n h dX12_restore_12 rfl ?_
        refine jv_bipush (nI 54) h dX12_restore_13 (by decide) ?_
        refine jv_nge 36 h dX12_restore_15 (by decide) (by repeat (with_reducible first | exact NF_nI _ | assumption | refine NF_add ?_ ?_ | refine NF_mul ?_ ?_)) (by repeat (with_reducible first | exact NF_nI _ | assumption | refine NF_add ?_ ?_ | refine NF_mul ?_ ?_)) ⟨by omega, by omega⟩ (fun c15 => ?_) (fun c15 => ?_)
        · refine jv_iconst (nI 0) h dX12_restore_36 (by decide) ?_
          refine jv_istore_n h dX12_restore_37 (lt_nl hnl (by decide)) ?_
          have hl38 : ∀ (n : Nat) (i : Nat) (M2 : MI), 432 - i < n → i ≤ 432 → (∀ a, a ≠ Y + 1 → a ≠ Y + 5 → M2 a = Mi a) → (∀ k, k < 54 → M2 (Y + 1) k = eN k (kS k)) → (∀ k, k < i → M2 (Y + 5) k = Mi (Y + 6) (54 + k)) → V x 0 0 T M2 Ml 38 [some (.ref Y), some (.int (nI i))] [] := by
            intro n
            induction n with
            | zero => intro i M2 hN9 hi j1 j2 j3; exact absurd hN9 (by omega)
            | succ n ih =>
              intro i M2 hN9 hi j1 j2 j3
              have hu9 : M2 Y 10 = nI ku := by rw [j1 Y (by omega) (by omega)]; exact e1
              have e6 : M2 (Y + 6) = Mi (Y + 6) := j1 _ (by omega) (by omega)
              refine jv_iload_n h dX12_restore_38 rfl ?_
              refine jv_sipush (nI 432) h dX12_restore_39 (by decide) ?_
              refine jv_nge 66 h dX12_restore_42 (by decide) (by repeat (with_reducible first | exact NF_nI _ | assumption | refine NF_add ?_ ?_ | refine NF_mul ?_ ?_)) (by repeat (with_reducible first | exact NF_nI _ | assumption | refine NF_add ?_ ?_ | refine NF_mul ?_ ?_)) ⟨by omega, by omega⟩ (fun c42 => ?_) (fun c42 => ?_)
              · refine jv_aload_n h dX12_restore_66 rfl ?_
                refine jv_aload_n h dX12_restore_67 rfl ?_
                refine jv_gv 10 h dX12_restore_68 cf_11 (by decide) gw_910 (by assumption) (by exact hu9) ?_
                refine jv_pi 8 h dX12_restore_71 cf_11 (by decide) gw_908 (by assumption) rfl rfl rfl ?_
                refine jv_iconst (nI 1) h dX12_restore_74 (by decide) ?_
                exact jv_iret h hr dX12_restore_75 ⟨_, rfl, rfl, rfl, (fun q => by rw [c4] at q; cases q), fun _ => ⟨rfl, ⟨fun a h1 h2 h3 => by rw [upd2_row _ _ h1, j1 a h2 h3], fun q hq => by rw [upd2_ne _ _ (by omega), j1 Y (by omega) (by omega)]⟩, (fun k hk => by rw [upd2_row _ _ (by omega)]; exact j2 k hk), by rw [upd2_same], e2, fun j hj k hk => by rw [upd2_row _ _ (by omega), j3 _ (by omega)]; exact e4 j hj k hk⟩⟩
              · refine jv_aload_n h dX12_restore_45 rfl ?_
                refine jv_gr 7 h dX12_restore_46 cf_11 (by decide) gw_907 (by assumption) (by assumption) ?_
                refine jv_iload_n h dX12_restore_49 rfl ?_
                refine jv_aload_n h dX12_restore_50 rfl ?_
                refine jv_gr 9 h dX12_restore_51 cf_11 (by decide) gw_909 (by assumption) (by assumption) ?_
                refine jv_bipush (nI 54) h dX12_restore_54 (by decide) ?_
                refine jv_iload_n h dX12_restore_56 rfl ?_
                first | refine jv_iaddN h dX12_restore_57 (by repeat (with_reducible first | exact NF_nI _ | assumption | refine NF_add ?_ ?_ | refine NF_mul ?_ ?_)) (by repeat (with_reducible first | exact NF_nI _ | assumption | refine NF_add ?_ ?_ | refine NF_mul ?_ ?_)) ?_ | refine jv_iadd h dX12_restore_57 ?_
                refine jv_iav h dX12_restore_58 (by assumption) (by repeat (with_reducible first | exact NF_nI _ | assumption | refine NF_add ?_ ?_ | refine NF_mul ?_ ?_)) ⟨by omega, by decide⟩ (by rfl) ?_
                refine jv_iast h dX12_restore_59 (by assumption) (by repeat (with_reducible first | exact NF_nI _ | assumption | refine NF_add ?_ ?_ | refine NF_mul ?_ ?_)) ⟨by omega, by decide⟩ ?_
                refine jv_iinc (nI (i + 1)) h dX12_restore_60 rfl (lt_nl hnl (by decide)) (nI_inc i) ?_
                refine jv_goto 38 h dX12_restore_63 (by decide) ?_
                exact ih (i + 1) _ (by omega) (by omega) (fun a h1 h2 => by rw [upd2_row _ _ h2, j1 a h1 h2]) (fun k hk => by rw [upd2_row _ _ (by omega)]; exact j2 k hk) (fun k hk => by
                  by_cases hki : k = i
                  · rw [hki, upd2_same, e6]
                  · rw [upd2_ne _ _ (by omega)]; exact j3 k (by omega))
          exact hl38 433 0 _ (by omega) (by omega) (fun a h1 h2 => f1 a h1) (fun k hk => f2 k (by omega)) (fun k hk => absurd hk (by omega))
        · have hn9 : M1 (Y + 6) i = eN i (kS i) := by rw [f1 _ (by omega)]; exact e3 i (by omega)
          refine jv_aload_n h dX12_restore_18 rfl ?_
          refine jv_gr 0 h dX12_restore_19 cf_11 (by decide) gw_900 (by assumption) (by assumption) ?_
          refine jv_iload_n h dX12_restore_22 rfl ?_
          refine jv_aload_n h dX12_restore_23 rfl ?_
          refine jv_gr 9 h dX12_restore_24 cf_11 (by decide) gw_909 (by assumption) (by assumption) ?_
          refine jv_iload_n h dX12_restore_27 rfl ?_
          refine jv_iav h dX12_restore_28 (by assumption) (by repeat (with_reducible first | exact NF_nI _ | assumption | refine NF_add ?_ ?_ | refine NF_mul ?_ ?_)) ⟨by omega, by decide⟩ (by exact hn9) ?_
          refine jv_iast h dX12_restore_29 (by assumption) (by repeat (with_reducible first | exact NF_nI _ | assumption | refine NF_add ?_ ?_ | refine NF_mul ?_ ?_)) ⟨by omega, by decide⟩ ?_
          refine jv_iinc (nI (i + 1)) h dX12_restore_30 rfl (lt_nl hnl (by decide)) (nI_inc i) ?_
          refine jv_goto 12 h dX12_restore_33 (by decide) ?_
          exact ih (i + 1) _ (by omega) (by omega) (fun a ha => by rw [upd2_row _ _ ha, f1 a ha]) (fun k hk => by
            by_cases hki : k = i
            · rw [hki, upd2_same]
            · rw [upd2_ne _ _ (by omega)]; exact f2 k (by omega))
    exact hl12 55 0 _ (by omega) (by omega) (fun a _ => rfl) (fun k hk => absurd hk (by omega))
  · refine jv_bipush (-4) h dX12_restore_7 (by decide) ?_
    exact jv_iret h hr dX12_restore_9 ⟨_, rfl, rfl, rfl, (fun _ => ⟨rfl, rfl⟩), fun q => by rw [c4] at q; cases q⟩
