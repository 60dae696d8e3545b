set_option maxHeartbeats 4000000 in
set_option maxRecDepth 100000 in
theorem cm_type {g : GT} {T : TT} {Mi : MI} {Ml : ML} {Y ln : Nat} {t : Nat → Nat} (hM : ModS g T Y) (hT : MTR Mi Y t ln) (hA : TA t ln) (v : Int32) : Ct g yX12_type cX12_type 2 (some .int) 2 0 0 [.ref Y, .int v] T Mi Ml (Gi T (fun rv Mi' Ml' => rv = (sp_type t ln v).1 ∧ Ml' = Ml ∧ (∀ a, a ≠ Y → a ≠ Y + 2 → Mi' a = Mi a) ∧ (∀ q, q ≠ 2 → Mi' Y q = Mi Y q) ∧ MTR Mi' Y (sp_type t ln v).2.1 (sp_type t ln v).2.2)) := by
  refine Ct.of' (plainFor_of_name (by decide +kernel)) (by exact Nat.le_of_ble_eq_true rfl) ?_
  intro x hg hR h hr hnm hnl
  subst hg
  obtain ⟨hY, ⟨r0, a0⟩, ⟨r1, a1⟩, ⟨r5, a5⟩, ⟨r6, a6⟩, ⟨r7, a7⟩, ⟨r9, a9⟩, ⟨r12, a12⟩, ⟨r13, a13⟩, ⟨r14, a14⟩, ⟨r15, a15⟩, r16, a16⟩ := id hM
  obtain ⟨t1, t2⟩ := id hT
  obtain ⟨n1, n2⟩ := id hA
  refine jv_iload_n h dX12_type_0 rfl ?_
  refine jv_i2l h dX12_type_1 ?_
  refine jv_ldc2 h dX12_type_2 gw_1041 ?_
  refine jv_ldc2 h dX12_type_5 gw_1042 ?_
  refine jv_SRi [_, _, _] h dX12_type_8 cw_X12_44 (c_mwithin (m := 32) (n := 127) _ (by decide) (by decide)) (by decide) rfl rfl (Nat.le_of_ble_eq_true rfl) ⟨Nat.zero_le _, Nat.zero_le _⟩ ?_
  refine jv_bne 16 h dX12_type_11 (by decide) (fun c11 => ?_) (fun c11 => ?_)
  · obtain ⟨c9, rfl, hc1, hc2⟩ := isB_t c11
    have hsp : sp_type t ln (nI c9) = (if ln < 60 then (nI (ln + 1), (fun k => if k = ln then c9 else t k), ln + 1) else (-3, t, ln)) := (by unfold sp_type; rw [if_pos c11, pn_nI (by omega)])
    refine jv_aload_n h dX12_type_16 rfl ?_
    refine jv_gv 2 h dX12_type_17 cf_11 (by decide) gw_902 (by assumption) (by assumption) ?_
    refine jv_bipush (nI 60) h dX12_type_20 (by decide) ?_
    refine jv_nne 28 h dX12_type_22 (by decide) (by repeat (with_reducible first | exact NF_nI _ | assumption | refine NF_add ?_ ?_ | refine NF_mul ?_ ?_)) (by repeat (with_reducible first | exact NF_nI _ | assumption | refine NF_add ?_ ?_ | refine NF_mul ?_ ?_)) ⟨by omega, by omega⟩ (fun c22 => ?_) (fun c22 => ?_)
    · refine jv_aload_n h dX12_type_28 rfl ?_
      refine jv_gr 1 h dX12_type_29 cf_11 (by decide) gw_901 (by assumption) (by assumption) ?_
      refine jv_aload_n h dX12_type_32 rfl ?_
      refine jv_gv 2 h dX12_type_33 cf_11 (by decide) gw_902 (by assumption) (by assumption) ?_
      refine jv_iload_n h dX12_type_36 rfl ?_
      refine jv_iast h dX12_type_37 (by assumption) (by repeat (with_reducible first | exact NF_nI _ | assumption | refine NF_add ?_ ?_ | refine NF_mul ?_ ?_)) ⟨by omega, by decide⟩ ?_
      refine jv_aload_n h dX12_type_38 rfl ?_
      refine jv_dup h dX12_type_39 rfl ?_
      refine jv_gv 2 h dX12_type_40 cf_11 (by decide) gw_902 (by assumption) (by exact (congrFun (upd2_row _ _ (show Y ≠ Y + 2 by omega)) 2).trans t1) ?_
      refine jv_iconst (nI 1) h dX12_type_43 (by decide) ?_
      first | refine jv_iaddN h dX12_type_44 (by repeat (with_reducible first | exact NF_nI _ | assumption | refine NF_add ?_ ?_ | refine NF_mul ?_ ?_)) (by repeat (with_reducible first | exact NF_nI _ | assumption | refine NF_add ?_ ?_ | refine NF_mul ?_ ?_)) ?_ | refine jv_iadd h dX12_type_44 ?_
      refine jv_pi 2 h dX12_type_45 cf_11 (by decide) gw_902 (by assumption) rfl rfl rfl ?_
      refine jv_aload_n h dX12_type_48 rfl ?_
      refine jv_gv 2 h dX12_type_49 cf_11 (by decide) gw_902 (by assumption) (by exact upd2_same _ _ _ _) ?_
      exact jv_iret h hr dX12_type_52 ⟨_, rfl, rfl, by
    rw [hsp, if_pos (by omega)]
    refine ⟨rfl, rfl, fun a h1 h2 => by rw [upd2_row _ _ h1, upd2_row _ _ h2], fun q hq => by rw [upd2_ne _ _ (by omega), upd2_row _ _ (by omega)], upd2_same _ _ _ _, fun k hk => ?_⟩
    rw [upd2_row _ _ (by omega)]
    by_cases hkl : k = ln
    · rw [hkl, upd2_same]; try dsimp only
      rw [if_pos rfl]
    · rw [upd2_ne _ _ (by omega)]; try dsimp only
      rw [if_neg hkl]
      have hk' : k < ln + 1 := hk
      exact t2 k (by omega)⟩
    · refine jv_bipush (-3) h dX12_type_25 (by decide) ?_
      exact jv_iret h hr dX12_type_27 ⟨_, rfl, rfl, by
    rw [hsp, if_neg (by omega)]
    exact ⟨rfl, rfl, fun _ _ _ => rfl, fun _ _ => rfl, hT⟩⟩
  · refine jv_iconst (-1) h dX12_type_14 (by decide) ?_
    exact jv_iret h hr dX12_type_15 ⟨_, rfl, rfl, by
    have e : sp_type t ln v = (-1, t, ln) := (by unfold sp_type; rw [if_neg (by rw [c11]; decide)])
    rw [e]
    exact ⟨rfl, rfl, fun _ _ _ => rfl, fun _ _ => rfl, hT⟩⟩
set_option maxHeartbeats 4000000 in
set_option maxRecDepth 100000 in
theorem cm_here {g : GT} {T : TT} {Mi : MI} {Ml : ML} {Y ln p : Nat} {t : Nat → Nat} {fb : Bool} (hM : ModS g T Y) (hT : MTR Mi Y t ln) (hA : TA t ln) (hc : MCu Mi Y p fb) (hp : p ≤ ln)  : Ct g yX12_here cX12_here 1 (some .int) 1 0 0 [.ref Y] T Mi Ml (Gi T (fun rv Mi' Ml' => rv = nI (heN t ln p) ∧ Ml' = Ml ∧ FrC Mi Mi' Y ∧ MCu Mi' Y (sk t ln p) fb)) := by
  refine Ct.of' (plainFor_of_name (by decide +kernel)) (by exact Nat.le_of_ble_eq_true rfl) ?_
  intro x hg hR h hr hnm hnl
  subst hg
  obtain ⟨hY, ⟨r0, a0⟩, ⟨r1, a1⟩, ⟨r5, a5⟩, ⟨r6, a6⟩, ⟨r7, a7⟩, ⟨r9, a9⟩, ⟨r12, a12⟩, ⟨r13, a13⟩, ⟨r14, a14⟩, ⟨r15, a15⟩, r16, a16⟩ := id hM
  obtain ⟨t1, t2⟩ := id hT
  obtain ⟨u1, u2⟩ := id hc
  obtain ⟨n1, n2⟩ := id hA
  have hl0 : ∀ (n : Nat) (p1 : Nat) (M1 : MI), ln - p1 < n → p1 ≤ ln → sk t ln p1 = sk t ln p → FrC Mi M1 Y → MCu M1 Y p1 fb → V x 0 0 T M1 Ml 0 [some (.ref Y)] [] := by
    intro n
    induction n with
    | zero => intro p1 M1 hN9 hp1 f1 f2 f3; exact absurd hN9 (by omega)
    | succ n ih =>
      intro p1 M1 hN9 hp1 f1 f2 f3
      obtain ⟨f4, f5⟩ := (hT.fr f2)
      obtain ⟨f6, f7⟩ := id f3
      refine jv_aload_n h dX12_here_0 rfl ?_
      refine jv_gv 3 h dX12_here_1 cf_11 (by decide) gw_903 (by assumption) (by assumption) ?_
      refine jv_aload_n h dX12_here_4 rfl ?_
      refine jv_gv 2 h dX12_here_5 cf_11 (by decide) gw_902 (by assumption) (by assumption) ?_
      refine jv_nge 38 h dX12_here_8 (by decide) (by repeat (with_reducible first | exact NF_nI _ | assumption | refine NF_add ?_ ?_ | refine NF_mul ?_ ?_)) (by repeat (with_reducible first | exact NF_nI _ | assumption | refine NF_add ?_ ?_ | refine NF_mul ?_ ?_)) ⟨by omega, by omega⟩ (fun c8 => ?_) (fun c8 => ?_)
      · refine jv_aload_n h dX12_here_38 rfl ?_
        refine jv_gv 3 h dX12_here_39 cf_11 (by decide) gw_903 (by assumption) (by assumption) ?_
        refine jv_aload_n h dX12_here_42 rfl ?_
        refine jv_gv 2 h dX12_here_43 cf_11 (by decide) gw_902 (by assumption) (by assumption) ?_
        refine jv_nge 61 h dX12_here_46 (by decide) (by repeat (with_reducible first | exact NF_nI _ | assumption | refine NF_add ?_ ?_ | refine NF_mul ?_ ?_)) (by repeat (with_reducible first | exact NF_nI _ | assumption | refine NF_add ?_ ?_ | refine NF_mul ?_ ?_)) ⟨by omega, by omega⟩ (fun c46 => ?_) (fun c46 => ?_)
        · refine jv_iconst (nI 0) h dX12_here_61 (by decide) ?_
          exact jv_iret h hr dX12_here_62 ⟨_, rfl, rfl, by
    have e : sk t ln p1 = p1 := (by first | exact sk_e (by assumption) | exact sk_n (by assumption) (by assumption) | exact absurd c46 (by omega))
    unfold heN
    rw [← f1, e]
    first | (rw [if_pos (by omega)]; done) | (rw [if_neg (by omega)]), rfl, f2, by
    have e : sk t ln p1 = p1 := (by first | exact sk_e (by assumption) | exact sk_n (by assumption) (by assumption) | exact absurd c46 (by omega))
    rw [← f1, e]; exact f3⟩
        · have f8 := f5 p1 (by omega)
          refine jv_aload_n h dX12_here_49 rfl ?_
          refine jv_gr 1 h dX12_here_50 cf_11 (by decide) gw_901 (by assumption) (by assumption) ?_
          refine jv_aload_n h dX12_here_53 rfl ?_
          refine jv_gv 3 h dX12_here_54 cf_11 (by decide) gw_903 (by assumption) (by assumption) ?_
          refine jv_iav h dX12_here_57 (by assumption) (by repeat (with_reducible first | exact NF_nI _ | assumption | refine NF_add ?_ ?_ | refine NF_mul ?_ ?_)) ⟨by omega, by decide⟩ (by assumption) ?_
          refine jv_goto 62 h dX12_here_58 (by decide) ?_
          exact jv_iret h hr dX12_here_62 ⟨_, rfl, rfl, by
    have e : sk t ln p1 = p1 := (by first | exact sk_e (by assumption) | exact sk_n (by assumption) (by assumption) | exact absurd c46 (by omega))
    unfold heN
    rw [← f1, e]
    first | (rw [if_pos (by omega)]; done) | (rw [if_neg (by omega)]), rfl, f2, by
    have e : sk t ln p1 = p1 := (by first | exact sk_e (by assumption) | exact sk_n (by assumption) (by assumption) | exact absurd c46 (by omega))
    rw [← f1, e]; exact f3⟩
      · have f8 := f5 p1 (by omega)
        have a3 := n2 p1 (by omega)
        refine jv_aload_n h dX12_here_11 rfl ?_
        refine jv_gr 1 h dX12_here_12 cf_11 (by decide) gw_901 (by assumption) (by assumption) ?_
        refine jv_aload_n h dX12_here_15 rfl ?_
        refine jv_gv 3 h dX12_here_16 cf_11 (by decide) gw_903 (by assumption) (by assumption) ?_
        refine jv_iav h dX12_here_19 (by assumption) (by repeat (with_reducible first | exact NF_nI _ | assumption | refine NF_add ?_ ?_ | refine NF_mul ?_ ?_)) ⟨by omega, by decide⟩ (by assumption) ?_
        refine jv_bipush (nI 32) h dX12_here_20 (by decide) ?_
        refine jv_nne 38 h dX12_here_22 (by decide) (by repeat (with_reducible first | exact NF_nI _ | assumption | refine NF_add ?_ ?_ | refine NF_mul ?_ ?_)) (by repeat (with_reducible first | exact NF_nI _ | assumption | refine NF_add ?_ ?_ | refine NF_mul ?_ ?_)) ⟨by omega, by omega⟩ (fun c22 => ?_) (fun c22 => ?_)
        · refine jv_aload_n h dX12_here_38 rfl ?_
          refine jv_gv 3 h dX12_here_39 cf_11 (by decide) gw_903 (by assumption) (by assumption) ?_
          refine jv_aload_n h dX12_here_42 rfl ?_
          refine jv_gv 2 h dX12_here_43 cf_11 (by decide) gw_902 (by assumption) (by assumption) ?_
          refine jv_nge 61 h dX12_here_46 (by decide) (by repeat (with_reducible first | exact NF_nI _ | assumption | refine NF_add ?_ ?_ | refine NF_mul ?_ ?_)) (by repeat (with_reducible first | exact NF_nI _ | assumption | refine NF_add ?_ ?_ | refine NF_mul ?_ ?_)) ⟨by omega, by omega⟩ (fun c46 => ?_) (fun c46 => ?_)
          · refine jv_iconst (nI 0) h dX12_here_61 (by decide) ?_
            exact jv_iret h hr dX12_here_62 ⟨_, rfl, rfl, by
    have e : sk t ln p1 = p1 := (by first | exact sk_e (by assumption) | exact sk_n (by assumption) (by assumption) | exact absurd c46 (by omega))
    unfold heN
    rw [← f1, e]
    first | (rw [if_pos (by omega)]; done) | (rw [if_neg (by omega)]), rfl, f2, by
    have e : sk t ln p1 = p1 := (by first | exact sk_e (by assumption) | exact sk_n (by assumption) (by assumption) | exact absurd c46 (by omega))
    rw [← f1, e]; exact f3⟩
          · have f8 := f5 p1 (by omega)
            refine jv_aload_n h dX12_here_49 rfl ?_
            refine jv_gr 1 h dX12_here_50 cf_11 (by decide) gw_901 (by assumption) (by assumption) ?_
            refine jv_aload_n h dX12_here_53 rfl ?_
            refine jv_gv 3 h dX12_here_54 cf_11 (by decide) gw_903 (by assumption) (by assumption) ?_
            refine jv_iav h dX12_here_57 (by assumption) (by repeat (with_reducible first | exact NF_nI _ | assumption | refine NF_add ?_ ?_ | refine NF_mul ?_ ?_)) ⟨by omega, by decide⟩ (by assumption) ?_
            refine jv_goto 62 h dX12_here_58 (by decide) ?_
            exact jv_iret h hr dX12_here_62 ⟨_, rfl, rfl, by
    have e : sk t ln p1 = p1 := (by first | exact sk_e (by assumption) | exact sk_n (by assumption) (by assumption) | exact absurd c46 (by omega))
    unfold heN
    rw [← f1, e]
    first | (rw [if_pos (by omega)]; done) | (rw [if_neg (by omega)]), rfl, f2, by
    have e : sk t ln p1 = p1 := (by first | exact sk_e (by assumption) | exact sk_n (by assumption) (by assumption) | exact absurd c46 (by omega))
    rw [← f1, e]; exact f3⟩
        · refine jv_aload_n h dX12_here_25 rfl ?_
          refine jv_dup h dX12_here_26 rfl ?_
          refine jv_gv 3 h dX12_here_27 cf_11 (by decide) gw_903 (by assumption) (by assumption) ?_
          refine jv_iconst (nI 1) h dX12_here_30 (by decide) ?_
          first | refine jv_iaddN h dX12_here_31 (by repeat (with_reducible first | exact NF_nI _ | assumption | refine NF_add ?_ ?_ | refine NF_mul ?_ ?_)) (by repeat (with_reducible first | exact NF_nI _ | assumption | refine NF_add ?_ ?_ | refine NF_mul ?_ ?_)) ?_ | refine jv_iadd h dX12_here_31 ?_
          refine jv_pi 3 h dX12_here_32 cf_11 (by decide) gw_903 (by assumption) rfl rfl rfl ?_
          refine jv_goto 0 h dX12_here_35 (by decide) ?_
          exact ih (p1 + 1) _ (by omega) (by omega) (by rw [← f1, sk_b c8 c22]) f2.p3 ⟨upd2_same _ _ _ _, by rw [upd2_ne _ _ (by omega)]; exact f7⟩
  exact hl0 (ln + 1) p _ (by omega) hp rfl (FrC.rf _ _) hc
set_option maxHeartbeats 4000000 in
set_option maxRecDepth 100000 in
theorem cm_must {g : GT} {T : TT} {Mi : MI} {Ml : ML} {Y : Nat} {fb b : Bool} (hM : ModS g T Y) (hf : Mi Y 4 = bI fb) : Ct g yX12_must cX12_must 2 none 1 0 0 [.ref Y, .int (bI b)] T Mi Ml (Gv T (fun Mi' Ml' => Ml' = Ml ∧ Mi' = upd2 Mi Y 4 (bI (fb || !b)))) := by
  refine Ct.of' (plainFor_of_name (by decide +kernel)) (by exact Nat.le_of_ble_eq_true rfl) ?_
  intro x hg hR h hr hnm hnl
  subst hg
  obtain ⟨hY, ⟨r0, a0⟩, ⟨r1, a1⟩, ⟨r5, a5⟩, ⟨r6, a6⟩, ⟨r7, a7⟩, ⟨r9, a9⟩, ⟨r12, a12⟩, ⟨r13, a13⟩, ⟨r14, a14⟩, ⟨r15, a15⟩, r16, a16⟩ := id hM
  refine jv_aload_n h dX12_must_0 rfl ?_
  refine jv_aload_n h dX12_must_1 rfl ?_
  refine jv_gv 4 h dX12_must_2 cf_11 (by decide) gw_904 (by assumption) (by assumption) ?_
  refine jv_bne 12 h dX12_must_5 (by decide) (fun c5 => ?_) (fun c5 => ?_)
  · refine jv_iconst (nI 1) h dX12_must_12 (by decide) ?_
    refine jv_goto 17 h dX12_must_13 (by decide) ?_
    refine jv_pi 4 h dX12_must_17 cf_11 (by decide) gw_904 (by assumption) rfl rfl rfl ?_
    exact jv_vret h hr dX12_must_20 ⟨rfl, rfl, rfl, by first | (rw [c5]; rfl) | (rw [c5, c9]; rfl)⟩
  · refine jv_iload_n h dX12_must_8 rfl ?_
    refine jv_bne 16 h dX12_must_9 (by decide) (fun c9 => ?_) (fun c9 => ?_)
    · refine jv_iconst (nI 0) h dX12_must_16 (by decide) ?_
      refine jv_pi 4 h dX12_must_17 cf_11 (by decide) gw_904 (by assumption) rfl rfl rfl ?_
      exact jv_vret h hr dX12_must_20 ⟨rfl, rfl, rfl, by first | (rw [c5]; rfl) | (rw [c5, c9]; rfl)⟩
    · refine jv_iconst (nI 1) h dX12_must_12 (by decide) ?_
      refine jv_goto 17 h dX12_must_13 (by decide) ?_
      refine jv_pi 4 h dX12_must_17 cf_11 (by decide) gw_904 (by assumption) rfl rfl rfl ?_
      exact jv_vret h hr dX12_must_20 ⟨rfl, rfl, rfl, by first | (rw [c5]; rfl) | (rw [c5, c9]; rfl)⟩
