set_option maxHeartbeats 4000000 in
set_option maxRecDepth 100000 in
theorem c_per_init {g : GT} {T : TT} {Mi : MI} {Ml : ML} {a : Nat} (hk : KD g T a 4) : Ct g yX5_init cX5_init 1 none 2 0 0 [.ref a] T Mi Ml (Pv (fun T' Mi' Ml' => T' = T ∧ Mi' = upd2 (upd2 Mi a 0 (nI 0)) a 4 (-1) ∧ Ml' = Ml)) := by
  refine Ct.of' (plainFor_of_name (by decide +kernel)) (by exact Nat.le_of_ble_eq_true rfl) ?_
  intro x hg hR h hr hnm hnl
  subst hg
  have nf0 : nf 0 = 3 := rfl
  have nf1 : nf 1 = 4 := rfl
  have nf2 : nf 2 = 2 := rfl
  have nf3 : nf 3 = 3 := rfl
  have nf4 : nf 4 = 6 := rfl
  have nf5 : nf 5 = 4 := rfl
  have nf6 : nf 6 = 3 := rfl
  have nf7 : nf 7 = 3 := rfl
  have nf8 : nf 8 = 6 := rfl
  have nf9 : nf 9 = 3 := rfl
  have nf10 : nf 10 = 10 := rfl
  have nf11 : nf 11 = 17 := rfl
  refine jv_aload_n h dX5_init_0 rfl ?_
  refine jv_obj h dX5_init_1 gw_81 (by decide) (Nat.le_of_ble_eq_true rfl) ?_
  refine jv_aload_n h dX5_init_4 rfl ?_
  refine jv_plain h dX5_init_5 gw_82 ?_
  refine jv_pe 0 h dX5_init_8 cf_4 (by decide) gw_84 (by assumption) rfl (by decide) rfl rfl ?_
  refine jv_aload_n h dX5_init_11 rfl ?_
  refine jv_iconst (-1) h dX5_init_12 (by decide) ?_
  refine jv_pi 4 h dX5_init_13 cf_4 (by decide) gw_97 (by assumption) rfl rfl rfl ?_
  exact jv_vret h hr dX5_init_16 ⟨rfl, rfl, rfl, rfl⟩
set_option maxHeartbeats 4000000 in
set_option maxRecDepth 100000 in
theorem c_blk_init {g : GT} {T : TT} {Mi : MI} {Ml : ML} {a : Nat} (hk : KD g T a 1) (hT : T.1 = a + 1) : Ct g yX1_init cX1_init 2 none 2 1 12 [.ref a] T Mi Ml (Pv (fun T' Mi' Ml' => NW T Mi Ml T' Mi' Ml' a 2 ∧ BlkS g T' a ∧ BlkR Mi' a S0)) := by
  refine Ct.of' (plainFor_of_name (by decide +kernel)) (by exact Nat.le_of_ble_eq_true rfl) ?_
  intro x hg hR h hr hnm hnl
  subst hg
  have nf0 : nf 0 = 3 := rfl
  have nf1 : nf 1 = 4 := rfl
  have nf2 : nf 2 = 2 := rfl
  have nf3 : nf 3 = 3 := rfl
  have nf4 : nf 4 = 6 := rfl
  have nf5 : nf 5 = 4 := rfl
  have nf6 : nf 6 = 3 := rfl
  have nf7 : nf 7 = 3 := rfl
  have nf8 : nf 8 = 6 := rfl
  have nf9 : nf 9 = 3 := rfl
  have nf10 : nf 10 = 10 := rfl
  have nf11 : nf 11 = 17 := rfl
  refine jv_aload_n h dX1_init_0 rfl ?_
  refine jv_obj h dX1_init_1 gw_42 (by decide) (Nat.le_of_ble_eq_true rfl) ?_
  refine jv_aload_n h dX1_init_4 rfl ?_
  refine jv_iconst (nI 3) h dX1_init_5 (by decide) ?_
  refine jv_pi 0 h dX1_init_6 cf_1 (by decide) gw_43 (by assumption) rfl rfl rfl ?_
  refine jv_aload_n h dX1_init_9 rfl ?_
  refine jv_bipush (nI 20) h dX1_init_10 (by decide) ?_
  refine jv_pi 1 h dX1_init_12 cf_1 (by decide) gw_48 (by assumption) rfl rfl rfl ?_
  refine jv_aload_n h dX1_init_15 rfl ?_
  refine jv_bipush (nI 12) h dX1_init_16 (by decide) ?_
  refine jv_pi 2 h dX1_init_18 cf_1 (by decide) gw_50 (by assumption) rfl rfl rfl ?_
  refine jv_aload_n h dX1_init_21 rfl ?_
  refine jv_bipush (nI 12) h dX1_init_22 (by decide) ?_
  refine jv_newi h dX1_init_24 (NF_nI _) (by decide) gw_68 (by rw [hR]; exact ⟨by show _ ≤ 1; omega, by show _ ≤ 12; omega⟩) ?_
  refine jv_pr 3 h dX1_init_26 cf_1 (by decide) gw_53 (hk.ex Ex.nw (by omega)) (Or.inr ⟨rfl, hnm, rfl⟩) rfl rfl ?_
  have ho : Ob x.1 T Mi Ml T (upd2 (upd2 (upd2 Mi a 0 (nI 3)) a 1 (nI 20)) a 2 (nI 12)) Ml a 1 1 := (Ob.start hk hT).mi (fun b hb => by rw [upd2_row _ _ (by omega), upd2_row _ _ (by omega), upd2_row _ _ (by omega)])
  obtain ⟨o9, e9, x9, m9, r9, q9⟩ := ho.sub (Nat.le_refl _) (Lo.ai (kd := 12) (n := 12) (r := fun _ => nI 0)) 3
  have a9 := AR.nw (T := T) (kd := 12) (n := 12) ho.gz
  rw [hT] at a9
  have ma := (m9 a (by omega)).1
  refine jv_widen (cs' := 1) (sl' := 12) (by omega) (by omega) ?_
  refine jv_abs (P := fun T9 M9 L9 => Ob x.1 T Mi Ml T9 M9 L9 a 1 2 ∧ AR x.1 T9 (a + 1) 12 12 ∧ T9.2.2 a 3 = some (a + 1) ∧ M9 a 0 = nI 3 ∧ M9 a 1 = nI 20 ∧ M9 a 2 = nI 12) ⟨o9, AR.pt a9, r9, (congrFun ma 0).trans (by rw [upd2_ne _ _ (by omega), upd2_ne _ _ (by omega), upd2_same]), (congrFun ma 1).trans (by rw [upd2_ne _ _ (by omega), upd2_same]), (congrFun ma 2).trans (upd2_same _ _ _ _)⟩ ?_
  rintro T9 M9 L9 ⟨ho9, ha9, hr9, hm0, hm1, hm2⟩
  have hk9 := ho9.2.2
  refine jv_iconst (nI 0) h dX1_init_29 (by decide) ?_
  refine jv_istore_n h dX1_init_30 (lt_nl hnl (by decide)) ?_
  have hl31 : ∀ (n : Nat) (i : Nat) (M1 : MI), 13 - i < n → i ≤ 12 → (∀ b, b ≠ a + 1 → M1 b = M9 b) → (∀ k, k < i → M1 (a + 1) k = nI (k % 7)) → V x 1 12 T9 M1 L9 31 [some (.ref a), some (.int (nI i))] [] := by
    intro n
    induction n with
    | zero => intro i M1 hN9 hi f1 f2; exact absurd hN9 (by omega)
    | succ n ih =>
      intro i M1 hN9 hi f1 f2
      refine jv_iload_n h dX1_init_31 rfl ?_
      refine jv_bipush (nI 12) h dX1_init_32 (by decide) ?_
      refine jv_nge 53 h dX1_init_34 (by decide) (by repeat (with_reducible first | exact NF_nI _ | assumption | refine NF_add ?_ ?_ | refine NF_mul ?_ ?_)) (by repeat (with_reducible first | exact NF_nI _ | assumption | refine NF_add ?_ ?_ | refine NF_mul ?_ ?_)) ⟨by omega, by omega⟩ (fun c34 => ?_) (fun c34 => ?_)
      · exact jv_vret h hr dX1_init_53 ⟨rfl, ⟨ho9.1, fun b hb => ⟨(ho9.2.1 b hb).1, (ho9.2.1 b hb).2.1, (f1 b (by omega)).trans (ho9.2.1 b hb).2.2.1, (ho9.2.1 b hb).2.2.2⟩⟩, ⟨hk9, ha9, hr9⟩, (congrFun (f1 a (by omega)) 0).trans hm0, (congrFun (f1 a (by omega)) 1).trans hm1, (congrFun (f1 a (by omega)) 2).trans hm2, fun k hk => by
      have hk : k < 6 := hk
      rw [S0_d (by omega)]
      exact f2 k (by omega)⟩
      · refine jv_aload_n h dX1_init_37 rfl ?_
        refine jv_gr 3 h dX1_init_38 cf_1 (by decide) gw_53 (by assumption) (by assumption) ?_
        refine jv_iload_n h dX1_init_41 rfl ?_
        refine jv_iload_n h dX1_init_42 rfl ?_
        refine jv_bipush (nI 7) h dX1_init_43 (by decide) ?_
        refine jv_iremN h dX1_init_45 (by repeat (with_reducible first | exact NF_nI _ | assumption | refine NF_add ?_ ?_ | refine NF_mul ?_ ?_)) (by repeat (with_reducible first | exact NF_nI _ | assumption | refine NF_add ?_ ?_ | refine NF_mul ?_ ?_)) (by omega) ⟨by omega, by omega⟩ ?_
        refine jv_iast h dX1_init_46 (by assumption) (by repeat (with_reducible first | exact NF_nI _ | assumption | refine NF_add ?_ ?_ | refine NF_mul ?_ ?_)) ⟨by omega, by decide⟩ ?_
        refine jv_iinc (nI (i + 1)) h dX1_init_47 rfl (lt_nl hnl (by decide)) (nI_inc i) ?_
        refine jv_goto 31 h dX1_init_50 (by decide) ?_
        exact ih (i + 1) _ (by omega) (by omega) (fun b hb => (upd2_row _ _ hb).trans (f1 b hb)) (fun k hk => by
          rcases (show k = i ∨ k < i by omega) with z | z
          · rw [z, upd2_same]
          · rw [upd2_ne _ _ (by omega)]; exact f2 k z)
  exact hl31 14 0 _ (by omega) (by omega) (fun _ _ => rfl) (fun k hk => absurd hk (by omega))
set_option maxHeartbeats 4000000 in
set_option maxRecDepth 100000 in
theorem c_scn_init {g : GT} {T : TT} {Mi : MI} {Ml : ML} {a : Nat} (hk : KD g T a 5) (hT : T.1 = a + 1) (hz : Mi a = zr 5) : Ct g yX6_init cX6_init 2 none 3 7 42 [.ref a] T Mi Ml (Pv (fun T' Mi' Ml' => NW T Mi Ml T' Mi' Ml' a 8 ∧ ScnS g T' a ∧ ScnI Mi' a)) := by
  refine Ct.of' (plainFor_of_name (by decide +kernel)) (by exact Nat.le_of_ble_eq_true rfl) ?_
  intro x hg hR h hr hnm hnl
  subst hg
  have nf0 : nf 0 = 3 := rfl
  have nf1 : nf 1 = 4 := rfl
  have nf2 : nf 2 = 2 := rfl
  have nf3 : nf 3 = 3 := rfl
  have nf4 : nf 4 = 6 := rfl
  have nf5 : nf 5 = 4 := rfl
  have nf6 : nf 6 = 3 := rfl
  have nf7 : nf 7 = 3 := rfl
  have nf8 : nf 8 = 6 := rfl
  have nf9 : nf 9 = 3 := rfl
  have nf10 : nf 10 = 10 := rfl
  have nf11 : nf 11 = 17 := rfl
  refine jv_aload_n h dX6_init_0 rfl ?_
  refine jv_obj h dX6_init_1 gw_74 (by decide) (Nat.le_of_ble_eq_true rfl) ?_
  refine jv_aload_n h dX6_init_4 rfl ?_
  refine jv_bipush (nI 6) h dX6_init_5 (by decide) ?_
  refine jv_newr (C := "DayBelt$Person") (kd := 14) h dX6_init_7 (NF_nI _) (by decide) (by decide) rfl gw_75 (Or.inl rfl) (by rw [hR]; exact ⟨by show _ ≤ 7; omega, by show _ ≤ 42; omega⟩) ?_
  refine jv_pr 0 h dX6_init_10 cf_5 (by decide) gw_118 (hk.ex Ex.nw (by omega)) (Or.inr ⟨rfl, hnm, rfl⟩) rfl rfl ?_
  refine jv_aload_n h dX6_init_13 rfl ?_
  refine jv_iconst (nI 1) h dX6_init_14 (by decide) ?_
  refine jv_pi 3 h dX6_init_15 cf_5 (by decide) gw_129 (by exact (hk.ex Ex.nw (by omega)).pt) rfl rfl rfl ?_
  obtain ⟨o9, e9, x9, m9, r9, q9⟩ := (Ob.start (Mi := Mi) (Ml := Ml) hk hT).sub (Nat.le_refl _) (Lo.ar (kd := 14) (n := 6)) 0
  have a9 := AR.nw (T := T) (kd := 14) (n := 6) (Ob.start (Mi := Mi) (Ml := Ml) hk hT).gz
  rw [hT] at a9
  refine jv_widen (cs' := 1 + 0) (sl' := 6 + 6 * 0) (by omega) (by omega) ?_
  refine jv_abs (P := fun T9 M9 L9 => Ob x.1 T Mi Ml T9 M9 L9 a 5 (2 + 0) ∧ AR x.1 T9 (a + 1) 14 6 ∧ T9.2.2 a 0 = some (a + 1) ∧ ScnI M9 a) ⟨o9.mi (fun b hb => upd2_row _ _ (by omega)), AR.pt a9, r9, by rw [upd2_ne _ _ (by omega), hz]; rfl, by rw [upd2_ne _ _ (by omega), hz]; rfl, upd2_same _ _ _ _⟩ ?_
  rintro T9 M9 L9 ⟨ho, har, hrr, hsi⟩
  refine jv_iconst (nI 0) h dX6_init_18 (by decide) ?_
  refine jv_istore_n h dX6_init_19 (lt_nl hnl (by decide)) ?_
  have hl20 : ∀ (n : Nat) (i : Nat) (T9 : TT) (M9 : MI) (L9 : ML), 7 - i < n → i ≤ 6 → Ob x.1 T Mi Ml T9 M9 L9 a 5 (2 + i) → AR x.1 T9 (a + 1) 14 6 → T9.2.2 a 0 = some (a + 1) → ScnI M9 a → (∀ p, p < i → KD x.1 T9 (a + 2 + p) 4) → (∀ p, p < i → T9.2.2 (a + 1) p = some (a + 2 + p)) → V x (1 + i) (6 + 6 * i) T9 M9 L9 20 [some (.ref a), some (.int (nI i))] [] := by
    intro n
    induction n with
    | zero => intro i T9 M9 L9 hN9 hi ho har hrr hsi hps hpr; exact absurd hN9 (by omega)
    | succ n ih =>
      intro i T9 M9 L9 hN9 hi ho har hrr hsi hps hpr
      refine jv_iload_n h dX6_init_20 rfl ?_
      refine jv_bipush (nI 6) h dX6_init_21 (by decide) ?_
      refine jv_nge 45 h dX6_init_23 (by decide) (by repeat (with_reducible first | exact NF_nI _ | assumption | refine NF_add ?_ ?_ | refine NF_mul ?_ ?_)) (by repeat (with_reducible first | exact NF_nI _ | assumption | refine NF_add ?_ ?_ | refine NF_mul ?_ ?_)) ⟨by omega, by omega⟩ (fun c23 => ?_) (fun c23 => ?_)
      · refine jv_widen (cs' := 7) (sl' := 42) (by omega) (by omega) ?_
        have h6 : i = 6 := by omega
        subst h6
        exact jv_vret h hr dX6_init_45 ⟨rfl, ho.nw, ⟨ho.2.2, har, hrr, hps, hpr⟩, hsi⟩
      · have hka := ho.2.2
        refine jv_aload_n h dX6_init_26 rfl ?_
        refine jv_gr 0 h dX6_init_27 cf_5 (by decide) gw_118 (by assumption) (by assumption) ?_
        refine jv_iload_n h dX6_init_30 rfl ?_
        refine jv_new h dX6_init_31 cf_4 df_4 gw_75 gw_77 gw_5 (by rw [hR]; exact ⟨by show _ ≤ 7; omega, by show _ ≤ 42; omega⟩) ?_
        refine jv_dup h dX6_init_34 rfl ?_
        refine jv_mkIN h dX6_init_35 cw_X6_21 (c_per_init (KD.nw ho.gz)) (by decide) (Nat.le_of_ble_eq_true rfl) (by rw [hR]; exact ⟨by show _ ≤ 7; omega, by show _ ≤ 42; omega⟩) (fun T8 M8 L8 hp9 => ?_)
        obtain ⟨rfl, rfl, rfl⟩ := hp9
        have hlo : Lo T9 M9 L9 (tnew T9 4 0) (upd2 (upd2 (rnew M9 T9.1 (zr 4)) T9.1 0 (nI 0)) T9.1 4 (-1)) (rnew L9 T9.1 (fun _ => 0)) 1 := ⟨rfl, fun b hb => ⟨tnew_ko (by omega), tnew_ro (by omega), by rw [upd2_row _ _ (by omega), upd2_row _ _ (by omega)]; exact rnew_o (by omega), rnew_o (by omega)⟩⟩
        have kn := KD.nw (T := T9) (ci := 4) ho.gz
        refine jv_aast (C := "DayBelt$Person") h dX6_init_38 (hlo.arr har) (by decide) rfl cf_4 kn (NF_nI _) ⟨by omega, by decide⟩ ?_
        obtain ⟨o9, e9, y9, x9, m9, t9, r9, q9⟩ := ho.st (c := a + 1) (by omega) hlo i T9.1
        rw [ho.1] at kn
        refine jv_iinc (nI (i + 1)) h dX6_init_39 rfl (lt_nl hnl (by decide)) (nI_inc i) ?_
        refine jv_goto 20 h dX6_init_42 (by decide) ?_
        refine jv_widen (cs' := 1 + (i + 1)) (sl' := 6 + 6 * (i + 1)) (by omega) (by omega) ?_
        exact ih (i + 1) _ _ _ (by omega) (by omega) o9 (AR.pt (hlo.arr har)) (e9.rf (by omega) hrr) (hsi.fr (m9 a (by omega)).1) (fun p hp => by
          rcases (show p = i ∨ p < i by omega) with z | z
          · rw [z, show a + 2 + i = a + (2 + i) by omega]; exact KD.pt kn
          · exact (hps p z).e2 y9 (by omega)) (fun p hp => by
          rcases (show p = i ∨ p < i by omega) with z | z
          · rw [z]; show upd2 _ _ _ _ _ _ = _; rw [r9, ho.1]; congr 1; omega
          · exact (q9 p (by omega)).trans (hpr p z))
  exact hl20 8 0 _ _ _ (by omega) (by omega) ho har hrr hsi (fun p hp => absurd hp (by omega)) (fun p hp => absurd hp (by omega))
set_option maxHeartbeats 4000000 in
set_option maxRecDepth 100000 in
theorem c_his_init {g : GT} {T : TT} {Mi : MI} {Ml : ML} {a : Nat} (hk : KD g T a 3) (hT : T.1 = a + 1) (hz : Mi a = zr 3) : Ct g yX3_init cX3_init 2 none 4 65 376 [.ref a] T Mi Ml (Pv (fun T' Mi' Ml' => NW T Mi Ml T' Mi' Ml' a 66 ∧ HisS g T' a ∧ HisI Mi' a)) := by
  refine Ct.of' (plainFor_of_name (by decide +kernel)) (by exact Nat.le_of_ble_eq_true rfl) ?_
  intro x hg hR h hr hnm hnl
  subst hg
  have nf0 : nf 0 = 3 := rfl
  have nf1 : nf 1 = 4 := rfl
  have nf2 : nf 2 = 2 := rfl
  have nf3 : nf 3 = 3 := rfl
  have nf4 : nf 4 = 6 := rfl
  have nf5 : nf 5 = 4 := rfl
  have nf6 : nf 6 = 3 := rfl
  have nf7 : nf 7 = 3 := rfl
  have nf8 : nf 8 = 6 := rfl
  have nf9 : nf 9 = 3 := rfl
  have nf10 : nf 10 = 10 := rfl
  have nf11 : nf 11 = 17 := rfl
  refine jv_aload_n h dX3_init_0 rfl ?_
  refine jv_obj h dX3_init_1 gw_146 (by decide) (Nat.le_of_ble_eq_true rfl) ?_
  refine jv_aload_n h dX3_init_4 rfl ?_
  refine jv_bipush (nI 8) h dX3_init_5 (by decide) ?_
  refine jv_newr (C := "DayBelt$Scene") (kd := 15) h dX3_init_7 (NF_nI _) (by decide) (by decide) rfl gw_147 (Or.inr (Or.inl rfl)) (by rw [hR]; exact ⟨by show _ ≤ 65; omega, by show _ ≤ 376; omega⟩) ?_
  refine jv_pr 0 h dX3_init_10 cf_3 (by decide) gw_150 (hk.ex Ex.nw (by omega)) (Or.inr ⟨rfl, hnm, rfl⟩) rfl rfl ?_
  obtain ⟨o9, e9, x9, m9, r9, q9⟩ := (Ob.start (Mi := Mi) (Ml := Ml) hk hT).sub (Nat.le_refl _) (Lo.ar (kd := 15) (n := 8)) 0
  have a9 := AR.nw (T := T) (kd := 15) (n := 8) (Ob.start (Mi := Mi) (Ml := Ml) hk hT).gz
  rw [hT] at a9
  refine jv_widen (cs' := 1 + 8 * 0) (sl' := 8 + 46 * 0) (by omega) (by omega) ?_
  refine jv_abs (P := fun T9 M9 L9 => Ob x.1 T Mi Ml T9 M9 L9 a 3 (2 + 8 * 0) ∧ AR x.1 T9 (a + 1) 15 8 ∧ T9.2.2 a 0 = some (a + 1) ∧ M9 a = zr 3) ⟨o9, AR.pt a9, r9, hz⟩ ?_
  rintro T9 M9 L9 ⟨ho, har, hrr, hmz⟩
  refine jv_iconst (nI 0) h dX3_init_13 (by decide) ?_
  refine jv_istore_n h dX3_init_14 (lt_nl hnl (by decide)) ?_
  have hl15 : ∀ (n : Nat) (i : Nat) (T9 : TT) (M9 : MI) (L9 : ML), 9 - i < n → i ≤ 8 → Ob x.1 T Mi Ml T9 M9 L9 a 3 (2 + 8 * i) → AR x.1 T9 (a + 1) 15 8 → T9.2.2 a 0 = some (a + 1) → M9 a = zr 3 → (∀ p, p < i → ScnS x.1 T9 (a + 2 + 8 * p)) → (∀ p, p < i → T9.2.2 (a + 1) p = some (a + 2 + 8 * p)) → (∀ p, p < i → ScnI M9 (a + 2 + 8 * p)) → V x (1 + 8 * i) (8 + 46 * i) T9 M9 L9 15 [some (.ref a), some (.int (nI i))] [] := by
    intro n
    induction n with
    | zero => intro i T9 M9 L9 hN9 hi ho har hrr hmz hps hpr hpi; exact absurd hN9 (by omega)
    | succ n ih =>
      intro i T9 M9 L9 hN9 hi ho har hrr hmz hps hpr hpi
      refine jv_iload_n h dX3_init_15 rfl ?_
      refine jv_bipush (nI 8) h dX3_init_16 (by decide) ?_
      refine jv_nge 40 h dX3_init_18 (by decide) (by repeat (with_reducible first | exact NF_nI _ | assumption | refine NF_add ?_ ?_ | refine NF_mul ?_ ?_)) (by repeat (with_reducible first | exact NF_nI _ | assumption | refine NF_add ?_ ?_ | refine NF_mul ?_ ?_)) ⟨by omega, by omega⟩ (fun c18 => ?_) (fun c18 => ?_)
      · refine jv_widen (cs' := 65) (sl' := 376) (by omega) (by omega) ?_
        have h8 : i = 8 := by omega
        subst h8
        exact jv_vret h hr dX3_init_40 ⟨rfl, ho.nw, ⟨ho.2.2, har, hrr, hps, hpr⟩, by rw [hmz]; rfl, by rw [hmz]; rfl, hpi⟩
      · have hka := ho.2.2
        refine jv_aload_n h dX3_init_21 rfl ?_
        refine jv_gr 0 h dX3_init_22 cf_3 (by decide) gw_150 (by assumption) (by assumption) ?_
        refine jv_iload_n h dX3_init_25 rfl ?_
        refine jv_new h dX3_init_26 cf_5 df_5 gw_147 gw_70 gw_4 (by rw [hR]; exact ⟨by show _ ≤ 65; omega, by show _ ≤ 376; omega⟩) ?_
        refine jv_dup h dX3_init_29 rfl ?_
        refine jv_mkI h dX3_init_30 cw_X3_17 (c_scn_init (KD.nw ho.gz) rfl rnew_s) (by decide) (Nat.le_of_ble_eq_true rfl) (by rw [hR]; exact ⟨by show _ ≤ 65; omega, by show _ ≤ 376; omega⟩) (fun T8 M8 L8 hp9 => ?_)
        obtain ⟨hnw, hsc, hsn⟩ := hp9
        have hlo := hnw.lo
        refine jv_aast (C := "DayBelt$Scene") h dX3_init_33 (hlo.arr har) (by decide) rfl cf_5 hsc.1 (NF_nI _) ⟨by omega, by decide⟩ ?_
        obtain ⟨o9, e9, y9, x9, m9, t9, r9, q9⟩ := ho.st (c := a + 1) (by omega) hlo i T9.1
        rw [ho.1] at hsc hsn
        refine jv_iinc (nI (i + 1)) h dX3_init_34 rfl (lt_nl hnl (by decide)) (nI_inc i) ?_
        refine jv_goto 15 h dX3_init_37 (by decide) ?_
        refine jv_widen (cs' := 1 + 8 * (i + 1)) (sl' := 8 + 46 * (i + 1)) (by omega) (by omega) ?_
        have eN9 : a + (2 + 8 * i) = a + 2 + 8 * i := by omega
        exact ih (i + 1) _ _ _ (by omega) (by omega) (by rw [show 2 + 8 * (i + 1) = 2 + 8 * i + 8 by omega]; exact o9) (AR.pt (hlo.arr har)) (e9.rf (by omega) hrr) ((m9 a (by omega)).1.trans hmz) (fun p hp => by
          rcases (show p = i ∨ p < i by omega) with z | z
          · rw [z, ← eN9]; exact hsc.e2 x9 (by omega)
          · exact (hps p z).e2 y9 (by omega)) (fun p hp => by
          rcases (show p = i ∨ p < i by omega) with z | z
          · rw [z]; show upd2 _ _ _ _ _ _ = _; rw [r9, ho.1, eN9]
          · exact (q9 p (by omega)).trans (hpr p z)) (fun p hp => by
          rcases (show p = i ∨ p < i by omega) with z | z
          · rw [z, ← eN9]; exact hsn
          · exact (hpi p z).fr (m9 _ (by omega)).1)
  exact hl15 10 0 _ _ _ (by omega) (by omega) ho har hrr hmz (fun p hp => absurd hp (by omega)) (fun p hp => absurd hp (by omega)) (fun p hp => absurd hp (by omega))
