set_option maxHeartbeats 4000000 in
set_option maxRecDepth 100000 in
theorem c_blt_init {g : GT} {T : TT} {Mi : MI} {Ml : ML} {a : Nat} (hk : KD g T a 0) (hT : T.1 = a + 1) : Ct g yX0_init cX0_init 1 none 5 76 441 [.ref a] T Mi Ml (Pv (fun T' Mi' Ml' => NW T Mi Ml T' Mi' Ml' a 77 ∧ BltS g T' a ∧ BltR Mi' a S0 (fun _ => S0) 0 0)) := by
  refine Ct.of' (plainFor_of_name (by decide +kernel)) (by exact Nat.le_of_ble_eq_true rfl) ?_
  intro x hg hR h hr hnm hnl
  subst hg
  have nf0 : nf 0 = 3 := rfl
  have nf1 : nf 1 = 4 := rfl
  have nf2 : nf 2 = 2 := rfl
  have nf3 : nf 3 = 3 := rfl
  have nf4 : nf 4 = 6 := rfl
  have nf5 : nf 5 = 4 := rfl
  have nf6 : nf 6 = 3 := rfl
  have nf7 : nf 7 = 3 := rfl
  have nf8 : nf 8 = 6 := rfl
  have nf9 : nf 9 = 3 := rfl
  have nf10 : nf 10 = 10 := rfl
  have nf11 : nf 11 = 17 := rfl
  refine jv_aload_n h dX0_init_0 rfl ?_
  refine jv_obj h dX0_init_1 gw_36 (by decide) (Nat.le_of_ble_eq_true rfl) ?_
  refine jv_abs (P := fun T9 M9 L9 => Ob x.1 T Mi Ml T9 M9 L9 a 0 1) (Ob.start hk hT) ?_
  rintro T9 M9 L9 ho
  refine jv_aload_n h dX0_init_4 rfl ?_
  refine jv_new h dX0_init_5 cf_1 df_1 gw_37 gw_38 gw_3 (by rw [hR]; exact ⟨by show _ ≤ 76; omega, by show _ ≤ 441; omega⟩) ?_
  refine jv_dup h dX0_init_8 rfl ?_
  refine jv_mkI h dX0_init_9 cw_X0_9 (c_blk_init (KD.nw ho.gz) rfl) (by decide) (Nat.le_of_ble_eq_true rfl) (by rw [hR]; exact ⟨by show _ ≤ 76; omega, by show _ ≤ 441; omega⟩) (fun T8 M8 L8 hp9 => ?_)
  obtain ⟨hnw, n1_, n2_⟩ := hp9
  have hlo := hnw.lo
  refine jv_pr 0 h dX0_init_12 cf_0 (by decide) gw_161 (hlo.kd ho.2.2) (Or.inr ⟨rfl, hnm, rfl⟩) rfl rfl ?_
  obtain ⟨o9, e9, x9, m9, r9, q9⟩ := ho.sub (by omega) hlo 0
  rw [ho.1] at n1_ n2_
  refine jv_widen (cs' := 2) (sl' := 16) (by omega) (by omega) ?_
  refine jv_abs (P := fun T9 M9 L9 => Ob x.1 T Mi Ml T9 M9 L9 a 0 3 ∧ T9.2.2 a 0 = some (a + 1) ∧ BlkS x.1 T9 (a + 1) ∧ BlkR M9 (a + 1) S0) ⟨o9, r9, (n1_.e2 x9 (by omega)), n2_⟩ ?_
  rintro T9 M9 L9 ⟨ho, n3_, n1_, n2_⟩
  refine jv_aload_n h dX0_init_15 rfl ?_
  refine jv_new h dX0_init_16 cf_5 df_5 gw_69 gw_70 gw_4 (by rw [hR]; exact ⟨by show _ ≤ 76; omega, by show _ ≤ 441; omega⟩) ?_
  refine jv_dup h dX0_init_19 rfl ?_
  refine jv_mkI h dX0_init_20 cw_X0_18 (c_scn_init (KD.nw ho.gz) rfl rnew_s) (by decide) (Nat.le_of_ble_eq_true rfl) (by rw [hR]; exact ⟨by show _ ≤ 76; omega, by show _ ≤ 441; omega⟩) (fun T8 M8 L8 hp9 => ?_)
  obtain ⟨hnw, n4_, n5_⟩ := hp9
  have hlo := hnw.lo
  refine jv_pr 1 h dX0_init_23 cf_0 (by decide) gw_164 (hlo.kd ho.2.2) (Or.inr ⟨rfl, hnm, rfl⟩) rfl rfl ?_
  obtain ⟨o9, e9, x9, m9, r9, q9⟩ := ho.sub (by omega) hlo 1
  rw [ho.1] at n4_ n5_
  refine jv_widen (cs' := 10) (sl' := 62) (by omega) (by omega) ?_
  refine jv_abs (P := fun T9 M9 L9 => Ob x.1 T Mi Ml T9 M9 L9 a 0 11 ∧ T9.2.2 a 0 = some (a + 1) ∧ BlkS x.1 T9 (a + 1) ∧ BlkR M9 (a + 1) S0 ∧ T9.2.2 a 1 = some (a + 3) ∧ ScnS x.1 T9 (a + 3) ∧ ScnI M9 (a + 3)) ⟨o9, ((q9 _ (by decide)).trans n3_), (n1_.e2 e9 (by omega)), (n2_.fr (m9 _ (by omega)).1 (m9 _ (by omega)).1), r9, (n4_.e2 x9 (by omega)), n5_⟩ ?_
  rintro T9 M9 L9 ⟨ho, n3_, n1_, n2_, n6_, n4_, n5_⟩
  refine jv_aload_n h dX0_init_26 rfl ?_
  refine jv_new h dX0_init_27 cf_3 df_3 gw_141 gw_142 gw_8 (by rw [hR]; exact ⟨by show _ ≤ 76; omega, by show _ ≤ 441; omega⟩) ?_
  refine jv_dup h dX0_init_30 rfl ?_
  refine jv_mkI h dX0_init_31 cw_X0_25 (c_his_init (KD.nw ho.gz) rfl rnew_s) (by decide) (Nat.le_of_ble_eq_true rfl) (by rw [hR]; exact ⟨by show _ ≤ 76; omega, by show _ ≤ 441; omega⟩) (fun T8 M8 L8 hp9 => ?_)
  obtain ⟨hnw, n7_, n8_⟩ := hp9
  have hlo := hnw.lo
  refine jv_pr 2 h dX0_init_34 cf_0 (by decide) gw_167 (hlo.kd ho.2.2) (Or.inr ⟨rfl, hnm, rfl⟩) rfl rfl ?_
  obtain ⟨o9, e9, x9, m9, r9, q9⟩ := ho.sub (by omega) hlo 2
  rw [ho.1] at n7_ n8_
  refine jv_widen (cs' := 76) (sl' := 441) (by omega) (by omega) ?_
  refine jv_abs (P := fun T9 M9 L9 => Ob x.1 T Mi Ml T9 M9 L9 a 0 77 ∧ T9.2.2 a 0 = some (a + 1) ∧ BlkS x.1 T9 (a + 1) ∧ BlkR M9 (a + 1) S0 ∧ T9.2.2 a 1 = some (a + 3) ∧ ScnS x.1 T9 (a + 3) ∧ ScnI M9 (a + 3) ∧ T9.2.2 a 2 = some (a + 11) ∧ HisS x.1 T9 (a + 11) ∧ HisI M9 (a + 11)) ⟨o9, ((q9 _ (by decide)).trans n3_), (n1_.e2 e9 (by omega)), (n2_.fr (m9 _ (by omega)).1 (m9 _ (by omega)).1), ((q9 _ (by decide)).trans n6_), (n4_.e2 e9 (by omega)), (n5_.fr (m9 _ (by omega)).1), r9, (n7_.e2 x9 (by omega)), n8_⟩ ?_
  rintro T9 M9 L9 ⟨ho, n3_, n1_, n2_, n6_, n4_, n5_, n9_, n7_, n8_⟩
  exact jv_vret h hr dX0_init_37 ⟨rfl, ho.nw, ⟨ho.2.2, n3_, n6_, n9_, n1_, n4_, n7_⟩, n2_, n5_.r, n8_.r⟩
set_option maxHeartbeats 4000000 in
set_option maxRecDepth 100000 in
theorem c_rdr_init {g : GT} {T : TT} {Mi : MI} {Ml : ML} {a : Nat} (hk : KD g T a 2) (hT : T.1 = a + 1) : Ct g yX2_init cX2_init 1 none 4 10 62 [.ref a] T Mi Ml (Pv (fun T' Mi' Ml' => NW T Mi Ml T' Mi' Ml' a 11 ∧ RdrS g T' a ∧ ScnI Mi' (a + 3))) := by
  refine Ct.of' (plainFor_of_name (by decide +kernel)) (by exact Nat.le_of_ble_eq_true rfl) ?_
  intro x hg hR h hr hnm hnl
  subst hg
  have nf0 : nf 0 = 3 := rfl
  have nf1 : nf 1 = 4 := rfl
  have nf2 : nf 2 = 2 := rfl
  have nf3 : nf 3 = 3 := rfl
  have nf4 : nf 4 = 6 := rfl
  have nf5 : nf 5 = 4 := rfl
  have nf6 : nf 6 = 3 := rfl
  have nf7 : nf 7 = 3 := rfl
  have nf8 : nf 8 = 6 := rfl
  have nf9 : nf 9 = 3 := rfl
  have nf10 : nf 10 = 10 := rfl
  have nf11 : nf 11 = 17 := rfl
  refine jv_aload_n h dX2_init_0 rfl ?_
  refine jv_obj h dX2_init_1 gw_199 (by decide) (Nat.le_of_ble_eq_true rfl) ?_
  refine jv_abs (P := fun T9 M9 L9 => Ob x.1 T Mi Ml T9 M9 L9 a 2 1) (Ob.start hk hT) ?_
  rintro T9 M9 L9 ho
  refine jv_aload_n h dX2_init_4 rfl ?_
  refine jv_new h dX2_init_5 cf_1 df_1 gw_200 gw_38 gw_3 (by rw [hR]; exact ⟨by show _ ≤ 10; omega, by show _ ≤ 62; omega⟩) ?_
  refine jv_dup h dX2_init_8 rfl ?_
  refine jv_mkI h dX2_init_9 cw_X2_11 (c_blk_init (KD.nw ho.gz) rfl) (by decide) (Nat.le_of_ble_eq_true rfl) (by rw [hR]; exact ⟨by show _ ≤ 10; omega, by show _ ≤ 62; omega⟩) (fun T8 M8 L8 hp9 => ?_)
  obtain ⟨hnw, n1_, n2_⟩ := hp9
  have hlo := hnw.lo
  refine jv_pr 0 h dX2_init_12 cf_2 (by decide) gw_204 (hlo.kd ho.2.2) (Or.inr ⟨rfl, hnm, rfl⟩) rfl rfl ?_
  obtain ⟨o9, e9, x9, m9, r9, q9⟩ := ho.sub (by omega) hlo 0
  rw [ho.1] at n1_ n2_
  refine jv_widen (cs' := 2) (sl' := 16) (by omega) (by omega) ?_
  refine jv_abs (P := fun T9 M9 L9 => Ob x.1 T Mi Ml T9 M9 L9 a 2 3 ∧ T9.2.2 a 0 = some (a + 1) ∧ BlkS x.1 T9 (a + 1) ∧ BlkR M9 (a + 1) S0) ⟨o9, r9, (n1_.e2 x9 (by omega)), n2_⟩ ?_
  rintro T9 M9 L9 ⟨ho, n3_, n1_, n2_⟩
  refine jv_aload_n h dX2_init_15 rfl ?_
  refine jv_new h dX2_init_16 cf_5 df_5 gw_202 gw_70 gw_4 (by rw [hR]; exact ⟨by show _ ≤ 10; omega, by show _ ≤ 62; omega⟩) ?_
  refine jv_dup h dX2_init_19 rfl ?_
  refine jv_mkI h dX2_init_20 cw_X2_20 (c_scn_init (KD.nw ho.gz) rfl rnew_s) (by decide) (Nat.le_of_ble_eq_true rfl) (by rw [hR]; exact ⟨by show _ ≤ 10; omega, by show _ ≤ 62; omega⟩) (fun T8 M8 L8 hp9 => ?_)
  obtain ⟨hnw, n4_, n5_⟩ := hp9
  have hlo := hnw.lo
  refine jv_pr 1 h dX2_init_23 cf_2 (by decide) gw_206 (hlo.kd ho.2.2) (Or.inr ⟨rfl, hnm, rfl⟩) rfl rfl ?_
  obtain ⟨o9, e9, x9, m9, r9, q9⟩ := ho.sub (by omega) hlo 1
  rw [ho.1] at n4_ n5_
  refine jv_widen (cs' := 10) (sl' := 62) (by omega) (by omega) ?_
  refine jv_abs (P := fun T9 M9 L9 => Ob x.1 T Mi Ml T9 M9 L9 a 2 11 ∧ T9.2.2 a 0 = some (a + 1) ∧ BlkS x.1 T9 (a + 1) ∧ BlkR M9 (a + 1) S0 ∧ T9.2.2 a 1 = some (a + 3) ∧ ScnS x.1 T9 (a + 3) ∧ ScnI M9 (a + 3)) ⟨o9, ((q9 _ (by decide)).trans n3_), (n1_.e2 e9 (by omega)), (n2_.fr (m9 _ (by omega)).1 (m9 _ (by omega)).1), r9, (n4_.e2 x9 (by omega)), n5_⟩ ?_
  rintro T9 M9 L9 ⟨ho, n3_, n1_, n2_, n6_, n4_, n5_⟩
  exact jv_vret h hr dX2_init_26 ⟨rfl, ho.nw, ⟨ho.2.2, n3_, n6_, n1_, n4_⟩, n5_⟩
set_option maxHeartbeats 4000000 in
set_option maxRecDepth 100000 in
theorem c_tap_init {g : GT} {T : TT} {Mi : MI} {Ml : ML} {a : Nat} (hk : KD g T a 7) (hT : T.1 = a + 1) (hz : Mi a = zr 7) : Ct g yX8_init cX8_init 1 none 2 1 60 [.ref a] T Mi Ml (Pv (fun T' Mi' Ml' => NW T Mi Ml T' Mi' Ml' a 2 ∧ TapS g T' a ∧ Mi' a 1 = nI 0 ∧ Mi' a 2 = nI 0)) := by
  refine Ct.of' (plainFor_of_name (by decide +kernel)) (by exact Nat.le_of_ble_eq_true rfl) ?_
  intro x hg hR h hr hnm hnl
  subst hg
  have nf0 : nf 0 = 3 := rfl
  have nf1 : nf 1 = 4 := rfl
  have nf2 : nf 2 = 2 := rfl
  have nf3 : nf 3 = 3 := rfl
  have nf4 : nf 4 = 6 := rfl
  have nf5 : nf 5 = 4 := rfl
  have nf6 : nf 6 = 3 := rfl
  have nf7 : nf 7 = 3 := rfl
  have nf8 : nf 8 = 6 := rfl
  have nf9 : nf 9 = 3 := rfl
  have nf10 : nf 10 = 10 := rfl
  have nf11 : nf 11 = 17 := rfl
  refine jv_aload_n h dX8_init_0 rfl ?_
  refine jv_obj h dX8_init_1 gw_181 (by decide) (Nat.le_of_ble_eq_true rfl) ?_
  refine jv_abs (P := fun T9 M9 L9 => Ob x.1 T Mi Ml T9 M9 L9 a 7 1 ∧ M9 a = zr 7) ⟨Ob.start hk hT, hz⟩ ?_
  rintro T9 M9 L9 ⟨ho, own0⟩
  refine jv_aload_n h dX8_init_4 rfl ?_
  refine jv_bipush (nI 60) h dX8_init_5 (by decide) ?_
  refine jv_newi h dX8_init_7 (NF_nI _) (by decide) gw_68 (by rw [hR]; exact ⟨by show _ ≤ 1; omega, by show _ ≤ 60; omega⟩) ?_
  have hlo := Lo.ai (T9 := T9) (M9 := M9) (L9 := L9) (kd := 12) (n := 60) (r := fun _ => nI 0)
  refine jv_pr 0 h dX8_init_9 cf_7 (by decide) gw_182 (hlo.kd ho.2.2) (Or.inr ⟨rfl, hnm, rfl⟩) rfl rfl ?_
  obtain ⟨o9, e9, x9, m9, r9, q9⟩ := ho.sub (by omega) hlo 0
  have a9 := AR.nw (T := T9) (kd := 12) (n := 60) ho.gz
  rw [ho.1] at a9
  refine jv_widen (cs' := 1) (sl' := 60) (by omega) (by omega) ?_
  refine jv_abs (P := fun T9 M9 L9 => Ob x.1 T Mi Ml T9 M9 L9 a 7 2 ∧ M9 a = zr 7 ∧ T9.2.2 a 0 = some (a + 1) ∧ AR x.1 T9 (a + 1) 12 60) ⟨o9, ((m9 a (by omega)).1.trans own0), r9, (AR.pt a9)⟩ ?_
  rintro T9 M9 L9 ⟨ho, own0, n2_, n1_⟩
  exact jv_vret h hr dX8_init_12 ⟨rfl, ho.nw, ⟨ho.2.2, n2_, n1_⟩, by rw [own0]; rfl, by rw [own0]; rfl⟩
set_option maxHeartbeats 4000000 in
set_option maxRecDepth 100000 in
theorem c_wlk_init {g : GT} {T : TT} {Mi : MI} {Ml : ML} {a : Nat} (hk : KD g T a 8) (hT : T.1 = a + 1) : Ct g yX9_init cX9_init 1 none 3 2 16 [.ref a] T Mi Ml (Pv (fun T' Mi' Ml' => NW T Mi Ml T' Mi' Ml' a 3 ∧ WkS g T' a)) := by
  refine Ct.of' (plainFor_of_name (by decide +kernel)) (by exact Nat.le_of_ble_eq_true rfl) ?_
  intro x hg hR h hr hnm hnl
  subst hg
  have nf0 : nf 0 = 3 := rfl
  have nf1 : nf 1 = 4 := rfl
  have nf2 : nf 2 = 2 := rfl
  have nf3 : nf 3 = 3 := rfl
  have nf4 : nf 4 = 6 := rfl
  have nf5 : nf 5 = 4 := rfl
  have nf6 : nf 6 = 3 := rfl
  have nf7 : nf 7 = 3 := rfl
  have nf8 : nf 8 = 6 := rfl
  have nf9 : nf 9 = 3 := rfl
  have nf10 : nf 10 = 10 := rfl
  have nf11 : nf 11 = 17 := rfl
  refine jv_aload_n h dX9_init_0 rfl ?_
  refine jv_obj h dX9_init_1 gw_220 (by decide) (Nat.le_of_ble_eq_true rfl) ?_
  refine jv_abs (P := fun T9 M9 L9 => Ob x.1 T Mi Ml T9 M9 L9 a 8 1) (Ob.start hk hT) ?_
  rintro T9 M9 L9 ho
  refine jv_aload_n h dX9_init_4 rfl ?_
  refine jv_new h dX9_init_5 cf_1 df_1 gw_221 gw_38 gw_3 (by rw [hR]; exact ⟨by show _ ≤ 2; omega, by show _ ≤ 16; omega⟩) ?_
  refine jv_dup h dX9_init_8 rfl ?_
  refine jv_mkI h dX9_init_9 cw_X9_11 (c_blk_init (KD.nw ho.gz) rfl) (by decide) (Nat.le_of_ble_eq_true rfl) (by rw [hR]; exact ⟨by show _ ≤ 2; omega, by show _ ≤ 16; omega⟩) (fun T8 M8 L8 hp9 => ?_)
  obtain ⟨hnw, n1_, n2_⟩ := hp9
  have hlo := hnw.lo
  refine jv_pr 0 h dX9_init_12 cf_8 (by decide) gw_224 (hlo.kd ho.2.2) (Or.inr ⟨rfl, hnm, rfl⟩) rfl rfl ?_
  obtain ⟨o9, e9, x9, m9, r9, q9⟩ := ho.sub (by omega) hlo 0
  rw [ho.1] at n1_ n2_
  refine jv_widen (cs' := 2) (sl' := 16) (by omega) (by omega) ?_
  refine jv_abs (P := fun T9 M9 L9 => Ob x.1 T Mi Ml T9 M9 L9 a 8 3 ∧ T9.2.2 a 0 = some (a + 1) ∧ BlkS x.1 T9 (a + 1) ∧ BlkR M9 (a + 1) S0) ⟨o9, r9, (n1_.e2 x9 (by omega)), n2_⟩ ?_
  rintro T9 M9 L9 ⟨ho, n3_, n1_, n2_⟩
  refine jv_aload_n h dX9_init_15 rfl ?_
  refine jv_plain h dX9_init_16 gw_223 ?_
  refine jv_pe 1 h dX9_init_19 cf_8 (by decide) gw_225 (by exact ho.2.2) rfl (by decide) rfl rfl ?_
  exact jv_vret h hr dX9_init_22 ⟨rfl, (ho.mi (fun b hb => upd2_row _ _ (by omega))).nw, ho.2.2, n3_, n1_⟩
set_option maxHeartbeats 4000000 in
set_option maxRecDepth 100000 in
theorem c_wei_init {g : GT} {T : TT} {Mi : MI} {Ml : ML} {a : Nat} (hk : KD g T a 9) (hT : T.1 = a + 1) : Ct g yX10_init cX10_init 1 none 2 2 128 [.ref a] T Mi Ml (Pv (fun T' Mi' Ml' => NW T Mi Ml T' Mi' Ml' a 3 ∧ WeiS g T' a)) := by
  refine Ct.of' (plainFor_of_name (by decide +kernel)) (by exact Nat.le_of_ble_eq_true rfl) ?_
  intro x hg hR h hr hnm hnl
  subst hg
  have nf0 : nf 0 = 3 := rfl
  have nf1 : nf 1 = 4 := rfl
  have nf2 : nf 2 = 2 := rfl
  have nf3 : nf 3 = 3 := rfl
  have nf4 : nf 4 = 6 := rfl
  have nf5 : nf 5 = 4 := rfl
  have nf6 : nf 6 = 3 := rfl
  have nf7 : nf 7 = 3 := rfl
  have nf8 : nf 8 = 6 := rfl
  have nf9 : nf 9 = 3 := rfl
  have nf10 : nf 10 = 10 := rfl
  have nf11 : nf 11 = 17 := rfl
  refine jv_aload_n h dX10_init_0 rfl ?_
  refine jv_obj h dX10_init_1 gw_248 (by decide) (Nat.le_of_ble_eq_true rfl) ?_
  refine jv_abs (P := fun T9 M9 L9 => Ob x.1 T Mi Ml T9 M9 L9 a 9 1) (Ob.start hk hT) ?_
  rintro T9 M9 L9 ho
  refine jv_aload_n h dX10_init_4 rfl ?_
  refine jv_bipush (nI 64) h dX10_init_5 (by decide) ?_
  refine jv_newi h dX10_init_7 (NF_nI _) (by decide) gw_68 (by rw [hR]; exact ⟨by show _ ≤ 2; omega, by show _ ≤ 128; omega⟩) ?_
  have hlo := Lo.ai (T9 := T9) (M9 := M9) (L9 := L9) (kd := 12) (n := 64) (r := fun _ => nI 0)
  refine jv_pr 0 h dX10_init_9 cf_9 (by decide) gw_249 (hlo.kd ho.2.2) (Or.inr ⟨rfl, hnm, rfl⟩) rfl rfl ?_
  obtain ⟨o9, e9, x9, m9, r9, q9⟩ := ho.sub (by omega) hlo 0
  have a9 := AR.nw (T := T9) (kd := 12) (n := 64) ho.gz
  rw [ho.1] at a9
  refine jv_widen (cs' := 1) (sl' := 64) (by omega) (by omega) ?_
  refine jv_abs (P := fun T9 M9 L9 => Ob x.1 T Mi Ml T9 M9 L9 a 9 2 ∧ T9.2.2 a 0 = some (a + 1) ∧ AR x.1 T9 (a + 1) 12 64) ⟨o9, r9, (AR.pt a9)⟩ ?_
  rintro T9 M9 L9 ⟨ho, n2_, n1_⟩
  refine jv_aload_n h dX10_init_12 rfl ?_
  refine jv_bipush (nI 64) h dX10_init_13 (by decide) ?_
  refine jv_newi h dX10_init_15 (NF_nI _) (by decide) gw_68 (by rw [hR]; exact ⟨by show _ ≤ 2; omega, by show _ ≤ 128; omega⟩) ?_
  have hlo := Lo.ai (T9 := T9) (M9 := M9) (L9 := L9) (kd := 12) (n := 64) (r := fun _ => nI 0)
  refine jv_pr 1 h dX10_init_17 cf_9 (by decide) gw_250 (hlo.kd ho.2.2) (Or.inr ⟨rfl, hnm, rfl⟩) rfl rfl ?_
  obtain ⟨o9, e9, x9, m9, r9, q9⟩ := ho.sub (by omega) hlo 1
  have a9 := AR.nw (T := T9) (kd := 12) (n := 64) ho.gz
  rw [ho.1] at a9
  refine jv_widen (cs' := 2) (sl' := 128) (by omega) (by omega) ?_
  refine jv_abs (P := fun T9 M9 L9 => Ob x.1 T Mi Ml T9 M9 L9 a 9 3 ∧ T9.2.2 a 0 = some (a + 1) ∧ AR x.1 T9 (a + 1) 12 64 ∧ T9.2.2 a 1 = some (a + 2) ∧ AR x.1 T9 (a + 2) 12 64) ⟨o9, ((q9 _ (by decide)).trans n2_), (n1_.e2 e9 (by omega)), r9, (AR.pt a9)⟩ ?_
  rintro T9 M9 L9 ⟨ho, n2_, n1_, n4_, n3_⟩
  exact jv_vret h hr dX10_init_20 ⟨rfl, ho.nw, ho.2.2, n2_, n1_, n4_, n3_⟩
set_option maxHeartbeats 4000000 in
set_option maxRecDepth 100000 in
theorem c_sht_init {g : GT} {T : TT} {Mi : MI} {Ml : ML} {a : Nat} (hk : KD g T a 6) (hT : T.1 = a + 1) : Ct g yX7_init cX7_init 1 none 2 1 24 [.ref a] T Mi Ml (Pv (fun T' Mi' Ml' => NW T Mi Ml T' Mi' Ml' a 2 ∧ ShtS g T' a ∧ Mi' a 1 = -1)) := by
  refine Ct.of' (plainFor_of_name (by decide +kernel)) (by exact Nat.le_of_ble_eq_true rfl) ?_
  intro x hg hR h hr hnm hnl
  subst hg
  have nf0 : nf 0 = 3 := rfl
  have nf1 : nf 1 = 4 := rfl
  have nf2 : nf 2 = 2 := rfl
  have nf3 : nf 3 = 3 := rfl
  have nf4 : nf 4 = 6 := rfl
  have nf5 : nf 5 = 4 := rfl
  have nf6 : nf 6 = 3 := rfl
  have nf7 : nf 7 = 3 := rfl
  have nf8 : nf 8 = 6 := rfl
  have nf9 : nf 9 = 3 := rfl
  have nf10 : nf 10 = 10 := rfl
  have nf11 : nf 11 = 17 := rfl
  refine jv_aload_n h dX7_init_0 rfl ?_
  refine jv_obj h dX7_init_1 gw_265 (by decide) (Nat.le_of_ble_eq_true rfl) ?_
  refine jv_abs (P := fun T9 M9 L9 => Ob x.1 T Mi Ml T9 M9 L9 a 6 1) (Ob.start hk hT) ?_
  rintro T9 M9 L9 ho
  refine jv_aload_n h dX7_init_4 rfl ?_
  refine jv_bipush (nI 24) h dX7_init_5 (by decide) ?_
  refine jv_newl h dX7_init_7 (NF_nI _) (by decide) gw_279 (by rw [hR]; exact ⟨by show _ ≤ 1; omega, by show _ ≤ 24; omega⟩) ?_
  have hlo := Lo.al (T9 := T9) (M9 := M9) (L9 := L9) (kd := 13) (n := 24) (r := fun _ => lN 0)
  refine jv_pr 0 h dX7_init_9 cf_6 (by decide) gw_266 (hlo.kd ho.2.2) (Or.inr ⟨rfl, hnm, rfl⟩) rfl rfl ?_
  obtain ⟨o9, e9, x9, m9, r9, q9⟩ := ho.sub (by omega) hlo 0
  have a9 := AR.nw (T := T9) (kd := 13) (n := 24) ho.gz
  rw [ho.1] at a9
  refine jv_widen (cs' := 1) (sl' := 24) (by omega) (by omega) ?_
  refine jv_abs (P := fun T9 M9 L9 => Ob x.1 T Mi Ml T9 M9 L9 a 6 2 ∧ T9.2.2 a 0 = some (a + 1) ∧ AR x.1 T9 (a + 1) 13 24) ⟨o9, r9, (AR.pt a9)⟩ ?_
  rintro T9 M9 L9 ⟨ho, n2_, n1_⟩
  refine jv_aload_n h dX7_init_12 rfl ?_
  refine jv_iconst (-1) h dX7_init_13 (by decide) ?_
  refine jv_pi 1 h dX7_init_14 cf_6 (by decide) gw_268 (by exact ho.2.2) rfl rfl rfl ?_
  exact jv_vret h hr dX7_init_17 ⟨rfl, (ho.mi (fun b hb => upd2_row _ _ (by omega))).nw, ⟨ho.2.2, n2_, n1_⟩, upd2_same _ _ _ _⟩
