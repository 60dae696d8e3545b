set_option maxHeartbeats 4000000 in
set_option maxRecDepth 100000 in
theorem c_day_init {g : GT} {T : TT} {Mi : MI} {Ml : ML} {a : Nat} (hk : KD g T a 10) (hT : T.1 = a + 1) (hz : Mi a = zr 10) : Ct g yX11_init cX11_init 2 none 6 193 1348 [.ref a] T Mi Ml (Pv (fun T' Mi' Ml' => NW T Mi Ml T' Mi' Ml' a 194 ∧ DayS g T' a ∧ DayM Mi' a ∧ ∀ s, s < 4 → Mi' (a + 186 + 2 * s) 1 = -1)) := by
  refine Ct.of' (plainFor_of_name (by decide +kernel)) (by exact Nat.le_of_ble_eq_true rfl) ?_
  intro x hg hR h hr hnm hnl
  subst hg
  have nf0 : nf 0 = 3 := rfl
  have nf1 : nf 1 = 4 := rfl
  have nf2 : nf 2 = 2 := rfl
  have nf3 : nf 3 = 3 := rfl
  have nf4 : nf 4 = 6 := rfl
  have nf5 : nf 5 = 4 := rfl
  have nf6 : nf 6 = 3 := rfl
  have nf7 : nf 7 = 3 := rfl
  have nf8 : nf 8 = 6 := rfl
  have nf9 : nf 9 = 3 := rfl
  have nf10 : nf 10 = 10 := rfl
  have nf11 : nf 11 = 17 := rfl
  refine jv_aload_n h dX11_init_0 rfl ?_
  refine jv_obj h dX11_init_1 gw_28 (by decide) (Nat.le_of_ble_eq_true rfl) ?_
  refine jv_abs (P := fun T9 M9 L9 => Ob x.1 T Mi Ml T9 M9 L9 a 10 1 ∧ M9 a = zr 10) ⟨Ob.start hk hT, hz⟩ ?_
  rintro T9 M9 L9 ⟨ho, own0⟩
  refine jv_aload_n h dX11_init_4 rfl ?_
  refine jv_new h dX11_init_5 cf_0 df_0 gw_31 gw_32 gw_2 (by rw [hR]; exact ⟨by show _ ≤ 193; omega, by show _ ≤ 1348; omega⟩) ?_
  refine jv_dup h dX11_init_8 rfl ?_
  refine jv_mkIN h dX11_init_9 cw_X11_11 (c_blt_init (KD.nw ho.gz) rfl) (by decide) (Nat.le_of_ble_eq_true rfl) (by rw [hR]; exact ⟨by show _ ≤ 193; omega, by show _ ≤ 1348; omega⟩) (fun T8 M8 L8 hp9 => ?_)
  obtain ⟨hnw, n1_, n2_⟩ := hp9
  have hlo := hnw.lo
  refine jv_pr 0 h dX11_init_12 cf_10 (by decide) gw_280 (hlo.kd ho.2.2) (Or.inr ⟨rfl, hnm, rfl⟩) rfl rfl ?_
  obtain ⟨o9, e9, x9, m9, r9, q9⟩ := ho.sub (by omega) hlo 0
  rw [ho.1] at n1_ n2_
  refine jv_widen (cs' := 77) (sl' := 444) (by omega) (by omega) ?_
  refine jv_abs (P := fun T9 M9 L9 => Ob x.1 T Mi Ml T9 M9 L9 a 10 78 ∧ M9 a = zr 10 ∧ T9.2.2 a 0 = some (a + 1) ∧ BltS x.1 T9 (a + 1) ∧ BltR M9 (a + 1) S0 (fun _ => S0) 0 0) ⟨o9, ((m9 a (by omega)).1.trans own0), r9, (n1_.e2 x9 (by omega)), n2_⟩ ?_
  rintro T9 M9 L9 ⟨ho, own0, n3_, n1_, n2_⟩
  refine jv_aload_n h dX11_init_15 rfl ?_
  refine jv_new h dX11_init_16 cf_0 df_0 gw_31 gw_32 gw_2 (by rw [hR]; exact ⟨by show _ ≤ 193; omega, by show _ ≤ 1348; omega⟩) ?_
  refine jv_dup h dX11_init_19 rfl ?_
  refine jv_mkIN h dX11_init_20 cw_X11_11 (c_blt_init (KD.nw ho.gz) rfl) (by decide) (Nat.le_of_ble_eq_true rfl) (by rw [hR]; exact ⟨by show _ ≤ 193; omega, by show _ ≤ 1348; omega⟩) (fun T8 M8 L8 hp9 => ?_)
  obtain ⟨hnw, n4_, n5_⟩ := hp9
  have hlo := hnw.lo
  refine jv_pr 1 h dX11_init_23 cf_10 (by decide) gw_281 (hlo.kd ho.2.2) (Or.inr ⟨rfl, hnm, rfl⟩) rfl rfl ?_
  obtain ⟨o9, e9, x9, m9, r9, q9⟩ := ho.sub (by omega) hlo 1
  rw [ho.1] at n4_ n5_
  refine jv_widen (cs' := 154) (sl' := 888) (by omega) (by omega) ?_
  refine jv_abs (P := fun T9 M9 L9 => Ob x.1 T Mi Ml T9 M9 L9 a 10 155 ∧ M9 a = zr 10 ∧ T9.2.2 a 0 = some (a + 1) ∧ BltS x.1 T9 (a + 1) ∧ BltR M9 (a + 1) S0 (fun _ => S0) 0 0 ∧ T9.2.2 a 1 = some (a + 78) ∧ BltS x.1 T9 (a + 78) ∧ BltR M9 (a + 78) S0 (fun _ => S0) 0 0) ⟨o9, ((m9 a (by omega)).1.trans own0), ((q9 _ (by decide)).trans n3_), (n1_.e2 e9 (by omega)), (n2_.fr (by decide) (fun b q1 q2 => (m9 b (by omega)).1)), r9, (n4_.e2 x9 (by omega)), n5_⟩ ?_
  rintro T9 M9 L9 ⟨ho, own0, n3_, n1_, n2_, n6_, n4_, n5_⟩
  refine jv_aload_n h dX11_init_26 rfl ?_
  refine jv_new h dX11_init_27 cf_7 df_7 gw_176 gw_177 gw_9 (by rw [hR]; exact ⟨by show _ ≤ 193; omega, by show _ ≤ 1348; omega⟩) ?_
  refine jv_dup h dX11_init_30 rfl ?_
  refine jv_mkIN h dX11_init_31 cw_X11_21 (c_tap_init (KD.nw ho.gz) rfl rnew_s) (by decide) (Nat.le_of_ble_eq_true rfl) (by rw [hR]; exact ⟨by show _ ≤ 193; omega, by show _ ≤ 1348; omega⟩) (fun T8 M8 L8 hp9 => ?_)
  obtain ⟨hnw, n7_, n8_, n9_⟩ := hp9
  have hlo := hnw.lo
  refine jv_pr 3 h dX11_init_34 cf_10 (by decide) gw_283 (hlo.kd ho.2.2) (Or.inr ⟨rfl, hnm, rfl⟩) rfl rfl ?_
  obtain ⟨o9, e9, x9, m9, r9, q9⟩ := ho.sub (by omega) hlo 3
  rw [ho.1] at n7_ n8_ n9_
  refine jv_widen (cs' := 156) (sl' := 951) (by omega) (by omega) ?_
  refine jv_abs (P := fun T9 M9 L9 => Ob x.1 T Mi Ml T9 M9 L9 a 10 157 ∧ M9 a = zr 10 ∧ T9.2.2 a 0 = some (a + 1) ∧ BltS x.1 T9 (a + 1) ∧ BltR M9 (a + 1) S0 (fun _ => S0) 0 0 ∧ T9.2.2 a 1 = some (a + 78) ∧ BltS x.1 T9 (a + 78) ∧ BltR M9 (a + 78) S0 (fun _ => S0) 0 0 ∧ T9.2.2 a 3 = some (a + 155) ∧ TapS x.1 T9 (a + 155) ∧ M9 (a + 155) 1 = nI 0 ∧ M9 (a + 155) 2 = nI 0) ⟨o9, ((m9 a (by omega)).1.trans own0), ((q9 _ (by decide)).trans n3_), (n1_.e2 e9 (by omega)), (n2_.fr (by decide) (fun b q1 q2 => (m9 b (by omega)).1)), ((q9 _ (by decide)).trans n6_), (n4_.e2 e9 (by omega)), (n5_.fr (by decide) (fun b q1 q2 => (m9 b (by omega)).1)), r9, (n7_.e2 x9 (by omega)), n8_, n9_⟩ ?_
  rintro T9 M9 L9 ⟨ho, own0, n3_, n1_, n2_, n6_, n4_, n5_, n10_, n7_, n8_, n9_⟩
  refine jv_aload_n h dX11_init_37 rfl ?_
  refine jv_new h dX11_init_38 cf_2 df_2 gw_194 gw_195 gw_10 (by rw [hR]; exact ⟨by show _ ≤ 193; omega, by show _ ≤ 1348; omega⟩) ?_
  refine jv_dup h dX11_init_41 rfl ?_
  refine jv_mkIN h dX11_init_42 cw_X11_28 (c_rdr_init (KD.nw ho.gz) rfl) (by decide) (Nat.le_of_ble_eq_true rfl) (by rw [hR]; exact ⟨by show _ ≤ 193; omega, by show _ ≤ 1348; omega⟩) (fun T8 M8 L8 hp9 => ?_)
  obtain ⟨hnw, n11_, n12_⟩ := hp9
  have hlo := hnw.lo
  refine jv_pr 4 h dX11_init_45 cf_10 (by decide) gw_284 (hlo.kd ho.2.2) (Or.inr ⟨rfl, hnm, rfl⟩) rfl rfl ?_
  obtain ⟨o9, e9, x9, m9, r9, q9⟩ := ho.sub (by omega) hlo 4
  rw [ho.1] at n11_ n12_
  refine jv_widen (cs' := 167) (sl' := 1015) (by omega) (by omega) ?_
  refine jv_abs (P := fun T9 M9 L9 => Ob x.1 T Mi Ml T9 M9 L9 a 10 168 ∧ M9 a = zr 10 ∧ T9.2.2 a 0 = some (a + 1) ∧ BltS x.1 T9 (a + 1) ∧ BltR M9 (a + 1) S0 (fun _ => S0) 0 0 ∧ T9.2.2 a 1 = some (a + 78) ∧ BltS x.1 T9 (a + 78) ∧ BltR M9 (a + 78) S0 (fun _ => S0) 0 0 ∧ T9.2.2 a 3 = some (a + 155) ∧ TapS x.1 T9 (a + 155) ∧ M9 (a + 155) 1 = nI 0 ∧ M9 (a + 155) 2 = nI 0 ∧ T9.2.2 a 4 = some (a + 157) ∧ RdrS x.1 T9 (a + 157) ∧ ScnI M9 ((a + 157) + 3)) ⟨o9, ((m9 a (by omega)).1.trans own0), ((q9 _ (by decide)).trans n3_), (n1_.e2 e9 (by omega)), (n2_.fr (by decide) (fun b q1 q2 => (m9 b (by omega)).1)), ((q9 _ (by decide)).trans n6_), (n4_.e2 e9 (by omega)), (n5_.fr (by decide) (fun b q1 q2 => (m9 b (by omega)).1)), ((q9 _ (by decide)).trans n10_), (n7_.e2 e9 (by omega)), ((congrFun (m9 _ (by omega)).1 1).trans n8_), ((congrFun (m9 _ (by omega)).1 2).trans n9_), r9, (n11_.e2 x9 (by omega)), n12_⟩ ?_
  rintro T9 M9 L9 ⟨ho, own0, n3_, n1_, n2_, n6_, n4_, n5_, n10_, n7_, n8_, n9_, n13_, n11_, n12_⟩
  refine jv_aload_n h dX11_init_48 rfl ?_
  refine jv_new h dX11_init_49 cf_5 df_5 gw_213 gw_70 gw_4 (by rw [hR]; exact ⟨by show _ ≤ 193; omega, by show _ ≤ 1348; omega⟩) ?_
  refine jv_dup h dX11_init_52 rfl ?_
  refine jv_mkI h dX11_init_53 cw_X11_35 (c_scn_init (KD.nw ho.gz) rfl rnew_s) (by decide) (Nat.le_of_ble_eq_true rfl) (by rw [hR]; exact ⟨by show _ ≤ 193; omega, by show _ ≤ 1348; omega⟩) (fun T8 M8 L8 hp9 => ?_)
  obtain ⟨hnw, n14_, n15_⟩ := hp9
  have hlo := hnw.lo
  refine jv_pr 5 h dX11_init_56 cf_10 (by decide) gw_285 (hlo.kd ho.2.2) (Or.inr ⟨rfl, hnm, rfl⟩) rfl rfl ?_
  obtain ⟨o9, e9, x9, m9, r9, q9⟩ := ho.sub (by omega) hlo 5
  rw [ho.1] at n14_ n15_
  refine jv_widen (cs' := 175) (sl' := 1061) (by omega) (by omega) ?_
  refine jv_abs (P := fun T9 M9 L9 => Ob x.1 T Mi Ml T9 M9 L9 a 10 176 ∧ M9 a = zr 10 ∧ T9.2.2 a 0 = some (a + 1) ∧ BltS x.1 T9 (a + 1) ∧ BltR M9 (a + 1) S0 (fun _ => S0) 0 0 ∧ T9.2.2 a 1 = some (a + 78) ∧ BltS x.1 T9 (a + 78) ∧ BltR M9 (a + 78) S0 (fun _ => S0) 0 0 ∧ T9.2.2 a 3 = some (a + 155) ∧ TapS x.1 T9 (a + 155) ∧ M9 (a + 155) 1 = nI 0 ∧ M9 (a + 155) 2 = nI 0 ∧ T9.2.2 a 4 = some (a + 157) ∧ RdrS x.1 T9 (a + 157) ∧ ScnI M9 ((a + 157) + 3) ∧ T9.2.2 a 5 = some (a + 168) ∧ ScnS x.1 T9 (a + 168) ∧ ScnI M9 (a + 168)) ⟨o9, ((m9 a (by omega)).1.trans own0), ((q9 _ (by decide)).trans n3_), (n1_.e2 e9 (by omega)), (n2_.fr (by decide) (fun b q1 q2 => (m9 b (by omega)).1)), ((q9 _ (by decide)).trans n6_), (n4_.e2 e9 (by omega)), (n5_.fr (by decide) (fun b q1 q2 => (m9 b (by omega)).1)), ((q9 _ (by decide)).trans n10_), (n7_.e2 e9 (by omega)), ((congrFun (m9 _ (by omega)).1 1).trans n8_), ((congrFun (m9 _ (by omega)).1 2).trans n9_), ((q9 _ (by decide)).trans n13_), (n11_.e2 e9 (by omega)), (n12_.fr (m9 _ (by omega)).1), r9, (n14_.e2 x9 (by omega)), n15_⟩ ?_
  rintro T9 M9 L9 ⟨ho, own0, n3_, n1_, n2_, n6_, n4_, n5_, n10_, n7_, n8_, n9_, n13_, n11_, n12_, n16_, n14_, n15_⟩
  refine jv_aload_n h dX11_init_59 rfl ?_
  refine jv_new h dX11_init_60 cf_8 df_8 gw_215 gw_216 gw_11 (by rw [hR]; exact ⟨by show _ ≤ 193; omega, by show _ ≤ 1348; omega⟩) ?_
  refine jv_dup h dX11_init_63 rfl ?_
  refine jv_mkIN h dX11_init_64 cw_X11_42 (c_wlk_init (KD.nw ho.gz) rfl) (by decide) (Nat.le_of_ble_eq_true rfl) (by rw [hR]; exact ⟨by show _ ≤ 193; omega, by show _ ≤ 1348; omega⟩) (fun T8 M8 L8 hp9 => ?_)
  obtain ⟨hnw, n17_⟩ := hp9
  have hlo := hnw.lo
  refine jv_pr 6 h dX11_init_67 cf_10 (by decide) gw_286 (hlo.kd ho.2.2) (Or.inr ⟨rfl, hnm, rfl⟩) rfl rfl ?_
  obtain ⟨o9, e9, x9, m9, r9, q9⟩ := ho.sub (by omega) hlo 6
  rw [ho.1] at n17_
  refine jv_widen (cs' := 178) (sl' := 1083) (by omega) (by omega) ?_
  refine jv_abs (P := fun T9 M9 L9 => Ob x.1 T Mi Ml T9 M9 L9 a 10 179 ∧ M9 a = zr 10 ∧ T9.2.2 a 0 = some (a + 1) ∧ BltS x.1 T9 (a + 1) ∧ BltR M9 (a + 1) S0 (fun _ => S0) 0 0 ∧ T9.2.2 a 1 = some (a + 78) ∧ BltS x.1 T9 (a + 78) ∧ BltR M9 (a + 78) S0 (fun _ => S0) 0 0 ∧ T9.2.2 a 3 = some (a + 155) ∧ TapS x.1 T9 (a + 155) ∧ M9 (a + 155) 1 = nI 0 ∧ M9 (a + 155) 2 = nI 0 ∧ T9.2.2 a 4 = some (a + 157) ∧ RdrS x.1 T9 (a + 157) ∧ ScnI M9 ((a + 157) + 3) ∧ T9.2.2 a 5 = some (a + 168) ∧ ScnS x.1 T9 (a + 168) ∧ ScnI M9 (a + 168) ∧ T9.2.2 a 6 = some (a + 176) ∧ WkS x.1 T9 (a + 176)) ⟨o9, ((m9 a (by omega)).1.trans own0), ((q9 _ (by decide)).trans n3_), (n1_.e2 e9 (by omega)), (n2_.fr (by decide) (fun b q1 q2 => (m9 b (by omega)).1)), ((q9 _ (by decide)).trans n6_), (n4_.e2 e9 (by omega)), (n5_.fr (by decide) (fun b q1 q2 => (m9 b (by omega)).1)), ((q9 _ (by decide)).trans n10_), (n7_.e2 e9 (by omega)), ((congrFun (m9 _ (by omega)).1 1).trans n8_), ((congrFun (m9 _ (by omega)).1 2).trans n9_), ((q9 _ (by decide)).trans n13_), (n11_.e2 e9 (by omega)), (n12_.fr (m9 _ (by omega)).1), ((q9 _ (by decide)).trans n16_), (n14_.e2 e9 (by omega)), (n15_.fr (m9 _ (by omega)).1), r9, (n17_.e2 x9 (by omega))⟩ ?_
  rintro T9 M9 L9 ⟨ho, own0, n3_, n1_, n2_, n6_, n4_, n5_, n10_, n7_, n8_, n9_, n13_, n11_, n12_, n16_, n14_, n15_, n18_, n17_⟩
  refine jv_aload_n h dX11_init_70 rfl ?_
  refine jv_new h dX11_init_71 cf_8 df_8 gw_215 gw_216 gw_11 (by rw [hR]; exact ⟨by show _ ≤ 193; omega, by show _ ≤ 1348; omega⟩) ?_
  refine jv_dup h dX11_init_74 rfl ?_
  refine jv_mkIN h dX11_init_75 cw_X11_42 (c_wlk_init (KD.nw ho.gz) rfl) (by decide) (Nat.le_of_ble_eq_true rfl) (by rw [hR]; exact ⟨by show _ ≤ 193; omega, by show _ ≤ 1348; omega⟩) (fun T8 M8 L8 hp9 => ?_)
  obtain ⟨hnw, n19_⟩ := hp9
  have hlo := hnw.lo
  refine jv_pr 7 h dX11_init_78 cf_10 (by decide) gw_287 (hlo.kd ho.2.2) (Or.inr ⟨rfl, hnm, rfl⟩) rfl rfl ?_
  obtain ⟨o9, e9, x9, m9, r9, q9⟩ := ho.sub (by omega) hlo 7
  rw [ho.1] at n19_
  refine jv_widen (cs' := 181) (sl' := 1105) (by omega) (by omega) ?_
  refine jv_abs (P := fun T9 M9 L9 => Ob x.1 T Mi Ml T9 M9 L9 a 10 182 ∧ M9 a = zr 10 ∧ T9.2.2 a 0 = some (a + 1) ∧ BltS x.1 T9 (a + 1) ∧ BltR M9 (a + 1) S0 (fun _ => S0) 0 0 ∧ T9.2.2 a 1 = some (a + 78) ∧ BltS x.1 T9 (a + 78) ∧ BltR M9 (a + 78) S0 (fun _ => S0) 0 0 ∧ T9.2.2 a 3 = some (a + 155) ∧ TapS x.1 T9 (a + 155) ∧ M9 (a + 155) 1 = nI 0 ∧ M9 (a + 155) 2 = nI 0 ∧ T9.2.2 a 4 = some (a + 157) ∧ RdrS x.1 T9 (a + 157) ∧ ScnI M9 ((a + 157) + 3) ∧ T9.2.2 a 5 = some (a + 168) ∧ ScnS x.1 T9 (a + 168) ∧ ScnI M9 (a + 168) ∧ T9.2.2 a 6 = some (a + 176) ∧ WkS x.1 T9 (a + 176) ∧ T9.2.2 a 7 = some (a + 179) ∧ WkS x.1 T9 (a + 179)) ⟨o9, ((m9 a (by omega)).1.trans own0), ((q9 _ (by decide)).trans n3_), (n1_.e2 e9 (by omega)), (n2_.fr (by decide) (fun b q1 q2 => (m9 b (by omega)).1)), ((q9 _ (by decide)).trans n6_), (n4_.e2 e9 (by omega)), (n5_.fr (by decide) (fun b q1 q2 => (m9 b (by omega)).1)), ((q9 _ (by decide)).trans n10_), (n7_.e2 e9 (by omega)), ((congrFun (m9 _ (by omega)).1 1).trans n8_), ((congrFun (m9 _ (by omega)).1 2).trans n9_), ((q9 _ (by decide)).trans n13_), (n11_.e2 e9 (by omega)), (n12_.fr (m9 _ (by omega)).1), ((q9 _ (by decide)).trans n16_), (n14_.e2 e9 (by omega)), (n15_.fr (m9 _ (by omega)).1), ((q9 _ (by decide)).trans n18_), (n17_.e2 e9 (by omega)), r9, (n19_.e2 x9 (by omega))⟩ ?_
  rintro T9 M9 L9 ⟨ho, own0, n3_, n1_, n2_, n6_, n4_, n5_, n10_, n7_, n8_, n9_, n13_, n11_, n12_, n16_, n14_, n15_, n18_, n17_, n20_, n19_⟩
  refine jv_aload_n h dX11_init_81 rfl ?_
  refine jv_new h dX11_init_82 cf_9 df_9 gw_243 gw_244 gw_12 (by rw [hR]; exact ⟨by show _ ≤ 193; omega, by show _ ≤ 1348; omega⟩) ?_
  refine jv_dup h dX11_init_85 rfl ?_
  refine jv_mkIN h dX11_init_86 cw_X11_52 (c_wei_init (KD.nw ho.gz) rfl) (by decide) (Nat.le_of_ble_eq_true rfl) (by rw [hR]; exact ⟨by show _ ≤ 193; omega, by show _ ≤ 1348; omega⟩) (fun T8 M8 L8 hp9 => ?_)
  obtain ⟨hnw, n21_⟩ := hp9
  have hlo := hnw.lo
  refine jv_pr 8 h dX11_init_89 cf_10 (by decide) gw_288 (hlo.kd ho.2.2) (Or.inr ⟨rfl, hnm, rfl⟩) rfl rfl ?_
  obtain ⟨o9, e9, x9, m9, r9, q9⟩ := ho.sub (by omega) hlo 8
  rw [ho.1] at n21_
  refine jv_widen (cs' := 184) (sl' := 1236) (by omega) (by omega) ?_
  refine jv_abs (P := fun T9 M9 L9 => Ob x.1 T Mi Ml T9 M9 L9 a 10 185 ∧ M9 a = zr 10 ∧ T9.2.2 a 0 = some (a + 1) ∧ BltS x.1 T9 (a + 1) ∧ BltR M9 (a + 1) S0 (fun _ => S0) 0 0 ∧ T9.2.2 a 1 = some (a + 78) ∧ BltS x.1 T9 (a + 78) ∧ BltR M9 (a + 78) S0 (fun _ => S0) 0 0 ∧ T9.2.2 a 3 = some (a + 155) ∧ TapS x.1 T9 (a + 155) ∧ M9 (a + 155) 1 = nI 0 ∧ M9 (a + 155) 2 = nI 0 ∧ T9.2.2 a 4 = some (a + 157) ∧ RdrS x.1 T9 (a + 157) ∧ ScnI M9 ((a + 157) + 3) ∧ T9.2.2 a 5 = some (a + 168) ∧ ScnS x.1 T9 (a + 168) ∧ ScnI M9 (a + 168) ∧ T9.2.2 a 6 = some (a + 176) ∧ WkS x.1 T9 (a + 176) ∧ T9.2.2 a 7 = some (a + 179) ∧ WkS x.1 T9 (a + 179) ∧ T9.2.2 a 8 = some (a + 182) ∧ WeiS x.1 T9 (a + 182)) ⟨o9, ((m9 a (by omega)).1.trans own0), ((q9 _ (by decide)).trans n3_), (n1_.e2 e9 (by omega)), (n2_.fr (by decide) (fun b q1 q2 => (m9 b (by omega)).1)), ((q9 _ (by decide)).trans n6_), (n4_.e2 e9 (by omega)), (n5_.fr (by decide) (fun b q1 q2 => (m9 b (by omega)).1)), ((q9 _ (by decide)).trans n10_), (n7_.e2 e9 (by omega)), ((congrFun (m9 _ (by omega)).1 1).trans n8_), ((congrFun (m9 _ (by omega)).1 2).trans n9_), ((q9 _ (by decide)).trans n13_), (n11_.e2 e9 (by omega)), (n12_.fr (m9 _ (by omega)).1), ((q9 _ (by decide)).trans n16_), (n14_.e2 e9 (by omega)), (n15_.fr (m9 _ (by omega)).1), ((q9 _ (by decide)).trans n18_), (n17_.e2 e9 (by omega)), ((q9 _ (by decide)).trans n20_), (n19_.e2 e9 (by omega)), r9, (n21_.e2 x9 (by omega))⟩ ?_
  rintro T9 M9 L9 ⟨ho, own0, n3_, n1_, n2_, n6_, n4_, n5_, n10_, n7_, n8_, n9_, n13_, n11_, n12_, n16_, n14_, n15_, n18_, n17_, n20_, n19_, n22_, n21_⟩
  refine jv_aload_n h dX11_init_92 rfl ?_
  refine jv_iconst (nI 4) h dX11_init_93 (by decide) ?_
  refine jv_newr (C := "DayBelt$Sheet") (kd := 16) h dX11_init_94 (NF_nI _) (by decide) (by decide) rfl gw_259 (Or.inr (Or.inr rfl)) (by rw [hR]; exact ⟨by show _ ≤ 193; omega, by show _ ≤ 1348; omega⟩) ?_
  have hlo := Lo.ar (T9 := T9) (M9 := M9) (L9 := L9) (kd := 16) (n := 4)
  refine jv_pr 9 h dX11_init_97 cf_10 (by decide) gw_289 (hlo.kd ho.2.2) (Or.inr ⟨rfl, hnm, rfl⟩) rfl rfl ?_
  obtain ⟨o9, e9, x9, m9, r9, q9⟩ := ho.sub (by omega) hlo 9
  have a9 := AR.nw (T := T9) (kd := 16) (n := 4) ho.gz
  rw [ho.1] at a9
  refine jv_widen (cs' := 185) (sl' := 1240) (by omega) (by omega) ?_
  refine jv_abs (P := fun T9 M9 L9 => Ob x.1 T Mi Ml T9 M9 L9 a 10 186 ∧ M9 a = zr 10 ∧ T9.2.2 a 0 = some (a + 1) ∧ BltS x.1 T9 (a + 1) ∧ BltR M9 (a + 1) S0 (fun _ => S0) 0 0 ∧ T9.2.2 a 1 = some (a + 78) ∧ BltS x.1 T9 (a + 78) ∧ BltR M9 (a + 78) S0 (fun _ => S0) 0 0 ∧ T9.2.2 a 3 = some (a + 155) ∧ TapS x.1 T9 (a + 155) ∧ M9 (a + 155) 1 = nI 0 ∧ M9 (a + 155) 2 = nI 0 ∧ T9.2.2 a 4 = some (a + 157) ∧ RdrS x.1 T9 (a + 157) ∧ ScnI M9 ((a + 157) + 3) ∧ T9.2.2 a 5 = some (a + 168) ∧ ScnS x.1 T9 (a + 168) ∧ ScnI M9 (a + 168) ∧ T9.2.2 a 6 = some (a + 176) ∧ WkS x.1 T9 (a + 176) ∧ T9.2.2 a 7 = some (a + 179) ∧ WkS x.1 T9 (a + 179) ∧ T9.2.2 a 8 = some (a + 182) ∧ WeiS x.1 T9 (a + 182) ∧ T9.2.2 a 9 = some (a + 185) ∧ AR x.1 T9 (a + 185) 16 4) ⟨o9, ((m9 a (by omega)).1.trans own0), ((q9 _ (by decide)).trans n3_), (n1_.e2 e9 (by omega)), (n2_.fr (by decide) (fun b q1 q2 => (m9 b (by omega)).1)), ((q9 _ (by decide)).trans n6_), (n4_.e2 e9 (by omega)), (n5_.fr (by decide) (fun b q1 q2 => (m9 b (by omega)).1)), ((q9 _ (by decide)).trans n10_), (n7_.e2 e9 (by omega)), ((congrFun (m9 _ (by omega)).1 1).trans n8_), ((congrFun (m9 _ (by omega)).1 2).trans n9_), ((q9 _ (by decide)).trans n13_), (n11_.e2 e9 (by omega)), (n12_.fr (m9 _ (by omega)).1), ((q9 _ (by decide)).trans n16_), (n14_.e2 e9 (by omega)), (n15_.fr (m9 _ (by omega)).1), ((q9 _ (by decide)).trans n18_), (n17_.e2 e9 (by omega)), ((q9 _ (by decide)).trans n20_), (n19_.e2 e9 (by omega)), ((q9 _ (by decide)).trans n22_), (n21_.e2 e9 (by omega)), r9, (AR.pt a9)⟩ ?_
  rintro T9 M9 L9 ⟨ho, own0, n3_, n1_, n2_, n6_, n4_, n5_, n10_, n7_, n8_, n9_, n13_, n11_, n12_, n16_, n14_, n15_, n18_, n17_, n20_, n19_, n22_, n21_, n24_, n23_⟩
  have hDA : DayA x.1 T9 a := ⟨⟨n3_, n1_⟩, ⟨n6_, n4_⟩, ⟨n10_, n7_⟩, ⟨n13_, n11_⟩, ⟨n16_, n14_⟩, ⟨n18_, n17_⟩, ⟨n20_, n19_⟩, n22_, n21_⟩
  have hDM : DayM M9 a := ⟨by rw [own0]; rfl, n2_, n8_, n9_, n12_⟩
  refine jv_iconst (nI 0) h dX11_init_100 (by decide) ?_
  refine jv_istore_n h dX11_init_101 (lt_nl hnl (by decide)) ?_
  have hl102 : ∀ (n : Nat) (i : Nat) (T9 : TT) (M9 : MI) (L9 : ML), 5 - i < n → i ≤ 4 → Ob x.1 T Mi Ml T9 M9 L9 a 10 (186 + 2 * i) → AR x.1 T9 (a + 185) 16 4 → T9.2.2 a 9 = some (a + 185) → DayA x.1 T9 a → DayM M9 a → (∀ p, p < i → ShtS x.1 T9 (a + 186 + 2 * p)) → (∀ p, p < i → T9.2.2 (a + 185) p = some (a + 186 + 2 * p)) → (∀ p, p < i → M9 (a + 186 + 2 * p) 1 = -1) → V x (185 + 2 * i) (1240 + 27 * i) T9 M9 L9 102 [some (.ref a), some (.int (nI i))] [] := by
    intro n
    induction n with
    | zero => intro i T9 M9 L9 hN9 hi ho har hrr hda hdm hps hpr hpi; exact absurd hN9 (by omega)
    | succ n ih =>
      intro i T9 M9 L9 hN9 hi ho har hrr hda hdm hps hpr hpi
      refine jv_iload_n h dX11_init_102 rfl ?_
      refine jv_iconst (nI 4) h dX11_init_103 (by decide) ?_
      refine jv_nge 126 h dX11_init_104 (by decide) (by repeat (with_reducible first | exact NF_nI _ | assumption | refine NF_add ?_ ?_ | refine NF_mul ?_ ?_)) (by repeat (with_reducible first | exact NF_nI _ | assumption | refine NF_add ?_ ?_ | refine NF_mul ?_ ?_)) ⟨by omega, by omega⟩ (fun c104 => ?_) (fun c104 => ?_)
      · refine jv_widen (cs' := 193) (sl' := 1348) (by omega) (by omega) ?_
        have h8 : i = 4 := by omega
        subst h8
        obtain ⟨a1_, a2_, ⟨a3_, s3_⟩, ⟨a4_, s4_⟩, a5_, ⟨a6_, s6_⟩, ⟨a7_, s7_⟩, a8_, s8_⟩ := hda
        obtain ⟨k3_, l3_, m3_⟩ := s3_
        obtain ⟨k4_, l4_, m4_, n4_, o4_⟩ := s4_
        obtain ⟨k6_, l6_, m6_⟩ := s6_
        obtain ⟨k7_, l7_, m7_⟩ := s7_
        obtain ⟨k8_, l8_, m8_, n8_, o8_⟩ := s8_
        exact jv_vret h hr dX11_init_126 ⟨rfl, ho.nw, ⟨ho.2.2, a1_, a2_, ⟨a3_, k3_, l3_, m3_⟩, ⟨a4_, k4_, l4_, m4_, n4_, o4_⟩, a5_, ⟨a6_, k6_, l6_, m6_⟩, ⟨a7_, k7_, l7_, m7_⟩, ⟨a8_, k8_, l8_, m8_, n8_, o8_⟩, hrr, har, hpr, (fun s hs => (hps s hs).1), (fun s hs => by rw [show a + 187 + 2 * s = a + 186 + 2 * s + 1 by omega]; exact (hps s hs).2.1), (fun s hs => by rw [show a + 187 + 2 * s = a + 186 + 2 * s + 1 by omega]; exact (hps s hs).2.2)⟩, hdm, hpi⟩
      · refine jv_aload_n h dX11_init_107 rfl ?_
        refine jv_gr 9 h dX11_init_108 cf_10 (by decide) gw_289 (by first | exact ho.2.2 | assumption) (by first | exact ho.2.2 | assumption) ?_
        refine jv_iload_n h dX11_init_111 rfl ?_
        refine jv_new h dX11_init_112 cf_6 df_6 gw_259 gw_261 gw_13 (by rw [hR]; exact ⟨by show _ ≤ 193; omega, by show _ ≤ 1348; omega⟩) ?_
        refine jv_dup h dX11_init_115 rfl ?_
        refine jv_mkIN h dX11_init_116 cw_X11_63 (c_sht_init (KD.nw ho.gz) rfl) (by decide) (Nat.le_of_ble_eq_true rfl) (by rw [hR]; exact ⟨by show _ ≤ 193; omega, by show _ ≤ 1348; omega⟩) (fun T8 M8 L8 hp9 => ?_)
        obtain ⟨hnw, hsc, hsn⟩ := hp9
        have hlo := hnw.lo
        refine jv_aast (C := "DayBelt$Sheet") h dX11_init_119 (hlo.arr har) (by decide) rfl cf_6 hsc.1 (NF_nI _) ⟨by omega, by decide⟩ ?_
        obtain ⟨o9, e9, y9, x9, m9, t9, r9, q9⟩ := ho.st (c := a + 185) (by omega) hlo i T9.1
        rw [ho.1] at hsc hsn
        refine jv_iinc (nI (i + 1)) h dX11_init_120 rfl (lt_nl hnl (by decide)) (nI_inc i) ?_
        refine jv_goto 102 h dX11_init_123 (by decide) ?_
        refine jv_widen (cs' := 185 + 2 * (i + 1)) (sl' := 1240 + 27 * (i + 1)) (by omega) (by omega) ?_
        have eN9 : a + (186 + 2 * i) = a + 186 + 2 * i := by omega
        exact ih (i + 1) _ _ _ (by omega) (by omega) (by rw [show 186 + 2 * (i + 1) = 186 + 2 * i + 2 by omega]; exact o9) (AR.pt (hlo.arr har)) (e9.rf (by omega) hrr) (hda.e2 e9) (hdm.fr (fun b hb => (m9 b (by omega)).1)) (fun p hp => by
          rcases (show p = i ∨ p < i by omega) with z | z
          · rw [z, ← eN9]; exact hsc.e2 x9 (by omega)
          · exact (hps p z).e2 y9 (by omega)) (fun p hp => by
          rcases (show p = i ∨ p < i by omega) with z | z
          · rw [z]; show upd2 _ _ _ _ _ _ = _; rw [r9, ho.1, eN9]
          · exact (q9 p (by omega)).trans (hpr p z)) (fun p hp => by
          rcases (show p = i ∨ p < i by omega) with z | z
          · rw [z, ← eN9]; exact hsn
          · rw [(m9 _ (by omega)).1]; exact hpi p z)
  exact hl102 6 0 _ _ _ (by omega) (by omega) ho n23_ n24_ hDA hDM (fun p hp => absurd hp (by omega)) (fun p hp => absurd hp (by omega)) (fun p hp => absurd hp (by omega))
set_option maxHeartbeats 4000000 in
set_option maxRecDepth 100000 in
theorem c_mod_init {g : GT} {T : TT} {Mi : MI} {Ml : ML} {a : Nat} (hk : KD g T a 11) (hT : T.1 = a + 1) (hz : Mi a = zr 11) : Ct g yX12_init cX12_init 2 none 2 11 1250 [.ref a] T Mi Ml (Pv (fun T' Mi' Ml' => NW T Mi Ml T' Mi' Ml' a 12 ∧ ModS g T' a ∧ NowR Mi' (a + 1) S0 ∧ Mi' a 2 = nI 0 ∧ Mi' a 8 = nI 0 ∧ Mi' a 11 = nI 0 ∧ ∀ s, s < 4 → Mi' (a + 7) s = -1)) := by
  refine Ct.of' (plainFor_of_name (by decide +kernel)) (by exact Nat.le_of_ble_eq_true rfl) ?_
  intro x hg hR h hr hnm hnl
  subst hg
  have nf0 : nf 0 = 3 := rfl
  have nf1 : nf 1 = 4 := rfl
  have nf2 : nf 2 = 2 := rfl
  have nf3 : nf 3 = 3 := rfl
  have nf4 : nf 4 = 6 := rfl
  have nf5 : nf 5 = 4 := rfl
  have nf6 : nf 6 = 3 := rfl
  have nf7 : nf 7 = 3 := rfl
  have nf8 : nf 8 = 6 := rfl
  have nf9 : nf 9 = 3 := rfl
  have nf10 : nf 10 = 10 := rfl
  have nf11 : nf 11 = 17 := rfl
  refine jv_aload_n h dX12_init_0 rfl ?_
  refine jv_obj h dX12_init_1 gw_899 (by decide) (Nat.le_of_ble_eq_true rfl) ?_
  refine jv_abs (P := fun T9 M9 L9 => Ob x.1 T Mi Ml T9 M9 L9 a 11 1 ∧ M9 a = zr 11) ⟨Ob.start hk hT, hz⟩ ?_
  rintro T9 M9 L9 ⟨ho, own0⟩
  refine jv_aload_n h dX12_init_4 rfl ?_
  refine jv_bipush (nI 54) h dX12_init_5 (by decide) ?_
  refine jv_newi h dX12_init_7 (NF_nI _) (by decide) gw_68 (by rw [hR]; exact ⟨by show _ ≤ 11; omega, by show _ ≤ 1250; omega⟩) ?_
  have hlo := Lo.ai (T9 := T9) (M9 := M9) (L9 := L9) (kd := 12) (n := 54) (r := fun _ => nI 0)
  refine jv_pr 0 h dX12_init_9 cf_11 (by decide) gw_900 (hlo.kd ho.2.2) (Or.inr ⟨rfl, hnm, rfl⟩) rfl rfl ?_
  obtain ⟨o9, e9, x9, m9, r9, q9⟩ := ho.sub (by omega) hlo 0
  have a9 := AR.nw (T := T9) (kd := 12) (n := 54) ho.gz
  rw [ho.1] at a9
  have n2_ : rnew M9 T9.1 (fun _ => nI 0) (a + 1) = fun _ => nI 0 := by rw [← ho.1]; exact rnew_s
  refine jv_widen (cs' := 1) (sl' := 54) (by omega) (by omega) ?_
  refine jv_abs (P := fun T9 M9 L9 => Ob x.1 T Mi Ml T9 M9 L9 a 11 2 ∧ M9 a = zr 11 ∧ T9.2.2 a 0 = some (a + 1) ∧ AR x.1 T9 (a + 1) 12 54 ∧ M9 (a + 1) = (fun _ => nI 0)) ⟨o9, ((m9 a (by omega)).1.trans own0), r9, (AR.pt a9), n2_⟩ ?_
  rintro T9 M9 L9 ⟨ho, own0, n3_, n1_, n2_⟩
  refine jv_aload_n h dX12_init_12 rfl ?_
  refine jv_bipush (nI 60) h dX12_init_13 (by decide) ?_
  refine jv_newi h dX12_init_15 (NF_nI _) (by decide) gw_68 (by rw [hR]; exact ⟨by show _ ≤ 11; omega, by show _ ≤ 1250; omega⟩) ?_
  have hlo := Lo.ai (T9 := T9) (M9 := M9) (L9 := L9) (kd := 12) (n := 60) (r := fun _ => nI 0)
  refine jv_pr 1 h dX12_init_17 cf_11 (by decide) gw_901 (hlo.kd ho.2.2) (Or.inr ⟨rfl, hnm, rfl⟩) rfl rfl ?_
  obtain ⟨o9, e9, x9, m9, r9, q9⟩ := ho.sub (by omega) hlo 1
  have a9 := AR.nw (T := T9) (kd := 12) (n := 60) ho.gz
  rw [ho.1] at a9
  refine jv_widen (cs' := 2) (sl' := 114) (by omega) (by omega) ?_
  refine jv_abs (P := fun T9 M9 L9 => Ob x.1 T Mi Ml T9 M9 L9 a 11 3 ∧ M9 a = zr 11 ∧ T9.2.2 a 0 = some (a + 1) ∧ AR x.1 T9 (a + 1) 12 54 ∧ M9 (a + 1) = (fun _ => nI 0) ∧ T9.2.2 a 1 = some (a + 2) ∧ AR x.1 T9 (a + 2) 12 60) ⟨o9, ((m9 a (by omega)).1.trans own0), ((q9 _ (by decide)).trans n3_), (n1_.e2 e9 (by omega)), ((m9 _ (by omega)).1.trans n2_), r9, (AR.pt a9)⟩ ?_
  rintro T9 M9 L9 ⟨ho, own0, n3_, n1_, n2_, n5_, n4_⟩
  refine jv_aload_n h dX12_init_20 rfl ?_
  refine jv_bipush (nI 12) h dX12_init_21 (by decide) ?_
  refine jv_newi h dX12_init_23 (NF_nI _) (by decide) gw_68 (by rw [hR]; exact ⟨by show _ ≤ 11; omega, by show _ ≤ 1250; omega⟩) ?_
  have hlo := Lo.ai (T9 := T9) (M9 := M9) (L9 := L9) (kd := 12) (n := 12) (r := fun _ => nI 0)
  refine jv_pr 5 h dX12_init_25 cf_11 (by decide) gw_905 (hlo.kd ho.2.2) (Or.inr ⟨rfl, hnm, rfl⟩) rfl rfl ?_
  obtain ⟨o9, e9, x9, m9, r9, q9⟩ := ho.sub (by omega) hlo 5
  have a9 := AR.nw (T := T9) (kd := 12) (n := 12) ho.gz
  rw [ho.1] at a9
  refine jv_widen (cs' := 3) (sl' := 126) (by omega) (by omega) ?_
  refine jv_abs (P := fun T9 M9 L9 => Ob x.1 T Mi Ml T9 M9 L9 a 11 4 ∧ M9 a = zr 11 ∧ T9.2.2 a 0 = some (a + 1) ∧ AR x.1 T9 (a + 1) 12 54 ∧ M9 (a + 1) = (fun _ => nI 0) ∧ T9.2.2 a 1 = some (a + 2) ∧ AR x.1 T9 (a + 2) 12 60 ∧ T9.2.2 a 5 = some (a + 3) ∧ AR x.1 T9 (a + 3) 12 12) ⟨o9, ((m9 a (by omega)).1.trans own0), ((q9 _ (by decide)).trans n3_), (n1_.e2 e9 (by omega)), ((m9 _ (by omega)).1.trans n2_), ((q9 _ (by decide)).trans n5_), (n4_.e2 e9 (by omega)), r9, (AR.pt a9)⟩ ?_
  rintro T9 M9 L9 ⟨ho, own0, n3_, n1_, n2_, n5_, n4_, n7_, n6_⟩
  refine jv_aload_n h dX12_init_28 rfl ?_
  refine jv_bipush (nI 24) h dX12_init_29 (by decide) ?_
  refine jv_newi h dX12_init_31 (NF_nI _) (by decide) gw_68 (by rw [hR]; exact ⟨by show _ ≤ 11; omega, by show _ ≤ 1250; omega⟩) ?_
  have hlo := Lo.ai (T9 := T9) (M9 := M9) (L9 := L9) (kd := 12) (n := 24) (r := fun _ => nI 0)
  refine jv_pr 6 h dX12_init_33 cf_11 (by decide) gw_906 (hlo.kd ho.2.2) (Or.inr ⟨rfl, hnm, rfl⟩) rfl rfl ?_
  obtain ⟨o9, e9, x9, m9, r9, q9⟩ := ho.sub (by omega) hlo 6
  have a9 := AR.nw (T := T9) (kd := 12) (n := 24) ho.gz
  rw [ho.1] at a9
  refine jv_widen (cs' := 4) (sl' := 150) (by omega) (by omega) ?_
  refine jv_abs (P := fun T9 M9 L9 => Ob x.1 T Mi Ml T9 M9 L9 a 11 5 ∧ M9 a = zr 11 ∧ T9.2.2 a 0 = some (a + 1) ∧ AR x.1 T9 (a + 1) 12 54 ∧ M9 (a + 1) = (fun _ => nI 0) ∧ T9.2.2 a 1 = some (a + 2) ∧ AR x.1 T9 (a + 2) 12 60 ∧ T9.2.2 a 5 = some (a + 3) ∧ AR x.1 T9 (a + 3) 12 12 ∧ T9.2.2 a 6 = some (a + 4) ∧ AR x.1 T9 (a + 4) 12 24) ⟨o9, ((m9 a (by omega)).1.trans own0), ((q9 _ (by decide)).trans n3_), (n1_.e2 e9 (by omega)), ((m9 _ (by omega)).1.trans n2_), ((q9 _ (by decide)).trans n5_), (n4_.e2 e9 (by omega)), ((q9 _ (by decide)).trans n7_), (n6_.e2 e9 (by omega)), r9, (AR.pt a9)⟩ ?_
  rintro T9 M9 L9 ⟨ho, own0, n3_, n1_, n2_, n5_, n4_, n7_, n6_, n9_, n8_⟩
  refine jv_aload_n h dX12_init_36 rfl ?_
  refine jv_sipush (nI 432) h dX12_init_37 (by decide) ?_
  refine jv_newi h dX12_init_40 (NF_nI _) (by decide) gw_68 (by rw [hR]; exact ⟨by show _ ≤ 11; omega, by show _ ≤ 1250; omega⟩) ?_
  have hlo := Lo.ai (T9 := T9) (M9 := M9) (L9 := L9) (kd := 12) (n := 432) (r := fun _ => nI 0)
  refine jv_pr 7 h dX12_init_42 cf_11 (by decide) gw_907 (hlo.kd ho.2.2) (Or.inr ⟨rfl, hnm, rfl⟩) rfl rfl ?_
  obtain ⟨o9, e9, x9, m9, r9, q9⟩ := ho.sub (by omega) hlo 7
  have a9 := AR.nw (T := T9) (kd := 12) (n := 432) ho.gz
  rw [ho.1] at a9
  refine jv_widen (cs' := 5) (sl' := 582) (by omega) (by omega) ?_
  refine jv_abs (P := fun T9 M9 L9 => Ob x.1 T Mi Ml T9 M9 L9 a 11 6 ∧ M9 a = zr 11 ∧ T9.2.2 a 0 = some (a + 1) ∧ AR x.1 T9 (a + 1) 12 54 ∧ M9 (a + 1) = (fun _ => nI 0) ∧ T9.2.2 a 1 = some (a + 2) ∧ AR x.1 T9 (a + 2) 12 60 ∧ T9.2.2 a 5 = some (a + 3) ∧ AR x.1 T9 (a + 3) 12 12 ∧ T9.2.2 a 6 = some (a + 4) ∧ AR x.1 T9 (a + 4) 12 24 ∧ T9.2.2 a 7 = some (a + 5) ∧ AR x.1 T9 (a + 5) 12 432) ⟨o9, ((m9 a (by omega)).1.trans own0), ((q9 _ (by decide)).trans n3_), (n1_.e2 e9 (by omega)), ((m9 _ (by omega)).1.trans n2_), ((q9 _ (by decide)).trans n5_), (n4_.e2 e9 (by omega)), ((q9 _ (by decide)).trans n7_), (n6_.e2 e9 (by omega)), ((q9 _ (by decide)).trans n9_), (n8_.e2 e9 (by omega)), r9, (AR.pt a9)⟩ ?_
  rintro T9 M9 L9 ⟨ho, own0, n3_, n1_, n2_, n5_, n4_, n7_, n6_, n9_, n8_, n11_, n10_⟩
  refine jv_aload_n h dX12_init_45 rfl ?_
  refine jv_sipush (nI 486) h dX12_init_46 (by decide) ?_
  refine jv_newi h dX12_init_49 (NF_nI _) (by decide) gw_68 (by rw [hR]; exact ⟨by show _ ≤ 11; omega, by show _ ≤ 1250; omega⟩) ?_
  have hlo := Lo.ai (T9 := T9) (M9 := M9) (L9 := L9) (kd := 12) (n := 486) (r := fun _ => nI 0)
  refine jv_pr 9 h dX12_init_51 cf_11 (by decide) gw_909 (hlo.kd ho.2.2) (Or.inr ⟨rfl, hnm, rfl⟩) rfl rfl ?_
  obtain ⟨o9, e9, x9, m9, r9, q9⟩ := ho.sub (by omega) hlo 9
  have a9 := AR.nw (T := T9) (kd := 12) (n := 486) ho.gz
  rw [ho.1] at a9
  refine jv_widen (cs' := 6) (sl' := 1068) (by omega) (by omega) ?_
  refine jv_abs (P := fun T9 M9 L9 => Ob x.1 T Mi Ml T9 M9 L9 a 11 7 ∧ M9 a = zr 11 ∧ T9.2.2 a 0 = some (a + 1) ∧ AR x.1 T9 (a + 1) 12 54 ∧ M9 (a + 1) = (fun _ => nI 0) ∧ T9.2.2 a 1 = some (a + 2) ∧ AR x.1 T9 (a + 2) 12 60 ∧ T9.2.2 a 5 = some (a + 3) ∧ AR x.1 T9 (a + 3) 12 12 ∧ T9.2.2 a 6 = some (a + 4) ∧ AR x.1 T9 (a + 4) 12 24 ∧ T9.2.2 a 7 = some (a + 5) ∧ AR x.1 T9 (a + 5) 12 432 ∧ T9.2.2 a 9 = some (a + 6) ∧ AR x.1 T9 (a + 6) 12 486) ⟨o9, ((m9 a (by omega)).1.trans own0), ((q9 _ (by decide)).trans n3_), (n1_.e2 e9 (by omega)), ((m9 _ (by omega)).1.trans n2_), ((q9 _ (by decide)).trans n5_), (n4_.e2 e9 (by omega)), ((q9 _ (by decide)).trans n7_), (n6_.e2 e9 (by omega)), ((q9 _ (by decide)).trans n9_), (n8_.e2 e9 (by omega)), ((q9 _ (by decide)).trans n11_), (n10_.e2 e9 (by omega)), r9, (AR.pt a9)⟩ ?_
  rintro T9 M9 L9 ⟨ho, own0, n3_, n1_, n2_, n5_, n4_, n7_, n6_, n9_, n8_, n11_, n10_, n13_, n12_⟩
  refine jv_aload_n h dX12_init_54 rfl ?_
  refine jv_iconst (nI 4) h dX12_init_55 (by decide) ?_
  refine jv_newi h dX12_init_56 (NF_nI _) (by decide) gw_68 (by rw [hR]; exact ⟨by show _ ≤ 11; omega, by show _ ≤ 1250; omega⟩) ?_
  have hlo := Lo.ai (T9 := T9) (M9 := M9) (L9 := L9) (kd := 12) (n := 4) (r := fun _ => nI 0)
  refine jv_pr 12 h dX12_init_58 cf_11 (by decide) gw_912 (hlo.kd ho.2.2) (Or.inr ⟨rfl, hnm, rfl⟩) rfl rfl ?_
  obtain ⟨o9, e9, x9, m9, r9, q9⟩ := ho.sub (by omega) hlo 12
  have a9 := AR.nw (T := T9) (kd := 12) (n := 4) ho.gz
  rw [ho.1] at a9
  refine jv_widen (cs' := 7) (sl' := 1072) (by omega) (by omega) ?_
  refine jv_abs (P := fun T9 M9 L9 => Ob x.1 T Mi Ml T9 M9 L9 a 11 8 ∧ M9 a = zr 11 ∧ T9.2.2 a 0 = some (a + 1) ∧ AR x.1 T9 (a + 1) 12 54 ∧ M9 (a + 1) = (fun _ => nI 0) ∧ T9.2.2 a 1 = some (a + 2) ∧ AR x.1 T9 (a + 2) 12 60 ∧ T9.2.2 a 5 = some (a + 3) ∧ AR x.1 T9 (a + 3) 12 12 ∧ T9.2.2 a 6 = some (a + 4) ∧ AR x.1 T9 (a + 4) 12 24 ∧ T9.2.2 a 7 = some (a + 5) ∧ AR x.1 T9 (a + 5) 12 432 ∧ T9.2.2 a 9 = some (a + 6) ∧ AR x.1 T9 (a + 6) 12 486 ∧ T9.2.2 a 12 = some (a + 7) ∧ AR x.1 T9 (a + 7) 12 4) ⟨o9, ((m9 a (by omega)).1.trans own0), ((q9 _ (by decide)).trans n3_), (n1_.e2 e9 (by omega)), ((m9 _ (by omega)).1.trans n2_), ((q9 _ (by decide)).trans n5_), (n4_.e2 e9 (by omega)), ((q9 _ (by decide)).trans n7_), (n6_.e2 e9 (by omega)), ((q9 _ (by decide)).trans n9_), (n8_.e2 e9 (by omega)), ((q9 _ (by decide)).trans n11_), (n10_.e2 e9 (by omega)), ((q9 _ (by decide)).trans n13_), (n12_.e2 e9 (by omega)), r9, (AR.pt a9)⟩ ?_
  rintro T9 M9 L9 ⟨ho, own0, n3_, n1_, n2_, n5_, n4_, n7_, n6_, n9_, n8_, n11_, n10_, n13_, n12_, n15_, n14_⟩
  refine jv_aload_n h dX12_init_61 rfl ?_
  refine jv_iconst (nI 4) h dX12_init_62 (by decide) ?_
  refine jv_newi h dX12_init_63 (NF_nI _) (by decide) gw_68 (by rw [hR]; exact ⟨by show _ ≤ 11; omega, by show _ ≤ 1250; omega⟩) ?_
  have hlo := Lo.ai (T9 := T9) (M9 := M9) (L9 := L9) (kd := 12) (n := 4) (r := fun _ => nI 0)
  refine jv_pr 13 h dX12_init_65 cf_11 (by decide) gw_913 (hlo.kd ho.2.2) (Or.inr ⟨rfl, hnm, rfl⟩) rfl rfl ?_
  obtain ⟨o9, e9, x9, m9, r9, q9⟩ := ho.sub (by omega) hlo 13
  have a9 := AR.nw (T := T9) (kd := 12) (n := 4) ho.gz
  rw [ho.1] at a9
  refine jv_widen (cs' := 8) (sl' := 1076) (by omega) (by omega) ?_
  refine jv_abs (P := fun T9 M9 L9 => Ob x.1 T Mi Ml T9 M9 L9 a 11 9 ∧ M9 a = zr 11 ∧ T9.2.2 a 0 = some (a + 1) ∧ AR x.1 T9 (a + 1) 12 54 ∧ M9 (a + 1) = (fun _ => nI 0) ∧ T9.2.2 a 1 = some (a + 2) ∧ AR x.1 T9 (a + 2) 12 60 ∧ T9.2.2 a 5 = some (a + 3) ∧ AR x.1 T9 (a + 3) 12 12 ∧ T9.2.2 a 6 = some (a + 4) ∧ AR x.1 T9 (a + 4) 12 24 ∧ T9.2.2 a 7 = some (a + 5) ∧ AR x.1 T9 (a + 5) 12 432 ∧ T9.2.2 a 9 = some (a + 6) ∧ AR x.1 T9 (a + 6) 12 486 ∧ T9.2.2 a 12 = some (a + 7) ∧ AR x.1 T9 (a + 7) 12 4 ∧ T9.2.2 a 13 = some (a + 8) ∧ AR x.1 T9 (a + 8) 12 4) ⟨o9, ((m9 a (by omega)).1.trans own0), ((q9 _ (by decide)).trans n3_), (n1_.e2 e9 (by omega)), ((m9 _ (by omega)).1.trans n2_), ((q9 _ (by decide)).trans n5_), (n4_.e2 e9 (by omega)), ((q9 _ (by decide)).trans n7_), (n6_.e2 e9 (by omega)), ((q9 _ (by decide)).trans n9_), (n8_.e2 e9 (by omega)), ((q9 _ (by decide)).trans n11_), (n10_.e2 e9 (by omega)), ((q9 _ (by decide)).trans n13_), (n12_.e2 e9 (by omega)), ((q9 _ (by decide)).trans n15_), (n14_.e2 e9 (by omega)), r9, (AR.pt a9)⟩ ?_
  rintro T9 M9 L9 ⟨ho, own0, n3_, n1_, n2_, n5_, n4_, n7_, n6_, n9_, n8_, n11_, n10_, n13_, n12_, n15_, n14_, n17_, n16_⟩
  refine jv_aload_n h dX12_init_68 rfl ?_
  refine jv_bipush (nI 96) h dX12_init_69 (by decide) ?_
  refine jv_newl h dX12_init_71 (NF_nI _) (by decide) gw_279 (by rw [hR]; exact ⟨by show _ ≤ 11; omega, by show _ ≤ 1250; omega⟩) ?_
  have hlo := Lo.al (T9 := T9) (M9 := M9) (L9 := L9) (kd := 13) (n := 96) (r := fun _ => lN 0)
  refine jv_pr 14 h dX12_init_73 cf_11 (by decide) gw_914 (hlo.kd ho.2.2) (Or.inr ⟨rfl, hnm, rfl⟩) rfl rfl ?_
  obtain ⟨o9, e9, x9, m9, r9, q9⟩ := ho.sub (by omega) hlo 14
  have a9 := AR.nw (T := T9) (kd := 13) (n := 96) ho.gz
  rw [ho.1] at a9
  refine jv_widen (cs' := 9) (sl' := 1172) (by omega) (by omega) ?_
  refine jv_abs (P := fun T9 M9 L9 => Ob x.1 T Mi Ml T9 M9 L9 a 11 10 ∧ M9 a = zr 11 ∧ T9.2.2 a 0 = some (a + 1) ∧ AR x.1 T9 (a + 1) 12 54 ∧ M9 (a + 1) = (fun _ => nI 0) ∧ T9.2.2 a 1 = some (a + 2) ∧ AR x.1 T9 (a + 2) 12 60 ∧ T9.2.2 a 5 = some (a + 3) ∧ AR x.1 T9 (a + 3) 12 12 ∧ T9.2.2 a 6 = some (a + 4) ∧ AR x.1 T9 (a + 4) 12 24 ∧ T9.2.2 a 7 = some (a + 5) ∧ AR x.1 T9 (a + 5) 12 432 ∧ T9.2.2 a 9 = some (a + 6) ∧ AR x.1 T9 (a + 6) 12 486 ∧ T9.2.2 a 12 = some (a + 7) ∧ AR x.1 T9 (a + 7) 12 4 ∧ T9.2.2 a 13 = some (a + 8) ∧ AR x.1 T9 (a + 8) 12 4 ∧ T9.2.2 a 14 = some (a + 9) ∧ AR x.1 T9 (a + 9) 13 96) ⟨o9, ((m9 a (by omega)).1.trans own0), ((q9 _ (by decide)).trans n3_), (n1_.e2 e9 (by omega)), ((m9 _ (by omega)).1.trans n2_), ((q9 _ (by decide)).trans n5_), (n4_.e2 e9 (by omega)), ((q9 _ (by decide)).trans n7_), (n6_.e2 e9 (by omega)), ((q9 _ (by decide)).trans n9_), (n8_.e2 e9 (by omega)), ((q9 _ (by decide)).trans n11_), (n10_.e2 e9 (by omega)), ((q9 _ (by decide)).trans n13_), (n12_.e2 e9 (by omega)), ((q9 _ (by decide)).trans n15_), (n14_.e2 e9 (by omega)), ((q9 _ (by decide)).trans n17_), (n16_.e2 e9 (by omega)), r9, (AR.pt a9)⟩ ?_
  rintro T9 M9 L9 ⟨ho, own0, n3_, n1_, n2_, n5_, n4_, n7_, n6_, n9_, n8_, n11_, n10_, n13_, n12_, n15_, n14_, n17_, n16_, n19_, n18_⟩
  refine jv_aload_n h dX12_init_76 rfl ?_
  refine jv_bipush (nI 24) h dX12_init_77 (by decide) ?_
  refine jv_newl h dX12_init_79 (NF_nI _) (by decide) gw_279 (by rw [hR]; exact ⟨by show _ ≤ 11; omega, by show _ ≤ 1250; omega⟩) ?_
  have hlo := Lo.al (T9 := T9) (M9 := M9) (L9 := L9) (kd := 13) (n := 24) (r := fun _ => lN 0)
  refine jv_pr 15 h dX12_init_81 cf_11 (by decide) gw_915 (hlo.kd ho.2.2) (Or.inr ⟨rfl, hnm, rfl⟩) rfl rfl ?_
  obtain ⟨o9, e9, x9, m9, r9, q9⟩ := ho.sub (by omega) hlo 15
  have a9 := AR.nw (T := T9) (kd := 13) (n := 24) ho.gz
  rw [ho.1] at a9
  refine jv_widen (cs' := 10) (sl' := 1196) (by omega) (by omega) ?_
  refine jv_abs (P := fun T9 M9 L9 => Ob x.1 T Mi Ml T9 M9 L9 a 11 11 ∧ M9 a = zr 11 ∧ T9.2.2 a 0 = some (a + 1) ∧ AR x.1 T9 (a + 1) 12 54 ∧ M9 (a + 1) = (fun _ => nI 0) ∧ T9.2.2 a 1 = some (a + 2) ∧ AR x.1 T9 (a + 2) 12 60 ∧ T9.2.2 a 5 = some (a + 3) ∧ AR x.1 T9 (a + 3) 12 12 ∧ T9.2.2 a 6 = some (a + 4) ∧ AR x.1 T9 (a + 4) 12 24 ∧ T9.2.2 a 7 = some (a + 5) ∧ AR x.1 T9 (a + 5) 12 432 ∧ T9.2.2 a 9 = some (a + 6) ∧ AR x.1 T9 (a + 6) 12 486 ∧ T9.2.2 a 12 = some (a + 7) ∧ AR x.1 T9 (a + 7) 12 4 ∧ T9.2.2 a 13 = some (a + 8) ∧ AR x.1 T9 (a + 8) 12 4 ∧ T9.2.2 a 14 = some (a + 9) ∧ AR x.1 T9 (a + 9) 13 96 ∧ T9.2.2 a 15 = some (a + 10) ∧ AR x.1 T9 (a + 10) 13 24) ⟨o9, ((m9 a (by omega)).1.trans own0), ((q9 _ (by decide)).trans n3_), (n1_.e2 e9 (by omega)), ((m9 _ (by omega)).1.trans n2_), ((q9 _ (by decide)).trans n5_), (n4_.e2 e9 (by omega)), ((q9 _ (by decide)).trans n7_), (n6_.e2 e9 (by omega)), ((q9 _ (by decide)).trans n9_), (n8_.e2 e9 (by omega)), ((q9 _ (by decide)).trans n11_), (n10_.e2 e9 (by omega)), ((q9 _ (by decide)).trans n13_), (n12_.e2 e9 (by omega)), ((q9 _ (by decide)).trans n15_), (n14_.e2 e9 (by omega)), ((q9 _ (by decide)).trans n17_), (n16_.e2 e9 (by omega)), ((q9 _ (by decide)).trans n19_), (n18_.e2 e9 (by omega)), r9, (AR.pt a9)⟩ ?_
  rintro T9 M9 L9 ⟨ho, own0, n3_, n1_, n2_, n5_, n4_, n7_, n6_, n9_, n8_, n11_, n10_, n13_, n12_, n15_, n14_, n17_, n16_, n19_, n18_, n21_, n20_⟩
  refine jv_aload_n h dX12_init_84 rfl ?_
  refine jv_bipush (nI 54) h dX12_init_85 (by decide) ?_
  refine jv_newi h dX12_init_87 (NF_nI _) (by decide) gw_68 (by rw [hR]; exact ⟨by show _ ≤ 11; omega, by show _ ≤ 1250; omega⟩) ?_
  have hlo := Lo.ai (T9 := T9) (M9 := M9) (L9 := L9) (kd := 12) (n := 54) (r := fun _ => nI 0)
  refine jv_pr 16 h dX12_init_89 cf_11 (by decide) gw_916 (hlo.kd ho.2.2) (Or.inr ⟨rfl, hnm, rfl⟩) rfl rfl ?_
  obtain ⟨o9, e9, x9, m9, r9, q9⟩ := ho.sub (by omega) hlo 16
  have a9 := AR.nw (T := T9) (kd := 12) (n := 54) ho.gz
  rw [ho.1] at a9
  refine jv_widen (cs' := 11) (sl' := 1250) (by omega) (by omega) ?_
  refine jv_abs (P := fun T9 M9 L9 => Ob x.1 T Mi Ml T9 M9 L9 a 11 12 ∧ M9 a = zr 11 ∧ T9.2.2 a 0 = some (a + 1) ∧ AR x.1 T9 (a + 1) 12 54 ∧ M9 (a + 1) = (fun _ => nI 0) ∧ T9.2.2 a 1 = some (a + 2) ∧ AR x.1 T9 (a + 2) 12 60 ∧ T9.2.2 a 5 = some (a + 3) ∧ AR x.1 T9 (a + 3) 12 12 ∧ T9.2.2 a 6 = some (a + 4) ∧ AR x.1 T9 (a + 4) 12 24 ∧ T9.2.2 a 7 = some (a + 5) ∧ AR x.1 T9 (a + 5) 12 432 ∧ T9.2.2 a 9 = some (a + 6) ∧ AR x.1 T9 (a + 6) 12 486 ∧ T9.2.2 a 12 = some (a + 7) ∧ AR x.1 T9 (a + 7) 12 4 ∧ T9.2.2 a 13 = some (a + 8) ∧ AR x.1 T9 (a + 8) 12 4 ∧ T9.2.2 a 14 = some (a + 9) ∧ AR x.1 T9 (a + 9) 13 96 ∧ T9.2.2 a 15 = some (a + 10) ∧ AR x.1 T9 (a + 10) 13 24 ∧ T9.2.2 a 16 = some (a + 11) ∧ AR x.1 T9 (a + 11) 12 54) ⟨o9, ((m9 a (by omega)).1.trans own0), ((q9 _ (by decide)).trans n3_), (n1_.e2 e9 (by omega)), ((m9 _ (by omega)).1.trans n2_), ((q9 _ (by decide)).trans n5_), (n4_.e2 e9 (by omega)), ((q9 _ (by decide)).trans n7_), (n6_.e2 e9 (by omega)), ((q9 _ (by decide)).trans n9_), (n8_.e2 e9 (by omega)), ((q9 _ (by decide)).trans n11_), (n10_.e2 e9 (by omega)), ((q9 _ (by decide)).trans n13_), (n12_.e2 e9 (by omega)), ((q9 _ (by decide)).trans n15_), (n14_.e2 e9 (by omega)), ((q9 _ (by decide)).trans n17_), (n16_.e2 e9 (by omega)), ((q9 _ (by decide)).trans n19_), (n18_.e2 e9 (by omega)), ((q9 _ (by decide)).trans n21_), (n20_.e2 e9 (by omega)), r9, (AR.pt a9)⟩ ?_
  rintro T9 M9 L9 ⟨ho, own0, n3_, n1_, n2_, n5_, n4_, n7_, n6_, n9_, n8_, n11_, n10_, n13_, n12_, n15_, n14_, n17_, n16_, n19_, n18_, n21_, n20_, n23_, n22_⟩
  refine jv_aload_n h dX12_init_92 rfl ?_
  refine jv_gr 0 h dX12_init_93 cf_11 (by decide) gw_900 (by first | exact ho.2.2 | assumption) (by first | exact ho.2.2 | assumption) ?_
  refine jv_iconst (nI 2) h dX12_init_96 (by decide) ?_
  refine jv_iconst (nI 3) h dX12_init_97 (by decide) ?_
  refine jv_iast h dX12_init_98 (by first | exact ho.2.2 | assumption) (by repeat (with_reducible first | exact NF_nI _ | assumption | refine NF_add ?_ ?_ | refine NF_mul ?_ ?_)) ⟨by omega, by decide⟩ ?_
  refine jv_aload_n h dX12_init_99 rfl ?_
  refine jv_gr 0 h dX12_init_100 cf_11 (by decide) gw_900 (by first | exact ho.2.2 | assumption) (by first | exact ho.2.2 | assumption) ?_
  refine jv_iconst (nI 3) h dX12_init_103 (by decide) ?_
  refine jv_bipush (nI 20) h dX12_init_104 (by decide) ?_
  refine jv_iast h dX12_init_106 (by first | exact ho.2.2 | assumption) (by repeat (with_reducible first | exact NF_nI _ | assumption | refine NF_add ?_ ?_ | refine NF_mul ?_ ?_)) ⟨by omega, by decide⟩ ?_
  refine jv_aload_n h dX12_init_107 rfl ?_
  refine jv_gr 0 h dX12_init_108 cf_11 (by decide) gw_900 (by first | exact ho.2.2 | assumption) (by first | exact ho.2.2 | assumption) ?_
  refine jv_iconst (nI 4) h dX12_init_111 (by decide) ?_
  refine jv_bipush (nI 12) h dX12_init_112 (by decide) ?_
  refine jv_iast h dX12_init_114 (by first | exact ho.2.2 | assumption) (by repeat (with_reducible first | exact NF_nI _ | assumption | refine NF_add ?_ ?_ | refine NF_mul ?_ ?_)) ⟨by omega, by decide⟩ ?_
  refine jv_aload_n h dX12_init_115 rfl ?_
  refine jv_gr 0 h dX12_init_116 cf_11 (by decide) gw_900 (by first | exact ho.2.2 | assumption) (by first | exact ho.2.2 | assumption) ?_
  refine jv_iconst (nI 5) h dX12_init_119 (by decide) ?_
  refine jv_iconst (nI 1) h dX12_init_120 (by decide) ?_
  refine jv_iast h dX12_init_121 (by first | exact ho.2.2 | assumption) (by repeat (with_reducible first | exact NF_nI _ | assumption | refine NF_add ?_ ?_ | refine NF_mul ?_ ?_)) ⟨by omega, by decide⟩ ?_
  refine jv_iconst (nI 0) h dX12_init_122 (by decide) ?_
  refine jv_istore_n h dX12_init_123 (lt_nl hnl (by decide)) ?_
  have hl124 : ∀ (n : Nat) (i : Nat) (M1 : MI), 13 - i < n → i ≤ 12 → (∀ b, b ≠ a + 1 → M1 b = M9 b) → (∀ k, k < 6 + i → M1 (a + 1) k = nI (S0 k)) → (∀ k, 6 + i ≤ k → M1 (a + 1) k = nI 0) → V x 11 1250 T9 M1 L9 124 [some (.ref a), some (.int (nI i))] [] := by
    intro n
    induction n with
    | zero => intro i M1 hN9 hi f1 f2 f3; exact absurd hN9 (by omega)
    | succ n ih =>
      intro i M1 hN9 hi f1 f2 f3
      refine jv_iload_n h dX12_init_124 rfl ?_
      refine jv_bipush (nI 12) h dX12_init_125 (by decide) ?_
      refine jv_nge 149 h dX12_init_127 (by decide) (by repeat (with_reducible first | exact NF_nI _ | assumption | refine NF_add ?_ ?_ | refine NF_mul ?_ ?_)) (by repeat (with_reducible first | exact NF_nI _ | assumption | refine NF_add ?_ ?_ | refine NF_mul ?_ ?_)) ⟨by omega, by omega⟩ (fun c127 => ?_) (fun c127 => ?_)
      · refine jv_iconst (nI 0) h dX12_init_149 (by decide) ?_
        refine jv_istore_n h dX12_init_150 (lt_nl hnl (by decide)) ?_
        have hl151 : ∀ (n : Nat) (j : Nat) (M2 : MI), 5 - j < n → j ≤ 4 → (∀ b, b ≠ a + 7 → M2 b = M1 b) → (∀ k, k < j → M2 (a + 7) k = -1) → V x 11 1250 T9 M2 L9 151 [some (.ref a), some (.int (nI j))] [] := by
          intro n
          induction n with
          | zero => intro j M2 hN8 hj g1 g2; exact absurd hN8 (by omega)
          | succ n ih =>
            intro j M2 hN8 hj g1 g2
            refine jv_iload_n h dX12_init_151 rfl ?_
            refine jv_iconst (nI 4) h dX12_init_152 (by decide) ?_
            refine jv_nge 169 h dX12_init_153 (by decide) (by repeat (with_reducible first | exact NF_nI _ | assumption | refine NF_add ?_ ?_ | refine NF_mul ?_ ?_)) (by repeat (with_reducible first | exact NF_nI _ | assumption | refine NF_add ?_ ?_ | refine NF_mul ?_ ?_)) ⟨by omega, by omega⟩ (fun c153 => ?_) (fun c153 => ?_)
            · exact jv_vret h hr dX12_init_169 ⟨rfl, (ho.mi (fun b hb => (g1 b (by omega)).trans (f1 b (by omega)))).nw, ⟨ho.2.2, ⟨n3_, n1_⟩, ⟨n5_, n4_⟩, ⟨n7_, n6_⟩, ⟨n9_, n8_⟩, ⟨n11_, n10_⟩, ⟨n13_, n12_⟩, ⟨n15_, n14_⟩, ⟨n17_, n16_⟩, ⟨n19_, n18_⟩, ⟨n21_, n20_⟩, ⟨n23_, n22_⟩⟩, fun k hk => by
      rw [g1 _ (by omega)]
      by_cases h18 : k < 18
      · rw [eN_lo h18]; exact f2 k (by omega)
      · rw [S0_hi (by omega)]; exact f3 k (by omega), by rw [g1 _ (by omega), f1 _ (by omega), own0]; rfl, by rw [g1 _ (by omega), f1 _ (by omega), own0]; rfl, by rw [g1 _ (by omega), f1 _ (by omega), own0]; rfl, fun s hs => g2 s (by omega)⟩
            · refine jv_aload_n h dX12_init_156 rfl ?_
              refine jv_gr 12 h dX12_init_157 cf_11 (by decide) gw_912 (by first | exact ho.2.2 | assumption) (by first | exact ho.2.2 | assumption) ?_
              refine jv_iload_n h dX12_init_160 rfl ?_
              refine jv_iconst (-1) h dX12_init_161 (by decide) ?_
              refine jv_iast h dX12_init_162 (by first | exact ho.2.2 | assumption) (by repeat (with_reducible first | exact NF_nI _ | assumption | refine NF_add ?_ ?_ | refine NF_mul ?_ ?_)) ⟨by omega, by decide⟩ ?_
              refine jv_iinc (nI (j + 1)) h dX12_init_163 rfl (lt_nl hnl (by decide)) (nI_inc j) ?_
              refine jv_goto 151 h dX12_init_166 (by decide) ?_
              exact ih (j + 1) _ (by omega) (by omega) (fun b hb => (upd2_row _ _ hb).trans (g1 b hb)) (fun k hk => by
                rcases (show k = j ∨ k < j by omega) with z | z
                · rw [z, upd2_same]
                · rw [upd2_ne _ _ (by omega)]; exact g2 k z)
        exact hl151 6 0 _ (by omega) (by omega) (fun _ _ => rfl) (fun k hk => absurd hk (by omega))
      · refine jv_aload_n h dX12_init_130 rfl ?_
        refine jv_gr 0 h dX12_init_131 cf_11 (by decide) gw_900 (by first | exact ho.2.2 | assumption) (by first | exact ho.2.2 | assumption) ?_
        refine jv_bipush (nI 6) h dX12_init_134 (by decide) ?_
        refine jv_iload_n h dX12_init_136 rfl ?_
        first | refine jv_iaddN h dX12_init_137 (by repeat (with_reducible first | exact NF_nI _ | assumption | refine NF_add ?_ ?_ | refine NF_mul ?_ ?_)) (by repeat (with_reducible first | exact NF_nI _ | assumption | refine NF_add ?_ ?_ | refine NF_mul ?_ ?_)) ?_ | refine jv_iadd h dX12_init_137 ?_
        refine jv_iload_n h dX12_init_138 rfl ?_
        refine jv_bipush (nI 7) h dX12_init_139 (by decide) ?_
        refine jv_iremN h dX12_init_141 (by repeat (with_reducible first | exact NF_nI _ | assumption | refine NF_add ?_ ?_ | refine NF_mul ?_ ?_)) (by repeat (with_reducible first | exact NF_nI _ | assumption | refine NF_add ?_ ?_ | refine NF_mul ?_ ?_)) (by omega) ⟨by omega, by omega⟩ ?_
        refine jv_iast h dX12_init_142 (by first | exact ho.2.2 | assumption) (by repeat (with_reducible first | exact NF_nI _ | assumption | refine NF_add ?_ ?_ | refine NF_mul ?_ ?_)) ⟨by omega, by decide⟩ ?_
        refine jv_iinc (nI (i + 1)) h dX12_init_143 rfl (lt_nl hnl (by decide)) (nI_inc i) ?_
        refine jv_goto 124 h dX12_init_146 (by decide) ?_
        exact ih (i + 1) _ (by omega) (by omega) (fun b hb => (upd2_row _ _ hb).trans (f1 b hb)) (fun k hk => by
          rcases (show k = 6 + i ∨ k < 6 + i by omega) with z | z
          · rw [z, upd2_same, S0_d (by omega)]
          · rw [upd2_ne _ _ (by omega)]; exact f2 k z) (fun k hk => by
          rw [upd2_ne _ _ (by omega)]; exact f3 k (by omega))
  exact hl124 14 0 _ (by omega) (by omega) (fun b hb => by rw [upd2_row _ _ hb, upd2_row _ _ hb, upd2_row _ _ hb, upd2_row _ _ hb]) (fun k hk => by
    rcases (show k = 0 ∨ k = 1 ∨ k = 2 ∨ k = 3 ∨ k = 4 ∨ k = 5 by omega) with z | z | z | z | z | z
    · subst z; rw [upd2_ne _ _ (by omega), upd2_ne _ _ (by omega), upd2_ne _ _ (by omega), upd2_ne _ _ (by omega)]; exact congrFun n2_ 0
    · subst z; rw [upd2_ne _ _ (by omega), upd2_ne _ _ (by omega), upd2_ne _ _ (by omega), upd2_ne _ _ (by omega)]; exact congrFun n2_ 1
    · subst z; rw [upd2_ne _ _ (by omega), upd2_ne _ _ (by omega), upd2_ne _ _ (by omega), upd2_same]; rfl
    · subst z; rw [upd2_ne _ _ (by omega), upd2_ne _ _ (by omega), upd2_same]; rfl
    · subst z; rw [upd2_ne _ _ (by omega), upd2_same]; rfl
    · subst z; rw [upd2_same]; rfl) (fun k hk => by
    rw [upd2_ne _ _ (by omega), upd2_ne _ _ (by omega), upd2_ne _ _ (by omega), upd2_ne _ _ (by omega)]; exact congrFun n2_ k)
