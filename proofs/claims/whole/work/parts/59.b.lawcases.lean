set_option maxHeartbeats 4000000 in
set_option maxRecDepth 100000 in
theorem lc_steps {x : CX} {T : TT} {Mi : MI} {Ml : ML} {b L X i : Nat} {xs : Nat → Int32} {σ : ST} (h : Ok x RL cL_law 14) (hR : x.2.2.2.2.1 = room_1) (hx : Sc x b L xs) (hL : L ≤ 448) (hi : i + 7 ≤ L) (hC : CInv x.1 T Mi Ml X σ) (hM : MInv x.1 T Mi Ml (X + 194) σ) (hP : PInv σ)
    (hk : ∀ (M2 : MI) (L2 : ML) (σ2 : ST), CInv x.1 T M2 L2 X σ2 → MInv x.1 T M2 L2 (X + 194) σ2 → PInv σ2 → V x 206 2625 T M2 L2 1287 [some (.ref b), some (.ref X), some (.ref (X + 194)), some (.int (nI i))] []) : V x 206 2625 T Mi Ml 472 [some (.ref b), some (.ref X), some (.ref (X + 194)), some (.int (nI i))] [] := by
  refine jv_aload_n h dL_law_472 rfl ?_
  refine jv_aload_n h dL_law_473 rfl ?_
  refine jv_iload_n h dL_law_474 rfl ?_
  refine jv_iconst (nI 1) h dL_law_475 (by decide) ?_
  first | refine jv_iaddN h dL_law_476 (by repeat (with_reducible first | exact NF_nI _ | assumption | refine NF_add ?_ ?_ | refine NF_mul ?_ ?_)) (by repeat (with_reducible first | exact NF_nI _ | assumption | refine NF_add ?_ ?_ | refine NF_mul ?_ ?_)) ?_ | refine jv_iadd h dL_law_476 ?_
  refine jv_sld h hx dL_law_477 (by repeat (with_reducible first | exact NF_nI _ | assumption | refine NF_add ?_ ?_ | refine NF_mul ?_ ?_)) ⟨by omega, by omega⟩ ?_
  refine jv_VGi [_] h dL_law_478 cw_L_57 cf_10 hC.1.1 (C_steps hC hP _) (by decide) rfl rfl (Nat.le_of_ble_eq_true rfl) (by rw [hR]; exact ⟨Nat.le_of_ble_eq_true rfl, Nat.le_of_ble_eq_true rfl⟩) (fun v_c Mc Lc hpc => ?_)
  obtain ⟨e1, hC1, f1⟩ := hpc
  have hM1 : MInv x.1 T Mc Lc (X + 194) σ := hM.fr (fun q q1 q2 => f1 q (by omega))
  refine jv_aload_n h dL_law_481 rfl ?_
  refine jv_aload_n h dL_law_482 rfl ?_
  refine jv_iload_n h dL_law_483 rfl ?_
  refine jv_iconst (nI 1) h dL_law_484 (by decide) ?_
  first | refine jv_iaddN h dL_law_485 (by repeat (with_reducible first | exact NF_nI _ | assumption | refine NF_add ?_ ?_ | refine NF_mul ?_ ?_)) (by repeat (with_reducible first | exact NF_nI _ | assumption | refine NF_add ?_ ?_ | refine NF_mul ?_ ?_)) ?_ | refine jv_iadd h dL_law_485 ?_
  refine jv_sld h hx dL_law_486 (by repeat (with_reducible first | exact NF_nI _ | assumption | refine NF_add ?_ ?_ | refine NF_mul ?_ ?_)) ⟨by omega, by omega⟩ ?_
  refine jv_VGi [_] h dL_law_487 cw_L_60 cf_11 hM1.1.1 (M_steps hM1 hP _) (by decide) rfl rfl (Nat.le_of_ble_eq_true rfl) (by rw [hR]; exact ⟨Nat.le_of_ble_eq_true rfl, Nat.le_of_ble_eq_true rfl⟩) (fun v_m Mm Lm hpm => ?_)
  obtain ⟨e2, hM2, f2⟩ := hpm
  have hC2 := hC1.fr (p_steps _ hP) (fun q q1 q2 => f2 q (by omega))
  refine jv_icmp_eq 1287 h dL_law_490 (by decide) (fun c490 => ?_) (fun c490 => ?_)
  · exact hk _ _ _ hC2 hM2 (p_steps _ hP)
  · exact absurd (e1.trans e2.symm) c490
set_option maxHeartbeats 4000000 in
set_option maxRecDepth 100000 in
theorem lc_drift {x : CX} {T : TT} {Mi : MI} {Ml : ML} {b L X i : Nat} {xs : Nat → Int32} {σ : ST} (h : Ok x RL cL_law 14) (hR : x.2.2.2.2.1 = room_1) (hx : Sc x b L xs) (hL : L ≤ 448) (hi : i + 7 ≤ L) (hC : CInv x.1 T Mi Ml X σ) (hM : MInv x.1 T Mi Ml (X + 194) σ) (hP : PInv σ)
    (hk : ∀ (M2 : MI) (L2 : ML) (σ2 : ST), CInv x.1 T M2 L2 X σ2 → MInv x.1 T M2 L2 (X + 194) σ2 → PInv σ2 → V x 206 2625 T M2 L2 1287 [some (.ref b), some (.ref X), some (.ref (X + 194)), some (.int (nI i))] []) : V x 206 2625 T Mi Ml 495 [some (.ref b), some (.ref X), some (.ref (X + 194)), some (.int (nI i))] [] := by
  refine jv_aload_n h dL_law_495 rfl ?_
  refine jv_aload_n h dL_law_496 rfl ?_
  refine jv_iload_n h dL_law_497 rfl ?_
  refine jv_iconst (nI 1) h dL_law_498 (by decide) ?_
  first | refine jv_iaddN h dL_law_499 (by repeat (with_reducible first | exact NF_nI _ | assumption | refine NF_add ?_ ?_ | refine NF_mul ?_ ?_)) (by repeat (with_reducible first | exact NF_nI _ | assumption | refine NF_add ?_ ?_ | refine NF_mul ?_ ?_)) ?_ | refine jv_iadd h dL_law_499 ?_
  refine jv_sld h hx dL_law_500 (by repeat (with_reducible first | exact NF_nI _ | assumption | refine NF_add ?_ ?_ | refine NF_mul ?_ ?_)) ⟨by omega, by omega⟩ ?_
  refine jv_VGi [_] h dL_law_501 cw_L_61 cf_10 hC.1.1 (C_drift hC hP _) (by decide) rfl rfl (Nat.le_of_ble_eq_true rfl) (by rw [hR]; exact ⟨Nat.le_of_ble_eq_true rfl, Nat.le_of_ble_eq_true rfl⟩) (fun v_c Mc Lc hpc => ?_)
  obtain ⟨e1, hC1, f1⟩ := hpc
  have hM1 : MInv x.1 T Mc Lc (X + 194) σ := hM.fr (fun q q1 q2 => f1 q (by omega))
  refine jv_aload_n h dL_law_504 rfl ?_
  refine jv_aload_n h dL_law_505 rfl ?_
  refine jv_iload_n h dL_law_506 rfl ?_
  refine jv_iconst (nI 1) h dL_law_507 (by decide) ?_
  first | refine jv_iaddN h dL_law_508 (by repeat (with_reducible first | exact NF_nI _ | assumption | refine NF_add ?_ ?_ | refine NF_mul ?_ ?_)) (by repeat (with_reducible first | exact NF_nI _ | assumption | refine NF_add ?_ ?_ | refine NF_mul ?_ ?_)) ?_ | refine jv_iadd h dL_law_508 ?_
  refine jv_sld h hx dL_law_509 (by repeat (with_reducible first | exact NF_nI _ | assumption | refine NF_add ?_ ?_ | refine NF_mul ?_ ?_)) ⟨by omega, by omega⟩ ?_
  refine jv_VGi [_] h dL_law_510 cw_L_64 cf_11 hM1.1.1 (M_drift hM1 hP _) (by decide) rfl rfl (Nat.le_of_ble_eq_true rfl) (by rw [hR]; exact ⟨Nat.le_of_ble_eq_true rfl, Nat.le_of_ble_eq_true rfl⟩) (fun v_m Mm Lm hpm => ?_)
  obtain ⟨e2, hM2, f2⟩ := hpm
  have hC2 := hC1.fr (p_drift _ hP) (fun q q1 q2 => f2 q (by omega))
  refine jv_icmp_eq 1287 h dL_law_513 (by decide) (fun c513 => ?_) (fun c513 => ?_)
  · exact hk _ _ _ hC2 hM2 (p_drift _ hP)
  · exact absurd (e1.trans e2.symm) c513
set_option maxHeartbeats 4000000 in
set_option maxRecDepth 100000 in
theorem lc_undo {x : CX} {T : TT} {Mi : MI} {Ml : ML} {b L X i : Nat} {xs : Nat → Int32} {σ : ST} (h : Ok x RL cL_law 14) (hR : x.2.2.2.2.1 = room_1) (hx : Sc x b L xs) (hL : L ≤ 448) (hi : i + 7 ≤ L) (hC : CInv x.1 T Mi Ml X σ) (hM : MInv x.1 T Mi Ml (X + 194) σ) (hP : PInv σ)
    (hk : ∀ (M2 : MI) (L2 : ML) (σ2 : ST), CInv x.1 T M2 L2 X σ2 → MInv x.1 T M2 L2 (X + 194) σ2 → PInv σ2 → V x 206 2625 T M2 L2 1287 [some (.ref b), some (.ref X), some (.ref (X + 194)), some (.int (nI i))] []) : V x 206 2625 T Mi Ml 518 [some (.ref b), some (.ref X), some (.ref (X + 194)), some (.int (nI i))] [] := by
  refine jv_aload_n h dL_law_518 rfl ?_
  refine jv_VGi [] h dL_law_519 cw_L_65 cf_10 hC.1.1 (C_undo hC hP) (by decide) rfl rfl (Nat.le_of_ble_eq_true rfl) (by rw [hR]; exact ⟨Nat.le_of_ble_eq_true rfl, Nat.le_of_ble_eq_true rfl⟩) (fun v_c Mc Lc hpc => ?_)
  obtain ⟨e1, hC1, f1⟩ := hpc
  have hM1 : MInv x.1 T Mc Lc (X + 194) σ := hM.fr (fun q q1 q2 => f1 q (by omega))
  refine jv_aload_n h dL_law_522 rfl ?_
  refine jv_VGi [] h dL_law_523 cw_L_68 cf_11 hM1.1.1 (M_undo hM1 hP) (by decide) rfl rfl (Nat.le_of_ble_eq_true rfl) (by rw [hR]; exact ⟨Nat.le_of_ble_eq_true rfl, Nat.le_of_ble_eq_true rfl⟩) (fun v_m Mm Lm hpm => ?_)
  obtain ⟨e2, hM2, f2⟩ := hpm
  have hC2 := hC1.fr (p_undo hP) (fun q q1 q2 => f2 q (by omega))
  refine jv_icmp_eq 1287 h dL_law_526 (by decide) (fun c526 => ?_) (fun c526 => ?_)
  · exact hk _ _ _ hC2 hM2 (p_undo hP)
  · exact absurd (e1.trans e2.symm) c526
set_option maxHeartbeats 4000000 in
set_option maxRecDepth 100000 in
theorem lc_seed {x : CX} {T : TT} {Mi : MI} {Ml : ML} {b L X i : Nat} {xs : Nat → Int32} {σ : ST} (h : Ok x RL cL_law 14) (hR : x.2.2.2.2.1 = room_1) (hx : Sc x b L xs) (hL : L ≤ 448) (hi : i + 7 ≤ L) (hC : CInv x.1 T Mi Ml X σ) (hM : MInv x.1 T Mi Ml (X + 194) σ) (hP : PInv σ)
    (hk : ∀ (M2 : MI) (L2 : ML) (σ2 : ST), CInv x.1 T M2 L2 X σ2 → MInv x.1 T M2 L2 (X + 194) σ2 → PInv σ2 → V x 206 2625 T M2 L2 1287 [some (.ref b), some (.ref X), some (.ref (X + 194)), some (.int (nI i))] []) : V x 206 2625 T Mi Ml 531 [some (.ref b), some (.ref X), some (.ref (X + 194)), some (.int (nI i))] [] := by
  refine jv_aload_n h dL_law_531 rfl ?_
  refine jv_aload_n h dL_law_532 rfl ?_
  refine jv_iload_n h dL_law_533 rfl ?_
  refine jv_iconst (nI 1) h dL_law_534 (by decide) ?_
  first | refine jv_iaddN h dL_law_535 (by repeat (with_reducible first | exact NF_nI _ | assumption | refine NF_add ?_ ?_ | refine NF_mul ?_ ?_)) (by repeat (with_reducible first | exact NF_nI _ | assumption | refine NF_add ?_ ?_ | refine NF_mul ?_ ?_)) ?_ | refine jv_iadd h dL_law_535 ?_
  refine jv_sld h hx dL_law_536 (by repeat (with_reducible first | exact NF_nI _ | assumption | refine NF_add ?_ ?_ | refine NF_mul ?_ ?_)) ⟨by omega, by omega⟩ ?_
  refine jv_VGi [_] h dL_law_537 cw_L_69 cf_10 hC.1.1 (C_seed hC hP _) (by decide) rfl rfl (Nat.le_of_ble_eq_true rfl) (by rw [hR]; exact ⟨Nat.le_of_ble_eq_true rfl, Nat.le_of_ble_eq_true rfl⟩) (fun v_c Mc Lc hpc => ?_)
  obtain ⟨e1, hC1, f1⟩ := hpc
  have hM1 : MInv x.1 T Mc Lc (X + 194) σ := hM.fr (fun q q1 q2 => f1 q (by omega))
  refine jv_aload_n h dL_law_540 rfl ?_
  refine jv_aload_n h dL_law_541 rfl ?_
  refine jv_iload_n h dL_law_542 rfl ?_
  refine jv_iconst (nI 1) h dL_law_543 (by decide) ?_
  first | refine jv_iaddN h dL_law_544 (by repeat (with_reducible first | exact NF_nI _ | assumption | refine NF_add ?_ ?_ | refine NF_mul ?_ ?_)) (by repeat (with_reducible first | exact NF_nI _ | assumption | refine NF_add ?_ ?_ | refine NF_mul ?_ ?_)) ?_ | refine jv_iadd h dL_law_544 ?_
  refine jv_sld h hx dL_law_545 (by repeat (with_reducible first | exact NF_nI _ | assumption | refine NF_add ?_ ?_ | refine NF_mul ?_ ?_)) ⟨by omega, by omega⟩ ?_
  refine jv_VGi [_] h dL_law_546 cw_L_72 cf_11 hM1.1.1 (M_seed hM1 hP _) (by decide) rfl rfl (Nat.le_of_ble_eq_true rfl) (by rw [hR]; exact ⟨Nat.le_of_ble_eq_true rfl, Nat.le_of_ble_eq_true rfl⟩) (fun v_m Mm Lm hpm => ?_)
  obtain ⟨e2, hM2, f2⟩ := hpm
  have hC2 := hC1.fr (p_seed _ hP) (fun q q1 q2 => f2 q (by omega))
  refine jv_icmp_eq 1287 h dL_law_549 (by decide) (fun c549 => ?_) (fun c549 => ?_)
  · exact hk _ _ _ hC2 hM2 (p_seed _ hP)
  · exact absurd (e1.trans e2.symm) c549
set_option maxHeartbeats 4000000 in
set_option maxRecDepth 100000 in
theorem lc_at {x : CX} {T : TT} {Mi : MI} {Ml : ML} {b L X i : Nat} {xs : Nat → Int32} {σ : ST} (h : Ok x RL cL_law 14) (hR : x.2.2.2.2.1 = room_1) (hx : Sc x b L xs) (hL : L ≤ 448) (hi : i + 7 ≤ L) (hC : CInv x.1 T Mi Ml X σ) (hM : MInv x.1 T Mi Ml (X + 194) σ) (hP : PInv σ)
    (hk : ∀ (M2 : MI) (L2 : ML) (σ2 : ST), CInv x.1 T M2 L2 X σ2 → MInv x.1 T M2 L2 (X + 194) σ2 → PInv σ2 → V x 206 2625 T M2 L2 1287 [some (.ref b), some (.ref X), some (.ref (X + 194)), some (.int (nI i))] []) : V x 206 2625 T Mi Ml 554 [some (.ref b), some (.ref X), some (.ref (X + 194)), some (.int (nI i))] [] := by
  refine jv_aload_n h dL_law_554 rfl ?_
  refine jv_aload_n h dL_law_555 rfl ?_
  refine jv_iload_n h dL_law_556 rfl ?_
  refine jv_iconst (nI 1) h dL_law_557 (by decide) ?_
  first | refine jv_iaddN h dL_law_558 (by repeat (with_reducible first | exact NF_nI _ | assumption | refine NF_add ?_ ?_ | refine NF_mul ?_ ?_)) (by repeat (with_reducible first | exact NF_nI _ | assumption | refine NF_add ?_ ?_ | refine NF_mul ?_ ?_)) ?_ | refine jv_iadd h dL_law_558 ?_
  refine jv_sld h hx dL_law_559 (by repeat (with_reducible first | exact NF_nI _ | assumption | refine NF_add ?_ ?_ | refine NF_mul ?_ ?_)) ⟨by omega, by omega⟩ ?_
  refine jv_aload_n h dL_law_560 rfl ?_
  refine jv_iload_n h dL_law_561 rfl ?_
  refine jv_iconst (nI 2) h dL_law_562 (by decide) ?_
  first | refine jv_iaddN h dL_law_563 (by repeat (with_reducible first | exact NF_nI _ | assumption | refine NF_add ?_ ?_ | refine NF_mul ?_ ?_)) (by repeat (with_reducible first | exact NF_nI _ | assumption | refine NF_add ?_ ?_ | refine NF_mul ?_ ?_)) ?_ | refine jv_iadd h dL_law_563 ?_
  refine jv_sld h hx dL_law_564 (by repeat (with_reducible first | exact NF_nI _ | assumption | refine NF_add ?_ ?_ | refine NF_mul ?_ ?_)) ⟨by omega, by omega⟩ ?_
  refine jv_aload_n h dL_law_565 rfl ?_
  refine jv_iload_n h dL_law_566 rfl ?_
  refine jv_iconst (nI 3) h dL_law_567 (by decide) ?_
  first | refine jv_iaddN h dL_law_568 (by repeat (with_reducible first | exact NF_nI _ | assumption | refine NF_add ?_ ?_ | refine NF_mul ?_ ?_)) (by repeat (with_reducible first | exact NF_nI _ | assumption | refine NF_add ?_ ?_ | refine NF_mul ?_ ?_)) ?_ | refine jv_iadd h dL_law_568 ?_
  refine jv_sld h hx dL_law_569 (by repeat (with_reducible first | exact NF_nI _ | assumption | refine NF_add ?_ ?_ | refine NF_mul ?_ ?_)) ⟨by omega, by omega⟩ ?_
  refine jv_VGi [_, _, _] h dL_law_570 cw_L_73 cf_10 hC.1.1 (C_at hC hP _ _ _) (by decide) rfl rfl (Nat.le_of_ble_eq_true rfl) (by rw [hR]; exact ⟨Nat.le_of_ble_eq_true rfl, Nat.le_of_ble_eq_true rfl⟩) (fun v_c Mc Lc hpc => ?_)
  obtain ⟨e1, hC1, f1⟩ := hpc
  have hM1 : MInv x.1 T Mc Lc (X + 194) σ := hM.fr (fun q q1 q2 => f1 q (by omega))
  refine jv_aload_n h dL_law_573 rfl ?_
  refine jv_aload_n h dL_law_574 rfl ?_
  refine jv_iload_n h dL_law_575 rfl ?_
  refine jv_iconst (nI 1) h dL_law_576 (by decide) ?_
  first | refine jv_iaddN h dL_law_577 (by repeat (with_reducible first | exact NF_nI _ | assumption | refine NF_add ?_ ?_ | refine NF_mul ?_ ?_)) (by repeat (with_reducible first | exact NF_nI _ | assumption | refine NF_add ?_ ?_ | refine NF_mul ?_ ?_)) ?_ | refine jv_iadd h dL_law_577 ?_
  refine jv_sld h hx dL_law_578 (by repeat (with_reducible first | exact NF_nI _ | assumption | refine NF_add ?_ ?_ | refine NF_mul ?_ ?_)) ⟨by omega, by omega⟩ ?_
  refine jv_aload_n h dL_law_579 rfl ?_
  refine jv_iload_n h dL_law_580 rfl ?_
  refine jv_iconst (nI 2) h dL_law_581 (by decide) ?_
  first | refine jv_iaddN h dL_law_582 (by repeat (with_reducible first | exact NF_nI _ | assumption | refine NF_add ?_ ?_ | refine NF_mul ?_ ?_)) (by repeat (with_reducible first | exact NF_nI _ | assumption | refine NF_add ?_ ?_ | refine NF_mul ?_ ?_)) ?_ | refine jv_iadd h dL_law_582 ?_
  refine jv_sld h hx dL_law_583 (by repeat (with_reducible first | exact NF_nI _ | assumption | refine NF_add ?_ ?_ | refine NF_mul ?_ ?_)) ⟨by omega, by omega⟩ ?_
  refine jv_aload_n h dL_law_584 rfl ?_
  refine jv_iload_n h dL_law_585 rfl ?_
  refine jv_iconst (nI 3) h dL_law_586 (by decide) ?_
  first | refine jv_iaddN h dL_law_587 (by repeat (with_reducible first | exact NF_nI _ | assumption | refine NF_add ?_ ?_ | refine NF_mul ?_ ?_)) (by repeat (with_reducible first | exact NF_nI _ | assumption | refine NF_add ?_ ?_ | refine NF_mul ?_ ?_)) ?_ | refine jv_iadd h dL_law_587 ?_
  refine jv_sld h hx dL_law_588 (by repeat (with_reducible first | exact NF_nI _ | assumption | refine NF_add ?_ ?_ | refine NF_mul ?_ ?_)) ⟨by omega, by omega⟩ ?_
  refine jv_VGi [_, _, _] h dL_law_589 cw_L_77 cf_11 hM1.1.1 (M_at hM1 hP _ _ _) (by decide) rfl rfl (Nat.le_of_ble_eq_true rfl) (by rw [hR]; exact ⟨Nat.le_of_ble_eq_true rfl, Nat.le_of_ble_eq_true rfl⟩) (fun v_m Mm Lm hpm => ?_)
  obtain ⟨e2, hM2, f2⟩ := hpm
  have hC2 := hC1.fr (p_at _ _ _ hP) (fun q q1 q2 => f2 q (by omega))
  refine jv_icmp_eq 1287 h dL_law_592 (by decide) (fun c592 => ?_) (fun c592 => ?_)
  · exact hk _ _ _ hC2 hM2 (p_at _ _ _ hP)
  · exact absurd (e1.trans e2.symm) c592
set_option maxHeartbeats 4000000 in
set_option maxRecDepth 100000 in
theorem lc_place {x : CX} {T : TT} {Mi : MI} {Ml : ML} {b L X i : Nat} {xs : Nat → Int32} {σ : ST} (h : Ok x RL cL_law 14) (hR : x.2.2.2.2.1 = room_1) (hx : Sc x b L xs) (hL : L ≤ 448) (hi : i + 7 ≤ L) (hC : CInv x.1 T Mi Ml X σ) (hM : MInv x.1 T Mi Ml (X + 194) σ) (hP : PInv σ)
    (hk : ∀ (M2 : MI) (L2 : ML) (σ2 : ST), CInv x.1 T M2 L2 X σ2 → MInv x.1 T M2 L2 (X + 194) σ2 → PInv σ2 → V x 206 2625 T M2 L2 1287 [some (.ref b), some (.ref X), some (.ref (X + 194)), some (.int (nI i))] []) : V x 206 2625 T Mi Ml 597 [some (.ref b), some (.ref X), some (.ref (X + 194)), some (.int (nI i))] [] := by
  refine jv_aload_n h dL_law_597 rfl ?_
  refine jv_aload_n h dL_law_598 rfl ?_
  refine jv_iload_n h dL_law_599 rfl ?_
  refine jv_iconst (nI 1) h dL_law_600 (by decide) ?_
  first | refine jv_iaddN h dL_law_601 (by repeat (with_reducible first | exact NF_nI _ | assumption | refine NF_add ?_ ?_ | refine NF_mul ?_ ?_)) (by repeat (with_reducible first | exact NF_nI _ | assumption | refine NF_add ?_ ?_ | refine NF_mul ?_ ?_)) ?_ | refine jv_iadd h dL_law_601 ?_
  refine jv_sld h hx dL_law_602 (by repeat (with_reducible first | exact NF_nI _ | assumption | refine NF_add ?_ ?_ | refine NF_mul ?_ ?_)) ⟨by omega, by omega⟩ ?_
  refine jv_aload_n h dL_law_603 rfl ?_
  refine jv_iload_n h dL_law_604 rfl ?_
  refine jv_iconst (nI 2) h dL_law_605 (by decide) ?_
  first | refine jv_iaddN h dL_law_606 (by repeat (with_reducible first | exact NF_nI _ | assumption | refine NF_add ?_ ?_ | refine NF_mul ?_ ?_)) (by repeat (with_reducible first | exact NF_nI _ | assumption | refine NF_add ?_ ?_ | refine NF_mul ?_ ?_)) ?_ | refine jv_iadd h dL_law_606 ?_
  refine jv_sld h hx dL_law_607 (by repeat (with_reducible first | exact NF_nI _ | assumption | refine NF_add ?_ ?_ | refine NF_mul ?_ ?_)) ⟨by omega, by omega⟩ ?_
  refine jv_VGi [_, _] h dL_law_608 cw_L_78 cf_10 hC.1.1 (C_place hC hP _ _) (by decide) rfl rfl (Nat.le_of_ble_eq_true rfl) (by rw [hR]; exact ⟨Nat.le_of_ble_eq_true rfl, Nat.le_of_ble_eq_true rfl⟩) (fun v_c Mc Lc hpc => ?_)
  obtain ⟨e1, hC1, f1⟩ := hpc
  have hM1 : MInv x.1 T Mc Lc (X + 194) σ := hM.fr (fun q q1 q2 => f1 q (by omega))
  refine jv_aload_n h dL_law_611 rfl ?_
  refine jv_aload_n h dL_law_612 rfl ?_
  refine jv_iload_n h dL_law_613 rfl ?_
  refine jv_iconst (nI 1) h dL_law_614 (by decide) ?_
  first | refine jv_iaddN h dL_law_615 (by repeat (with_reducible first | exact NF_nI _ | assumption | refine NF_add ?_ ?_ | refine NF_mul ?_ ?_)) (by repeat (with_reducible first | exact NF_nI _ | assumption | refine NF_add ?_ ?_ | refine NF_mul ?_ ?_)) ?_ | refine jv_iadd h dL_law_615 ?_
  refine jv_sld h hx dL_law_616 (by repeat (with_reducible first | exact NF_nI _ | assumption | refine NF_add ?_ ?_ | refine NF_mul ?_ ?_)) ⟨by omega, by omega⟩ ?_
  refine jv_aload_n h dL_law_617 rfl ?_
  refine jv_iload_n h dL_law_618 rfl ?_
  refine jv_iconst (nI 2) h dL_law_619 (by decide) ?_
  first | refine jv_iaddN h dL_law_620 (by repeat (with_reducible first | exact NF_nI _ | assumption | refine NF_add ?_ ?_ | refine NF_mul ?_ ?_)) (by repeat (with_reducible first | exact NF_nI _ | assumption | refine NF_add ?_ ?_ | refine NF_mul ?_ ?_)) ?_ | refine jv_iadd h dL_law_620 ?_
  refine jv_sld h hx dL_law_621 (by repeat (with_reducible first | exact NF_nI _ | assumption | refine NF_add ?_ ?_ | refine NF_mul ?_ ?_)) ⟨by omega, by omega⟩ ?_
  refine jv_VGi [_, _] h dL_law_622 cw_L_81 cf_11 hM1.1.1 (M_place hM1 hP _ _) (by decide) rfl rfl (Nat.le_of_ble_eq_true rfl) (by rw [hR]; exact ⟨Nat.le_of_ble_eq_true rfl, Nat.le_of_ble_eq_true rfl⟩) (fun v_m Mm Lm hpm => ?_)
  obtain ⟨e2, hM2, f2⟩ := hpm
  have hC2 := hC1.fr (p_place _ _ hP) (fun q q1 q2 => f2 q (by omega))
  refine jv_icmp_eq 1287 h dL_law_625 (by decide) (fun c625 => ?_) (fun c625 => ?_)
  · exact hk _ _ _ hC2 hM2 (p_place _ _ hP)
  · exact absurd (e1.trans e2.symm) c625
set_option maxHeartbeats 4000000 in
set_option maxRecDepth 100000 in
theorem lc_comes {x : CX} {T : TT} {Mi : MI} {Ml : ML} {b L X i : Nat} {xs : Nat → Int32} {σ : ST} (h : Ok x RL cL_law 14) (hR : x.2.2.2.2.1 = room_1) (hx : Sc x b L xs) (hL : L ≤ 448) (hi : i + 7 ≤ L) (hC : CInv x.1 T Mi Ml X σ) (hM : MInv x.1 T Mi Ml (X + 194) σ) (hP : PInv σ)
    (hk : ∀ (M2 : MI) (L2 : ML) (σ2 : ST), CInv x.1 T M2 L2 X σ2 → MInv x.1 T M2 L2 (X + 194) σ2 → PInv σ2 → V x 206 2625 T M2 L2 1287 [some (.ref b), some (.ref X), some (.ref (X + 194)), some (.int (nI i))] []) : V x 206 2625 T Mi Ml 630 [some (.ref b), some (.ref X), some (.ref (X + 194)), some (.int (nI i))] [] := by
  refine jv_aload_n h dL_law_630 rfl ?_
  refine jv_aload_n h dL_law_631 rfl ?_
  refine jv_iload_n h dL_law_632 rfl ?_
  refine jv_iconst (nI 1) h dL_law_633 (by decide) ?_
  first | refine jv_iaddN h dL_law_634 (by repeat (with_reducible first | exact NF_nI _ | assumption | refine NF_add ?_ ?_ | refine NF_mul ?_ ?_)) (by repeat (with_reducible first | exact NF_nI _ | assumption | refine NF_add ?_ ?_ | refine NF_mul ?_ ?_)) ?_ | refine jv_iadd h dL_law_634 ?_
  refine jv_sld h hx dL_law_635 (by repeat (with_reducible first | exact NF_nI _ | assumption | refine NF_add ?_ ?_ | refine NF_mul ?_ ?_)) ⟨by omega, by omega⟩ ?_
  refine jv_aload_n h dL_law_636 rfl ?_
  refine jv_iload_n h dL_law_637 rfl ?_
  refine jv_iconst (nI 2) h dL_law_638 (by decide) ?_
  first | refine jv_iaddN h dL_law_639 (by repeat (with_reducible first | exact NF_nI _ | assumption | refine NF_add ?_ ?_ | refine NF_mul ?_ ?_)) (by repeat (with_reducible first | exact NF_nI _ | assumption | refine NF_add ?_ ?_ | refine NF_mul ?_ ?_)) ?_ | refine jv_iadd h dL_law_639 ?_
  refine jv_sld h hx dL_law_640 (by repeat (with_reducible first | exact NF_nI _ | assumption | refine NF_add ?_ ?_ | refine NF_mul ?_ ?_)) ⟨by omega, by omega⟩ ?_
  refine jv_aload_n h dL_law_641 rfl ?_
  refine jv_iload_n h dL_law_642 rfl ?_
  refine jv_iconst (nI 3) h dL_law_643 (by decide) ?_
  first | refine jv_iaddN h dL_law_644 (by repeat (with_reducible first | exact NF_nI _ | assumption | refine NF_add ?_ ?_ | refine NF_mul ?_ ?_)) (by repeat (with_reducible first | exact NF_nI _ | assumption | refine NF_add ?_ ?_ | refine NF_mul ?_ ?_)) ?_ | refine jv_iadd h dL_law_644 ?_
  refine jv_sld h hx dL_law_645 (by repeat (with_reducible first | exact NF_nI _ | assumption | refine NF_add ?_ ?_ | refine NF_mul ?_ ?_)) ⟨by omega, by omega⟩ ?_
  refine jv_VGi [_, _, _] h dL_law_646 cw_L_82 cf_10 hC.1.1 (C_comes hC hP _ _ _) (by decide) rfl rfl (Nat.le_of_ble_eq_true rfl) (by rw [hR]; exact ⟨Nat.le_of_ble_eq_true rfl, Nat.le_of_ble_eq_true rfl⟩) (fun v_c Mc Lc hpc => ?_)
  obtain ⟨e1, hC1, f1⟩ := hpc
  have hM1 : MInv x.1 T Mc Lc (X + 194) σ := hM.fr (fun q q1 q2 => f1 q (by omega))
  refine jv_aload_n h dL_law_649 rfl ?_
  refine jv_aload_n h dL_law_650 rfl ?_
  refine jv_iload_n h dL_law_651 rfl ?_
  refine jv_iconst (nI 1) h dL_law_652 (by decide) ?_
  first | refine jv_iaddN h dL_law_653 (by repeat (with_reducible first | exact NF_nI _ | assumption | refine NF_add ?_ ?_ | refine NF_mul ?_ ?_)) (by repeat (with_reducible first | exact NF_nI _ | assumption | refine NF_add ?_ ?_ | refine NF_mul ?_ ?_)) ?_ | refine jv_iadd h dL_law_653 ?_
  refine jv_sld h hx dL_law_654 (by repeat (with_reducible first | exact NF_nI _ | assumption | refine NF_add ?_ ?_ | refine NF_mul ?_ ?_)) ⟨by omega, by omega⟩ ?_
  refine jv_aload_n h dL_law_655 rfl ?_
  refine jv_iload_n h dL_law_656 rfl ?_
  refine jv_iconst (nI 2) h dL_law_657 (by decide) ?_
  first | refine jv_iaddN h dL_law_658 (by repeat (with_reducible first | exact NF_nI _ | assumption | refine NF_add ?_ ?_ | refine NF_mul ?_ ?_)) (by repeat (with_reducible first | exact NF_nI _ | assumption | refine NF_add ?_ ?_ | refine NF_mul ?_ ?_)) ?_ | refine jv_iadd h dL_law_658 ?_
  refine jv_sld h hx dL_law_659 (by repeat (with_reducible first | exact NF_nI _ | assumption | refine NF_add ?_ ?_ | refine NF_mul ?_ ?_)) ⟨by omega, by omega⟩ ?_
  refine jv_aload_n h dL_law_660 rfl ?_
  refine jv_iload_n h dL_law_661 rfl ?_
  refine jv_iconst (nI 3) h dL_law_662 (by decide) ?_
  first | refine jv_iaddN h dL_law_663 (by repeat (with_reducible first | exact NF_nI _ | assumption | refine NF_add ?_ ?_ | refine NF_mul ?_ ?_)) (by repeat (with_reducible first | exact NF_nI _ | assumption | refine NF_add ?_ ?_ | refine NF_mul ?_ ?_)) ?_ | refine jv_iadd h dL_law_663 ?_
  refine jv_sld h hx dL_law_664 (by repeat (with_reducible first | exact NF_nI _ | assumption | refine NF_add ?_ ?_ | refine NF_mul ?_ ?_)) ⟨by omega, by omega⟩ ?_
  refine jv_VGi [_, _, _] h dL_law_665 cw_L_85 cf_11 hM1.1.1 (M_comes hM1 hP _ _ _) (by decide) rfl rfl (Nat.le_of_ble_eq_true rfl) (by rw [hR]; exact ⟨Nat.le_of_ble_eq_true rfl, Nat.le_of_ble_eq_true rfl⟩) (fun v_m Mm Lm hpm => ?_)
  obtain ⟨e2, hM2, f2⟩ := hpm
  have hC2 := hC1.fr (p_comes _ _ _ hP) (fun q q1 q2 => f2 q (by omega))
  refine jv_icmp_eq 1287 h dL_law_668 (by decide) (fun c668 => ?_) (fun c668 => ?_)
  · exact hk _ _ _ hC2 hM2 (p_comes _ _ _ hP)
  · exact absurd (e1.trans e2.symm) c668
set_option maxHeartbeats 4000000 in
set_option maxRecDepth 100000 in
theorem lc_soonest {x : CX} {T : TT} {Mi : MI} {Ml : ML} {b L X i : Nat} {xs : Nat → Int32} {σ : ST} (h : Ok x RL cL_law 14) (hR : x.2.2.2.2.1 = room_1) (hx : Sc x b L xs) (hL : L ≤ 448) (hi : i + 7 ≤ L) (hC : CInv x.1 T Mi Ml X σ) (hM : MInv x.1 T Mi Ml (X + 194) σ) (hP : PInv σ)
    (hk : ∀ (M2 : MI) (L2 : ML) (σ2 : ST), CInv x.1 T M2 L2 X σ2 → MInv x.1 T M2 L2 (X + 194) σ2 → PInv σ2 → V x 206 2625 T M2 L2 1287 [some (.ref b), some (.ref X), some (.ref (X + 194)), some (.int (nI i))] []) : V x 206 2625 T Mi Ml 673 [some (.ref b), some (.ref X), some (.ref (X + 194)), some (.int (nI i))] [] := by
  refine jv_aload_n h dL_law_673 rfl ?_
  refine jv_aload_n h dL_law_674 rfl ?_
  refine jv_iload_n h dL_law_675 rfl ?_
  refine jv_iconst (nI 1) h dL_law_676 (by decide) ?_
  first | refine jv_iaddN h dL_law_677 (by repeat (with_reducible first | exact NF_nI _ | assumption | refine NF_add ?_ ?_ | refine NF_mul ?_ ?_)) (by repeat (with_reducible first | exact NF_nI _ | assumption | refine NF_add ?_ ?_ | refine NF_mul ?_ ?_)) ?_ | refine jv_iadd h dL_law_677 ?_
  refine jv_sld h hx dL_law_678 (by repeat (with_reducible first | exact NF_nI _ | assumption | refine NF_add ?_ ?_ | refine NF_mul ?_ ?_)) ⟨by omega, by omega⟩ ?_
  refine jv_aload_n h dL_law_679 rfl ?_
  refine jv_iload_n h dL_law_680 rfl ?_
  refine jv_iconst (nI 2) h dL_law_681 (by decide) ?_
  first | refine jv_iaddN h dL_law_682 (by repeat (with_reducible first | exact NF_nI _ | assumption | refine NF_add ?_ ?_ | refine NF_mul ?_ ?_)) (by repeat (with_reducible first | exact NF_nI _ | assumption | refine NF_add ?_ ?_ | refine NF_mul ?_ ?_)) ?_ | refine jv_iadd h dL_law_682 ?_
  refine jv_sld h hx dL_law_683 (by repeat (with_reducible first | exact NF_nI _ | assumption | refine NF_add ?_ ?_ | refine NF_mul ?_ ?_)) ⟨by omega, by omega⟩ ?_
  refine jv_aload_n h dL_law_684 rfl ?_
  refine jv_iload_n h dL_law_685 rfl ?_
  refine jv_iconst (nI 3) h dL_law_686 (by decide) ?_
  first | refine jv_iaddN h dL_law_687 (by repeat (with_reducible first | exact NF_nI _ | assumption | refine NF_add ?_ ?_ | refine NF_mul ?_ ?_)) (by repeat (with_reducible first | exact NF_nI _ | assumption | refine NF_add ?_ ?_ | refine NF_mul ?_ ?_)) ?_ | refine jv_iadd h dL_law_687 ?_
  refine jv_sld h hx dL_law_688 (by repeat (with_reducible first | exact NF_nI _ | assumption | refine NF_add ?_ ?_ | refine NF_mul ?_ ?_)) ⟨by omega, by omega⟩ ?_
  refine jv_aload_n h dL_law_689 rfl ?_
  refine jv_iload_n h dL_law_690 rfl ?_
  refine jv_iconst (nI 4) h dL_law_691 (by decide) ?_
  first | refine jv_iaddN h dL_law_692 (by repeat (with_reducible first | exact NF_nI _ | assumption | refine NF_add ?_ ?_ | refine NF_mul ?_ ?_)) (by repeat (with_reducible first | exact NF_nI _ | assumption | refine NF_add ?_ ?_ | refine NF_mul ?_ ?_)) ?_ | refine jv_iadd h dL_law_692 ?_
  refine jv_sld h hx dL_law_693 (by repeat (with_reducible first | exact NF_nI _ | assumption | refine NF_add ?_ ?_ | refine NF_mul ?_ ?_)) ⟨by omega, by omega⟩ ?_
  refine jv_VGi [_, _, _, _] h dL_law_694 cw_L_86 cf_10 hC.1.1 (C_soonest hC hP _ _ _ _) (by decide) rfl rfl (Nat.le_of_ble_eq_true rfl) (by rw [hR]; exact ⟨Nat.le_of_ble_eq_true rfl, Nat.le_of_ble_eq_true rfl⟩) (fun v_c Mc Lc hpc => ?_)
  obtain ⟨e1, hC1, f1⟩ := hpc
  have hM1 : MInv x.1 T Mc Lc (X + 194) σ := hM.fr (fun q q1 q2 => f1 q (by omega))
  refine jv_aload_n h dL_law_697 rfl ?_
  refine jv_aload_n h dL_law_698 rfl ?_
  refine jv_iload_n h dL_law_699 rfl ?_
  refine jv_iconst (nI 1) h dL_law_700 (by decide) ?_
  first | refine jv_iaddN h dL_law_701 (by repeat (with_reducible first | exact NF_nI _ | assumption | refine NF_add ?_ ?_ | refine NF_mul ?_ ?_)) (by repeat (with_reducible first | exact NF_nI _ | assumption | refine NF_add ?_ ?_ | refine NF_mul ?_ ?_)) ?_ | refine jv_iadd h dL_law_701 ?_
  refine jv_sld h hx dL_law_702 (by repeat (with_reducible first | exact NF_nI _ | assumption | refine NF_add ?_ ?_ | refine NF_mul ?_ ?_)) ⟨by omega, by omega⟩ ?_
  refine jv_aload_n h dL_law_703 rfl ?_
  refine jv_iload_n h dL_law_704 rfl ?_
  refine jv_iconst (nI 2) h dL_law_705 (by decide) ?_
  first | refine jv_iaddN h dL_law_706 (by repeat (with_reducible first | exact NF_nI _ | assumption | refine NF_add ?_ ?_ | refine NF_mul ?_ ?_)) (by repeat (with_reducible first | exact NF_nI _ | assumption | refine NF_add ?_ ?_ | refine NF_mul ?_ ?_)) ?_ | refine jv_iadd h dL_law_706 ?_
  refine jv_sld h hx dL_law_707 (by repeat (with_reducible first | exact NF_nI _ | assumption | refine NF_add ?_ ?_ | refine NF_mul ?_ ?_)) ⟨by omega, by omega⟩ ?_
  refine jv_aload_n h dL_law_708 rfl ?_
  refine jv_iload_n h dL_law_709 rfl ?_
  refine jv_iconst (nI 3) h dL_law_710 (by decide) ?_
  first | refine jv_iaddN h dL_law_711 (by repeat (with_reducible first | exact NF_nI _ | assumption | refine NF_add ?_ ?_ | refine NF_mul ?_ ?_)) (by repeat (with_reducible first | exact NF_nI _ | assumption | refine NF_add ?_ ?_ | refine NF_mul ?_ ?_)) ?_ | refine jv_iadd h dL_law_711 ?_
  refine jv_sld h hx dL_law_712 (by repeat (with_reducible first | exact NF_nI _ | assumption | refine NF_add ?_ ?_ | refine NF_mul ?_ ?_)) ⟨by omega, by omega⟩ ?_
  refine jv_aload_n h dL_law_713 rfl ?_
  refine jv_iload_n h dL_law_714 rfl ?_
  refine jv_iconst (nI 4) h dL_law_715 (by decide) ?_
  first | refine jv_iaddN h dL_law_716 (by repeat (with_reducible first | exact NF_nI _ | assumption | refine NF_add ?_ ?_ | refine NF_mul ?_ ?_)) (by repeat (with_reducible first | exact NF_nI _ | assumption | refine NF_add ?_ ?_ | refine NF_mul ?_ ?_)) ?_ | refine jv_iadd h dL_law_716 ?_
  refine jv_sld h hx dL_law_717 (by repeat (with_reducible first | exact NF_nI _ | assumption | refine NF_add ?_ ?_ | refine NF_mul ?_ ?_)) ⟨by omega, by omega⟩ ?_
  refine jv_VGi [_, _, _, _] h dL_law_718 cw_L_89 cf_11 hM1.1.1 (M_soonest hM1 hP _ _ _ _) (by decide) rfl rfl (Nat.le_of_ble_eq_true rfl) (by rw [hR]; exact ⟨Nat.le_of_ble_eq_true rfl, Nat.le_of_ble_eq_true rfl⟩) (fun v_m Mm Lm hpm => ?_)
  obtain ⟨e2, hM2, f2⟩ := hpm
  have hC2 := hC1.fr (p_soonest _ _ _ _ hP) (fun q q1 q2 => f2 q (by omega))
  refine jv_icmp_eq 1287 h dL_law_721 (by decide) (fun c721 => ?_) (fun c721 => ?_)
  · exact hk _ _ _ hC2 hM2 (p_soonest _ _ _ _ hP)
  · exact absurd (e1.trans e2.symm) c721
set_option maxHeartbeats 4000000 in
set_option maxRecDepth 100000 in
theorem lc_never {x : CX} {T : TT} {Mi : MI} {Ml : ML} {b L X i : Nat} {xs : Nat → Int32} {σ : ST} (h : Ok x RL cL_law 14) (hR : x.2.2.2.2.1 = room_1) (hx : Sc x b L xs) (hL : L ≤ 448) (hi : i + 7 ≤ L) (hC : CInv x.1 T Mi Ml X σ) (hM : MInv x.1 T Mi Ml (X + 194) σ) (hP : PInv σ)
    (hk : ∀ (M2 : MI) (L2 : ML) (σ2 : ST), CInv x.1 T M2 L2 X σ2 → MInv x.1 T M2 L2 (X + 194) σ2 → PInv σ2 → V x 206 2625 T M2 L2 1287 [some (.ref b), some (.ref X), some (.ref (X + 194)), some (.int (nI i))] []) : V x 206 2625 T Mi Ml 726 [some (.ref b), some (.ref X), some (.ref (X + 194)), some (.int (nI i))] [] := by
  refine jv_aload_n h dL_law_726 rfl ?_
  refine jv_aload_n h dL_law_727 rfl ?_
  refine jv_iload_n h dL_law_728 rfl ?_
  refine jv_iconst (nI 1) h dL_law_729 (by decide) ?_
  first | refine jv_iaddN h dL_law_730 (by repeat (with_reducible first | exact NF_nI _ | assumption | refine NF_add ?_ ?_ | refine NF_mul ?_ ?_)) (by repeat (with_reducible first | exact NF_nI _ | assumption | refine NF_add ?_ ?_ | refine NF_mul ?_ ?_)) ?_ | refine jv_iadd h dL_law_730 ?_
  refine jv_sld h hx dL_law_731 (by repeat (with_reducible first | exact NF_nI _ | assumption | refine NF_add ?_ ?_ | refine NF_mul ?_ ?_)) ⟨by omega, by omega⟩ ?_
  refine jv_aload_n h dL_law_732 rfl ?_
  refine jv_iload_n h dL_law_733 rfl ?_
  refine jv_iconst (nI 2) h dL_law_734 (by decide) ?_
  first | refine jv_iaddN h dL_law_735 (by repeat (with_reducible first | exact NF_nI _ | assumption | refine NF_add ?_ ?_ | refine NF_mul ?_ ?_)) (by repeat (with_reducible first | exact NF_nI _ | assumption | refine NF_add ?_ ?_ | refine NF_mul ?_ ?_)) ?_ | refine jv_iadd h dL_law_735 ?_
  refine jv_sld h hx dL_law_736 (by repeat (with_reducible first | exact NF_nI _ | assumption | refine NF_add ?_ ?_ | refine NF_mul ?_ ?_)) ⟨by omega, by omega⟩ ?_
  refine jv_VGi [_, _] h dL_law_737 cw_L_90 cf_10 hC.1.1 (C_never hC hP _ _) (by decide) rfl rfl (Nat.le_of_ble_eq_true rfl) (by rw [hR]; exact ⟨Nat.le_of_ble_eq_true rfl, Nat.le_of_ble_eq_true rfl⟩) (fun v_c Mc Lc hpc => ?_)
  obtain ⟨e1, hC1, f1⟩ := hpc
  have hM1 : MInv x.1 T Mc Lc (X + 194) σ := hM.fr (fun q q1 q2 => f1 q (by omega))
  refine jv_aload_n h dL_law_740 rfl ?_
  refine jv_aload_n h dL_law_741 rfl ?_
  refine jv_iload_n h dL_law_742 rfl ?_
  refine jv_iconst (nI 1) h dL_law_743 (by decide) ?_
  first | refine jv_iaddN h dL_law_744 (by repeat (with_reducible first | exact NF_nI _ | assumption | refine NF_add ?_ ?_ | refine NF_mul ?_ ?_)) (by repeat (with_reducible first | exact NF_nI _ | assumption | refine NF_add ?_ ?_ | refine NF_mul ?_ ?_)) ?_ | refine jv_iadd h dL_law_744 ?_
  refine jv_sld h hx dL_law_745 (by repeat (with_reducible first | exact NF_nI _ | assumption | refine NF_add ?_ ?_ | refine NF_mul ?_ ?_)) ⟨by omega, by omega⟩ ?_
  refine jv_aload_n h dL_law_746 rfl ?_
  refine jv_iload_n h dL_law_747 rfl ?_
  refine jv_iconst (nI 2) h dL_law_748 (by decide) ?_
  first | refine jv_iaddN h dL_law_749 (by repeat (with_reducible first | exact NF_nI _ | assumption | refine NF_add ?_ ?_ | refine NF_mul ?_ ?_)) (by repeat (with_reducible first | exact NF_nI _ | assumption | refine NF_add ?_ ?_ | refine NF_mul ?_ ?_)) ?_ | refine jv_iadd h dL_law_749 ?_
  refine jv_sld h hx dL_law_750 (by repeat (with_reducible first | exact NF_nI _ | assumption | refine NF_add ?_ ?_ | refine NF_mul ?_ ?_)) ⟨by omega, by omega⟩ ?_
  refine jv_VGi [_, _] h dL_law_751 cw_L_93 cf_11 hM1.1.1 (M_never hM1 hP _ _) (by decide) rfl rfl (Nat.le_of_ble_eq_true rfl) (by rw [hR]; exact ⟨Nat.le_of_ble_eq_true rfl, Nat.le_of_ble_eq_true rfl⟩) (fun v_m Mm Lm hpm => ?_)
  obtain ⟨e2, hM2, f2⟩ := hpm
  have hC2 := hC1.fr (p_never _ _ hP) (fun q q1 q2 => f2 q (by omega))
  refine jv_icmp_eq 1287 h dL_law_754 (by decide) (fun c754 => ?_) (fun c754 => ?_)
  · exact hk _ _ _ hC2 hM2 (p_never _ _ hP)
  · exact absurd (e1.trans e2.symm) c754
set_option maxHeartbeats 4000000 in
set_option maxRecDepth 100000 in
theorem lc_meet {x : CX} {T : TT} {Mi : MI} {Ml : ML} {b L X i : Nat} {xs : Nat → Int32} {σ : ST} (h : Ok x RL cL_law 14) (hR : x.2.2.2.2.1 = room_1) (hx : Sc x b L xs) (hL : L ≤ 448) (hi : i + 7 ≤ L) (hC : CInv x.1 T Mi Ml X σ) (hM : MInv x.1 T Mi Ml (X + 194) σ) (hP : PInv σ)
    (hk : ∀ (M2 : MI) (L2 : ML) (σ2 : ST), CInv x.1 T M2 L2 X σ2 → MInv x.1 T M2 L2 (X + 194) σ2 → PInv σ2 → V x 206 2625 T M2 L2 1287 [some (.ref b), some (.ref X), some (.ref (X + 194)), some (.int (nI i))] []) : V x 206 2625 T Mi Ml 759 [some (.ref b), some (.ref X), some (.ref (X + 194)), some (.int (nI i))] [] := by
  refine jv_aload_n h dL_law_759 rfl ?_
  refine jv_aload_n h dL_law_760 rfl ?_
  refine jv_iload_n h dL_law_761 rfl ?_
  refine jv_iconst (nI 1) h dL_law_762 (by decide) ?_
  first | refine jv_iaddN h dL_law_763 (by repeat (with_reducible first | exact NF_nI _ | assumption | refine NF_add ?_ ?_ | refine NF_mul ?_ ?_)) (by repeat (with_reducible first | exact NF_nI _ | assumption | refine NF_add ?_ ?_ | refine NF_mul ?_ ?_)) ?_ | refine jv_iadd h dL_law_763 ?_
  refine jv_sld h hx dL_law_764 (by repeat (with_reducible first | exact NF_nI _ | assumption | refine NF_add ?_ ?_ | refine NF_mul ?_ ?_)) ⟨by omega, by omega⟩ ?_
  refine jv_aload_n h dL_law_765 rfl ?_
  refine jv_iload_n h dL_law_766 rfl ?_
  refine jv_iconst (nI 2) h dL_law_767 (by decide) ?_
  first | refine jv_iaddN h dL_law_768 (by repeat (with_reducible first | exact NF_nI _ | assumption | refine NF_add ?_ ?_ | refine NF_mul ?_ ?_)) (by repeat (with_reducible first | exact NF_nI _ | assumption | refine NF_add ?_ ?_ | refine NF_mul ?_ ?_)) ?_ | refine jv_iadd h dL_law_768 ?_
  refine jv_sld h hx dL_law_769 (by repeat (with_reducible first | exact NF_nI _ | assumption | refine NF_add ?_ ?_ | refine NF_mul ?_ ?_)) ⟨by omega, by omega⟩ ?_
  refine jv_aload_n h dL_law_770 rfl ?_
  refine jv_iload_n h dL_law_771 rfl ?_
  refine jv_iconst (nI 3) h dL_law_772 (by decide) ?_
  first | refine jv_iaddN h dL_law_773 (by repeat (with_reducible first | exact NF_nI _ | assumption | refine NF_add ?_ ?_ | refine NF_mul ?_ ?_)) (by repeat (with_reducible first | exact NF_nI _ | assumption | refine NF_add ?_ ?_ | refine NF_mul ?_ ?_)) ?_ | refine jv_iadd h dL_law_773 ?_
  refine jv_sld h hx dL_law_774 (by repeat (with_reducible first | exact NF_nI _ | assumption | refine NF_add ?_ ?_ | refine NF_mul ?_ ?_)) ⟨by omega, by omega⟩ ?_
  refine jv_VGi [_, _, _] h dL_law_775 cw_L_94 cf_10 hC.1.1 (C_meet hC hP _ _ _) (by decide) rfl rfl (Nat.le_of_ble_eq_true rfl) (by rw [hR]; exact ⟨Nat.le_of_ble_eq_true rfl, Nat.le_of_ble_eq_true rfl⟩) (fun v_c Mc Lc hpc => ?_)
  obtain ⟨e1, hC1, f1⟩ := hpc
  have hM1 : MInv x.1 T Mc Lc (X + 194) σ := hM.fr (fun q q1 q2 => f1 q (by omega))
  refine jv_aload_n h dL_law_778 rfl ?_
  refine jv_aload_n h dL_law_779 rfl ?_
  refine jv_iload_n h dL_law_780 rfl ?_
  refine jv_iconst (nI 1) h dL_law_781 (by decide) ?_
  first | refine jv_iaddN h dL_law_782 (by repeat (with_reducible first | exact NF_nI _ | assumption | refine NF_add ?_ ?_ | refine NF_mul ?_ ?_)) (by repeat (with_reducible first | exact NF_nI _ | assumption | refine NF_add ?_ ?_ | refine NF_mul ?_ ?_)) ?_ | refine jv_iadd h dL_law_782 ?_
  refine jv_sld h hx dL_law_783 (by repeat (with_reducible first | exact NF_nI _ | assumption | refine NF_add ?_ ?_ | refine NF_mul ?_ ?_)) ⟨by omega, by omega⟩ ?_
  refine jv_aload_n h dL_law_784 rfl ?_
  refine jv_iload_n h dL_law_785 rfl ?_
  refine jv_iconst (nI 2) h dL_law_786 (by decide) ?_
  first | refine jv_iaddN h dL_law_787 (by repeat (with_reducible first | exact NF_nI _ | assumption | refine NF_add ?_ ?_ | refine NF_mul ?_ ?_)) (by repeat (with_reducible first | exact NF_nI _ | assumption | refine NF_add ?_ ?_ | refine NF_mul ?_ ?_)) ?_ | refine jv_iadd h dL_law_787 ?_
  refine jv_sld h hx dL_law_788 (by repeat (with_reducible first | exact NF_nI _ | assumption | refine NF_add ?_ ?_ | refine NF_mul ?_ ?_)) ⟨by omega, by omega⟩ ?_
  refine jv_aload_n h dL_law_789 rfl ?_
  refine jv_iload_n h dL_law_790 rfl ?_
  refine jv_iconst (nI 3) h dL_law_791 (by decide) ?_
  first | refine jv_iaddN h dL_law_792 (by repeat (with_reducible first | exact NF_nI _ | assumption | refine NF_add ?_ ?_ | refine NF_mul ?_ ?_)) (by repeat (with_reducible first | exact NF_nI _ | assumption | refine NF_add ?_ ?_ | refine NF_mul ?_ ?_)) ?_ | refine jv_iadd h dL_law_792 ?_
  refine jv_sld h hx dL_law_793 (by repeat (with_reducible first | exact NF_nI _ | assumption | refine NF_add ?_ ?_ | refine NF_mul ?_ ?_)) ⟨by omega, by omega⟩ ?_
  refine jv_VGi [_, _, _] h dL_law_794 cw_L_97 cf_11 hM1.1.1 (M_meet hM1 hP _ _ _) (by decide) rfl rfl (Nat.le_of_ble_eq_true rfl) (by rw [hR]; exact ⟨Nat.le_of_ble_eq_true rfl, Nat.le_of_ble_eq_true rfl⟩) (fun v_m Mm Lm hpm => ?_)
  obtain ⟨e2, hM2, f2⟩ := hpm
  have hC2 := hC1.fr (p_meet _ _ _ hP) (fun q q1 q2 => f2 q (by omega))
  refine jv_icmp_eq 1287 h dL_law_797 (by decide) (fun c797 => ?_) (fun c797 => ?_)
  · exact hk _ _ _ hC2 hM2 (p_meet _ _ _ hP)
  · exact absurd (e1.trans e2.symm) c797
set_option maxHeartbeats 4000000 in
set_option maxRecDepth 100000 in
theorem lc_heaviest {x : CX} {T : TT} {Mi : MI} {Ml : ML} {b L X i : Nat} {xs : Nat → Int32} {σ : ST} (h : Ok x RL cL_law 14) (hR : x.2.2.2.2.1 = room_1) (hx : Sc x b L xs) (hL : L ≤ 448) (hi : i + 7 ≤ L) (hC : CInv x.1 T Mi Ml X σ) (hM : MInv x.1 T Mi Ml (X + 194) σ) (hP : PInv σ)
    (hk : ∀ (M2 : MI) (L2 : ML) (σ2 : ST), CInv x.1 T M2 L2 X σ2 → MInv x.1 T M2 L2 (X + 194) σ2 → PInv σ2 → V x 206 2625 T M2 L2 1287 [some (.ref b), some (.ref X), some (.ref (X + 194)), some (.int (nI i))] []) : V x 206 2625 T Mi Ml 802 [some (.ref b), some (.ref X), some (.ref (X + 194)), some (.int (nI i))] [] := by
  refine jv_aload_n h dL_law_802 rfl ?_
  refine jv_aload_n h dL_law_803 rfl ?_
  refine jv_iload_n h dL_law_804 rfl ?_
  refine jv_iconst (nI 1) h dL_law_805 (by decide) ?_
  first | refine jv_iaddN h dL_law_806 (by repeat (with_reducible first | exact NF_nI _ | assumption | refine NF_add ?_ ?_ | refine NF_mul ?_ ?_)) (by repeat (with_reducible first | exact NF_nI _ | assumption | refine NF_add ?_ ?_ | refine NF_mul ?_ ?_)) ?_ | refine jv_iadd h dL_law_806 ?_
  refine jv_sld h hx dL_law_807 (by repeat (with_reducible first | exact NF_nI _ | assumption | refine NF_add ?_ ?_ | refine NF_mul ?_ ?_)) ⟨by omega, by omega⟩ ?_
  refine jv_VGi [_] h dL_law_808 cw_L_98 cf_10 hC.1.1 (C_heaviest hC hP _) (by decide) rfl rfl (Nat.le_of_ble_eq_true rfl) (by rw [hR]; exact ⟨Nat.le_of_ble_eq_true rfl, Nat.le_of_ble_eq_true rfl⟩) (fun v_c Mc Lc hpc => ?_)
  obtain ⟨e1, hC1, f1⟩ := hpc
  have hM1 : MInv x.1 T Mc Lc (X + 194) σ := hM.fr (fun q q1 q2 => f1 q (by omega))
  refine jv_aload_n h dL_law_811 rfl ?_
  refine jv_aload_n h dL_law_812 rfl ?_
  refine jv_iload_n h dL_law_813 rfl ?_
  refine jv_iconst (nI 1) h dL_law_814 (by decide) ?_
  first | refine jv_iaddN h dL_law_815 (by repeat (with_reducible first | exact NF_nI _ | assumption | refine NF_add ?_ ?_ | refine NF_mul ?_ ?_)) (by repeat (with_reducible first | exact NF_nI _ | assumption | refine NF_add ?_ ?_ | refine NF_mul ?_ ?_)) ?_ | refine jv_iadd h dL_law_815 ?_
  refine jv_sld h hx dL_law_816 (by repeat (with_reducible first | exact NF_nI _ | assumption | refine NF_add ?_ ?_ | refine NF_mul ?_ ?_)) ⟨by omega, by omega⟩ ?_
  refine jv_VGi [_] h dL_law_817 cw_L_101 cf_11 hM1.1.1 (M_heaviest hM1 hP _) (by decide) rfl rfl (Nat.le_of_ble_eq_true rfl) (by rw [hR]; exact ⟨Nat.le_of_ble_eq_true rfl, Nat.le_of_ble_eq_true rfl⟩) (fun v_m Mm Lm hpm => ?_)
  obtain ⟨e2, hM2, f2⟩ := hpm
  have hC2 := hC1.fr (p_heaviest _ hP) (fun q q1 q2 => f2 q (by omega))
  refine jv_icmp_eq 1287 h dL_law_820 (by decide) (fun c820 => ?_) (fun c820 => ?_)
  · exact hk _ _ _ hC2 hM2 (p_heaviest _ hP)
  · exact absurd (e1.trans e2.symm) c820
set_option maxHeartbeats 4000000 in
set_option maxRecDepth 100000 in
theorem lc_changed {x : CX} {T : TT} {Mi : MI} {Ml : ML} {b L X i : Nat} {xs : Nat → Int32} {σ : ST} (h : Ok x RL cL_law 14) (hR : x.2.2.2.2.1 = room_1) (hx : Sc x b L xs) (hL : L ≤ 448) (hi : i + 7 ≤ L) (hC : CInv x.1 T Mi Ml X σ) (hM : MInv x.1 T Mi Ml (X + 194) σ) (hP : PInv σ)
    (hk : ∀ (M2 : MI) (L2 : ML) (σ2 : ST), CInv x.1 T M2 L2 X σ2 → MInv x.1 T M2 L2 (X + 194) σ2 → PInv σ2 → V x 206 2625 T M2 L2 1287 [some (.ref b), some (.ref X), some (.ref (X + 194)), some (.int (nI i))] []) : V x 206 2625 T Mi Ml 825 [some (.ref b), some (.ref X), some (.ref (X + 194)), some (.int (nI i))] [] := by
  refine jv_aload_n h dL_law_825 rfl ?_
  refine jv_aload_n h dL_law_826 rfl ?_
  refine jv_iload_n h dL_law_827 rfl ?_
  refine jv_iconst (nI 1) h dL_law_828 (by decide) ?_
  first | refine jv_iaddN h dL_law_829 (by repeat (with_reducible first | exact NF_nI _ | assumption | refine NF_add ?_ ?_ | refine NF_mul ?_ ?_)) (by repeat (with_reducible first | exact NF_nI _ | assumption | refine NF_add ?_ ?_ | refine NF_mul ?_ ?_)) ?_ | refine jv_iadd h dL_law_829 ?_
  refine jv_sld h hx dL_law_830 (by repeat (with_reducible first | exact NF_nI _ | assumption | refine NF_add ?_ ?_ | refine NF_mul ?_ ?_)) ⟨by omega, by omega⟩ ?_
  refine jv_aload_n h dL_law_831 rfl ?_
  refine jv_iload_n h dL_law_832 rfl ?_
  refine jv_iconst (nI 2) h dL_law_833 (by decide) ?_
  first | refine jv_iaddN h dL_law_834 (by repeat (with_reducible first | exact NF_nI _ | assumption | refine NF_add ?_ ?_ | refine NF_mul ?_ ?_)) (by repeat (with_reducible first | exact NF_nI _ | assumption | refine NF_add ?_ ?_ | refine NF_mul ?_ ?_)) ?_ | refine jv_iadd h dL_law_834 ?_
  refine jv_sld h hx dL_law_835 (by repeat (with_reducible first | exact NF_nI _ | assumption | refine NF_add ?_ ?_ | refine NF_mul ?_ ?_)) ⟨by omega, by omega⟩ ?_
  refine jv_aload_n h dL_law_836 rfl ?_
  refine jv_iload_n h dL_law_837 rfl ?_
  refine jv_iconst (nI 3) h dL_law_838 (by decide) ?_
  first | refine jv_iaddN h dL_law_839 (by repeat (with_reducible first | exact NF_nI _ | assumption | refine NF_add ?_ ?_ | refine NF_mul ?_ ?_)) (by repeat (with_reducible first | exact NF_nI _ | assumption | refine NF_add ?_ ?_ | refine NF_mul ?_ ?_)) ?_ | refine jv_iadd h dL_law_839 ?_
  refine jv_sld h hx dL_law_840 (by repeat (with_reducible first | exact NF_nI _ | assumption | refine NF_add ?_ ?_ | refine NF_mul ?_ ?_)) ⟨by omega, by omega⟩ ?_
  refine jv_aload_n h dL_law_841 rfl ?_
  refine jv_iload_n h dL_law_842 rfl ?_
  refine jv_iconst (nI 4) h dL_law_843 (by decide) ?_
  first | refine jv_iaddN h dL_law_844 (by repeat (with_reducible first | exact NF_nI _ | assumption | refine NF_add ?_ ?_ | refine NF_mul ?_ ?_)) (by repeat (with_reducible first | exact NF_nI _ | assumption | refine NF_add ?_ ?_ | refine NF_mul ?_ ?_)) ?_ | refine jv_iadd h dL_law_844 ?_
  refine jv_sld h hx dL_law_845 (by repeat (with_reducible first | exact NF_nI _ | assumption | refine NF_add ?_ ?_ | refine NF_mul ?_ ?_)) ⟨by omega, by omega⟩ ?_
  refine jv_VGi [_, _, _, _] h dL_law_846 cw_L_102 cf_10 hC.1.1 (C_changed hC hP _ _ _ _) (by decide) rfl rfl (Nat.le_of_ble_eq_true rfl) (by rw [hR]; exact ⟨Nat.le_of_ble_eq_true rfl, Nat.le_of_ble_eq_true rfl⟩) (fun v_c Mc Lc hpc => ?_)
  obtain ⟨e1, hC1, f1⟩ := hpc
  have hM1 : MInv x.1 T Mc Lc (X + 194) σ := hM.fr (fun q q1 q2 => f1 q (by omega))
  refine jv_aload_n h dL_law_849 rfl ?_
  refine jv_aload_n h dL_law_850 rfl ?_
  refine jv_iload_n h dL_law_851 rfl ?_
  refine jv_iconst (nI 1) h dL_law_852 (by decide) ?_
  first | refine jv_iaddN h dL_law_853 (by repeat (with_reducible first | exact NF_nI _ | assumption | refine NF_add ?_ ?_ | refine NF_mul ?_ ?_)) (by repeat (with_reducible first | exact NF_nI _ | assumption | refine NF_add ?_ ?_ | refine NF_mul ?_ ?_)) ?_ | refine jv_iadd h dL_law_853 ?_
  refine jv_sld h hx dL_law_854 (by repeat (with_reducible first | exact NF_nI _ | assumption | refine NF_add ?_ ?_ | refine NF_mul ?_ ?_)) ⟨by omega, by omega⟩ ?_
  refine jv_aload_n h dL_law_855 rfl ?_
  refine jv_iload_n h dL_law_856 rfl ?_
  refine jv_iconst (nI 2) h dL_law_857 (by decide) ?_
  first | refine jv_iaddN h dL_law_858 (by repeat (with_reducible first | exact NF_nI _ | assumption | refine NF_add ?_ ?_ | refine NF_mul ?_ ?_)) (by repeat (with_reducible first | exact NF_nI _ | assumption | refine NF_add ?_ ?_ | refine NF_mul ?_ ?_)) ?_ | refine jv_iadd h dL_law_858 ?_
  refine jv_sld h hx dL_law_859 (by repeat (with_reducible first | exact NF_nI _ | assumption | refine NF_add ?_ ?_ | refine NF_mul ?_ ?_)) ⟨by omega, by omega⟩ ?_
  refine jv_aload_n h dL_law_860 rfl ?_
  refine jv_iload_n h dL_law_861 rfl ?_
  refine jv_iconst (nI 3) h dL_law_862 (by decide) ?_
  first | refine jv_iaddN h dL_law_863 (by repeat (with_reducible first | exact NF_nI _ | assumption | refine NF_add ?_ ?_ | refine NF_mul ?_ ?_)) (by repeat (with_reducible first | exact NF_nI _ | assumption | refine NF_add ?_ ?_ | refine NF_mul ?_ ?_)) ?_ | refine jv_iadd h dL_law_863 ?_
  refine jv_sld h hx dL_law_864 (by repeat (with_reducible first | exact NF_nI _ | assumption | refine NF_add ?_ ?_ | refine NF_mul ?_ ?_)) ⟨by omega, by omega⟩ ?_
  refine jv_aload_n h dL_law_865 rfl ?_
  refine jv_iload_n h dL_law_866 rfl ?_
  refine jv_iconst (nI 4) h dL_law_867 (by decide) ?_
  first | refine jv_iaddN h dL_law_868 (by repeat (with_reducible first | exact NF_nI _ | assumption | refine NF_add ?_ ?_ | refine NF_mul ?_ ?_)) (by repeat (with_reducible first | exact NF_nI _ | assumption | refine NF_add ?_ ?_ | refine NF_mul ?_ ?_)) ?_ | refine jv_iadd h dL_law_868 ?_
  refine jv_sld h hx dL_law_869 (by repeat (with_reducible first | exact NF_nI _ | assumption | refine NF_add ?_ ?_ | refine NF_mul ?_ ?_)) ⟨by omega, by omega⟩ ?_
  refine jv_VGi [_, _, _, _] h dL_law_870 cw_L_105 cf_11 hM1.1.1 (M_changed hM1 hP _ _ _ _) (by decide) rfl rfl (Nat.le_of_ble_eq_true rfl) (by rw [hR]; exact ⟨Nat.le_of_ble_eq_true rfl, Nat.le_of_ble_eq_true rfl⟩) (fun v_m Mm Lm hpm => ?_)
  obtain ⟨e2, hM2, f2⟩ := hpm
  have hC2 := hC1.fr (p_changed _ _ _ _ hP) (fun q q1 q2 => f2 q (by omega))
  refine jv_icmp_eq 1287 h dL_law_873 (by decide) (fun c873 => ?_) (fun c873 => ?_)
  · exact hk _ _ _ hC2 hM2 (p_changed _ _ _ _ hP)
  · exact absurd (e1.trans e2.symm) c873
set_option maxHeartbeats 4000000 in
set_option maxRecDepth 100000 in
theorem lc_goes {x : CX} {T : TT} {Mi : MI} {Ml : ML} {b L X i : Nat} {xs : Nat → Int32} {σ : ST} (h : Ok x RL cL_law 14) (hR : x.2.2.2.2.1 = room_1) (hx : Sc x b L xs) (hL : L ≤ 448) (hi : i + 7 ≤ L) (hC : CInv x.1 T Mi Ml X σ) (hM : MInv x.1 T Mi Ml (X + 194) σ) (hP : PInv σ)
    (hk : ∀ (M2 : MI) (L2 : ML) (σ2 : ST), CInv x.1 T M2 L2 X σ2 → MInv x.1 T M2 L2 (X + 194) σ2 → PInv σ2 → V x 206 2625 T M2 L2 1287 [some (.ref b), some (.ref X), some (.ref (X + 194)), some (.int (nI i))] []) : V x 206 2625 T Mi Ml 878 [some (.ref b), some (.ref X), some (.ref (X + 194)), some (.int (nI i))] [] := by
  refine jv_aload_n h dL_law_878 rfl ?_
  refine jv_aload_n h dL_law_879 rfl ?_
  refine jv_iload_n h dL_law_880 rfl ?_
  refine jv_iconst (nI 1) h dL_law_881 (by decide) ?_
  first | refine jv_iaddN h dL_law_882 (by repeat (with_reducible first | exact NF_nI _ | assumption | refine NF_add ?_ ?_ | refine NF_mul ?_ ?_)) (by repeat (with_reducible first | exact NF_nI _ | assumption | refine NF_add ?_ ?_ | refine NF_mul ?_ ?_)) ?_ | refine jv_iadd h dL_law_882 ?_
  refine jv_sld h hx dL_law_883 (by repeat (with_reducible first | exact NF_nI _ | assumption | refine NF_add ?_ ?_ | refine NF_mul ?_ ?_)) ⟨by omega, by omega⟩ ?_
  refine jv_aload_n h dL_law_884 rfl ?_
  refine jv_iload_n h dL_law_885 rfl ?_
  refine jv_iconst (nI 2) h dL_law_886 (by decide) ?_
  first | refine jv_iaddN h dL_law_887 (by repeat (with_reducible first | exact NF_nI _ | assumption | refine NF_add ?_ ?_ | refine NF_mul ?_ ?_)) (by repeat (with_reducible first | exact NF_nI _ | assumption | refine NF_add ?_ ?_ | refine NF_mul ?_ ?_)) ?_ | refine jv_iadd h dL_law_887 ?_
  refine jv_sld h hx dL_law_888 (by repeat (with_reducible first | exact NF_nI _ | assumption | refine NF_add ?_ ?_ | refine NF_mul ?_ ?_)) ⟨by omega, by omega⟩ ?_
  refine jv_VGi [_, _] h dL_law_889 cw_L_106 cf_10 hC.1.1 (C_goes hC hP _ _) (by decide) rfl rfl (Nat.le_of_ble_eq_true rfl) (by rw [hR]; exact ⟨Nat.le_of_ble_eq_true rfl, Nat.le_of_ble_eq_true rfl⟩) (fun v_c Mc Lc hpc => ?_)
  obtain ⟨e1, hC1, f1⟩ := hpc
  have hM1 : MInv x.1 T Mc Lc (X + 194) σ := hM.fr (fun q q1 q2 => f1 q (by omega))
  refine jv_aload_n h dL_law_892 rfl ?_
  refine jv_aload_n h dL_law_893 rfl ?_
  refine jv_iload_n h dL_law_894 rfl ?_
  refine jv_iconst (nI 1) h dL_law_895 (by decide) ?_
  first | refine jv_iaddN h dL_law_896 (by repeat (with_reducible first | exact NF_nI _ | assumption | refine NF_add ?_ ?_ | refine NF_mul ?_ ?_)) (by repeat (with_reducible first | exact NF_nI _ | assumption | refine NF_add ?_ ?_ | refine NF_mul ?_ ?_)) ?_ | refine jv_iadd h dL_law_896 ?_
  refine jv_sld h hx dL_law_897 (by repeat (with_reducible first | exact NF_nI _ | assumption | refine NF_add ?_ ?_ | refine NF_mul ?_ ?_)) ⟨by omega, by omega⟩ ?_
  refine jv_aload_n h dL_law_898 rfl ?_
  refine jv_iload_n h dL_law_899 rfl ?_
  refine jv_iconst (nI 2) h dL_law_900 (by decide) ?_
  first | refine jv_iaddN h dL_law_901 (by repeat (with_reducible first | exact NF_nI _ | assumption | refine NF_add ?_ ?_ | refine NF_mul ?_ ?_)) (by repeat (with_reducible first | exact NF_nI _ | assumption | refine NF_add ?_ ?_ | refine NF_mul ?_ ?_)) ?_ | refine jv_iadd h dL_law_901 ?_
  refine jv_sld h hx dL_law_902 (by repeat (with_reducible first | exact NF_nI _ | assumption | refine NF_add ?_ ?_ | refine NF_mul ?_ ?_)) ⟨by omega, by omega⟩ ?_
  refine jv_VGi [_, _] h dL_law_903 cw_L_109 cf_11 hM1.1.1 (M_goes hM1 hP _ _) (by decide) rfl rfl (Nat.le_of_ble_eq_true rfl) (by rw [hR]; exact ⟨Nat.le_of_ble_eq_true rfl, Nat.le_of_ble_eq_true rfl⟩) (fun v_m Mm Lm hpm => ?_)
  obtain ⟨e2, hM2, f2⟩ := hpm
  have hC2 := hC1.fr (p_goes _ _ hP) (fun q q1 q2 => f2 q (by omega))
  refine jv_icmp_eq 1287 h dL_law_906 (by decide) (fun c906 => ?_) (fun c906 => ?_)
  · exact hk _ _ _ hC2 hM2 (p_goes _ _ hP)
  · exact absurd (e1.trans e2.symm) c906
set_option maxHeartbeats 4000000 in
set_option maxRecDepth 100000 in
theorem lc_image {x : CX} {T : TT} {Mi : MI} {Ml : ML} {b L X i : Nat} {xs : Nat → Int32} {σ : ST} (h : Ok x RL cL_law 14) (hR : x.2.2.2.2.1 = room_1) (hx : Sc x b L xs) (hL : L ≤ 448) (hi : i + 7 ≤ L) (hC : CInv x.1 T Mi Ml X σ) (hM : MInv x.1 T Mi Ml (X + 194) σ) (hP : PInv σ)
    (hk : ∀ (M2 : MI) (L2 : ML) (σ2 : ST), CInv x.1 T M2 L2 X σ2 → MInv x.1 T M2 L2 (X + 194) σ2 → PInv σ2 → V x 206 2625 T M2 L2 1287 [some (.ref b), some (.ref X), some (.ref (X + 194)), some (.int (nI i))] []) : V x 206 2625 T Mi Ml 911 [some (.ref b), some (.ref X), some (.ref (X + 194)), some (.int (nI i))] [] := by
  refine jv_aload_n h dL_law_911 rfl ?_
  refine jv_VGi [] h dL_law_912 cw_L_110 cf_10 hC.1.1 (C_image hC hP) (by decide) rfl rfl (Nat.le_of_ble_eq_true rfl) (by rw [hR]; exact ⟨Nat.le_of_ble_eq_true rfl, Nat.le_of_ble_eq_true rfl⟩) (fun v_c Mc Lc hpc => ?_)
  obtain ⟨e1, hC1, f1⟩ := hpc
  have hM1 : MInv x.1 T Mc Lc (X + 194) σ := hM.fr (fun q q1 q2 => f1 q (by omega))
  refine jv_aload_n h dL_law_915 rfl ?_
  refine jv_VGi [] h dL_law_916 cw_L_113 cf_11 hM1.1.1 (M_image hM1 hP) (by decide) rfl rfl (Nat.le_of_ble_eq_true rfl) (by rw [hR]; exact ⟨Nat.le_of_ble_eq_true rfl, Nat.le_of_ble_eq_true rfl⟩) (fun v_m Mm Lm hpm => ?_)
  obtain ⟨e2, hM2, f2⟩ := hpm
  have hC2 := hC1.fr (p_image hP) (fun q q1 q2 => f2 q (by omega))
  refine jv_icmp_eq 1287 h dL_law_919 (by decide) (fun c919 => ?_) (fun c919 => ?_)
  · exact hk _ _ _ hC2 hM2 (p_image hP)
  · exact absurd (e1.trans e2.symm) c919
set_option maxHeartbeats 4000000 in
set_option maxRecDepth 100000 in
theorem lc_restore {x : CX} {T : TT} {Mi : MI} {Ml : ML} {b L X i : Nat} {xs : Nat → Int32} {σ : ST} (h : Ok x RL cL_law 14) (hR : x.2.2.2.2.1 = room_1) (hx : Sc x b L xs) (hL : L ≤ 448) (hi : i + 7 ≤ L) (hC : CInv x.1 T Mi Ml X σ) (hM : MInv x.1 T Mi Ml (X + 194) σ) (hP : PInv σ)
    (hk : ∀ (M2 : MI) (L2 : ML) (σ2 : ST), CInv x.1 T M2 L2 X σ2 → MInv x.1 T M2 L2 (X + 194) σ2 → PInv σ2 → V x 206 2625 T M2 L2 1287 [some (.ref b), some (.ref X), some (.ref (X + 194)), some (.int (nI i))] []) : V x 206 2625 T Mi Ml 924 [some (.ref b), some (.ref X), some (.ref (X + 194)), some (.int (nI i))] [] := by
  refine jv_aload_n h dL_law_924 rfl ?_
  refine jv_VGi [] h dL_law_925 cw_L_114 cf_10 hC.1.1 (C_restore hC hP) (by decide) rfl rfl (Nat.le_of_ble_eq_true rfl) (by rw [hR]; exact ⟨Nat.le_of_ble_eq_true rfl, Nat.le_of_ble_eq_true rfl⟩) (fun v_c Mc Lc hpc => ?_)
  obtain ⟨e1, hC1, f1⟩ := hpc
  have hM1 : MInv x.1 T Mc Lc (X + 194) σ := hM.fr (fun q q1 q2 => f1 q (by omega))
  refine jv_aload_n h dL_law_928 rfl ?_
  refine jv_VGi [] h dL_law_929 cw_L_117 cf_11 hM1.1.1 (M_restore hM1 hP) (by decide) rfl rfl (Nat.le_of_ble_eq_true rfl) (by rw [hR]; exact ⟨Nat.le_of_ble_eq_true rfl, Nat.le_of_ble_eq_true rfl⟩) (fun v_m Mm Lm hpm => ?_)
  obtain ⟨e2, hM2, f2⟩ := hpm
  have hC2 := hC1.fr (p_restore hP) (fun q q1 q2 => f2 q (by omega))
  refine jv_icmp_eq 1287 h dL_law_932 (by decide) (fun c932 => ?_) (fun c932 => ?_)
  · exact hk _ _ _ hC2 hM2 (p_restore hP)
  · exact absurd (e1.trans e2.symm) c932
set_option maxHeartbeats 4000000 in
set_option maxRecDepth 100000 in
theorem lc_weighed {x : CX} {T : TT} {Mi : MI} {Ml : ML} {b L X i : Nat} {xs : Nat → Int32} {σ : ST} (h : Ok x RL cL_law 14) (hR : x.2.2.2.2.1 = room_1) (hx : Sc x b L xs) (hL : L ≤ 448) (hi : i + 7 ≤ L) (hC : CInv x.1 T Mi Ml X σ) (hM : MInv x.1 T Mi Ml (X + 194) σ) (hP : PInv σ)
    (hk : ∀ (M2 : MI) (L2 : ML) (σ2 : ST), CInv x.1 T M2 L2 X σ2 → MInv x.1 T M2 L2 (X + 194) σ2 → PInv σ2 → V x 206 2625 T M2 L2 1287 [some (.ref b), some (.ref X), some (.ref (X + 194)), some (.int (nI i))] []) : V x 206 2625 T Mi Ml 937 [some (.ref b), some (.ref X), some (.ref (X + 194)), some (.int (nI i))] [] := by
  refine jv_aload_n h dL_law_937 rfl ?_
  refine jv_aload_n h dL_law_938 rfl ?_
  refine jv_iload_n h dL_law_939 rfl ?_
  refine jv_iconst (nI 1) h dL_law_940 (by decide) ?_
  first | refine jv_iaddN h dL_law_941 (by repeat (with_reducible first | exact NF_nI _ | assumption | refine NF_add ?_ ?_ | refine NF_mul ?_ ?_)) (by repeat (with_reducible first | exact NF_nI _ | assumption | refine NF_add ?_ ?_ | refine NF_mul ?_ ?_)) ?_ | refine jv_iadd h dL_law_941 ?_
  refine jv_sld h hx dL_law_942 (by repeat (with_reducible first | exact NF_nI _ | assumption | refine NF_add ?_ ?_ | refine NF_mul ?_ ?_)) ⟨by omega, by omega⟩ ?_
  refine jv_aload_n h dL_law_943 rfl ?_
  refine jv_iload_n h dL_law_944 rfl ?_
  refine jv_iconst (nI 2) h dL_law_945 (by decide) ?_
  first | refine jv_iaddN h dL_law_946 (by repeat (with_reducible first | exact NF_nI _ | assumption | refine NF_add ?_ ?_ | refine NF_mul ?_ ?_)) (by repeat (with_reducible first | exact NF_nI _ | assumption | refine NF_add ?_ ?_ | refine NF_mul ?_ ?_)) ?_ | refine jv_iadd h dL_law_946 ?_
  refine jv_sld h hx dL_law_947 (by repeat (with_reducible first | exact NF_nI _ | assumption | refine NF_add ?_ ?_ | refine NF_mul ?_ ?_)) ⟨by omega, by omega⟩ ?_
  refine jv_aload_n h dL_law_948 rfl ?_
  refine jv_iload_n h dL_law_949 rfl ?_
  refine jv_iconst (nI 3) h dL_law_950 (by decide) ?_
  first | refine jv_iaddN h dL_law_951 (by repeat (with_reducible first | exact NF_nI _ | assumption | refine NF_add ?_ ?_ | refine NF_mul ?_ ?_)) (by repeat (with_reducible first | exact NF_nI _ | assumption | refine NF_add ?_ ?_ | refine NF_mul ?_ ?_)) ?_ | refine jv_iadd h dL_law_951 ?_
  refine jv_sld h hx dL_law_952 (by repeat (with_reducible first | exact NF_nI _ | assumption | refine NF_add ?_ ?_ | refine NF_mul ?_ ?_)) ⟨by omega, by omega⟩ ?_
  refine jv_aload_n h dL_law_953 rfl ?_
  refine jv_iload_n h dL_law_954 rfl ?_
  refine jv_iconst (nI 4) h dL_law_955 (by decide) ?_
  first | refine jv_iaddN h dL_law_956 (by repeat (with_reducible first | exact NF_nI _ | assumption | refine NF_add ?_ ?_ | refine NF_mul ?_ ?_)) (by repeat (with_reducible first | exact NF_nI _ | assumption | refine NF_add ?_ ?_ | refine NF_mul ?_ ?_)) ?_ | refine jv_iadd h dL_law_956 ?_
  refine jv_sld h hx dL_law_957 (by repeat (with_reducible first | exact NF_nI _ | assumption | refine NF_add ?_ ?_ | refine NF_mul ?_ ?_)) ⟨by omega, by omega⟩ ?_
  refine jv_aload_n h dL_law_958 rfl ?_
  refine jv_iload_n h dL_law_959 rfl ?_
  refine jv_iconst (nI 5) h dL_law_960 (by decide) ?_
  first | refine jv_iaddN h dL_law_961 (by repeat (with_reducible first | exact NF_nI _ | assumption | refine NF_add ?_ ?_ | refine NF_mul ?_ ?_)) (by repeat (with_reducible first | exact NF_nI _ | assumption | refine NF_add ?_ ?_ | refine NF_mul ?_ ?_)) ?_ | refine jv_iadd h dL_law_961 ?_
  refine jv_sld h hx dL_law_962 (by repeat (with_reducible first | exact NF_nI _ | assumption | refine NF_add ?_ ?_ | refine NF_mul ?_ ?_)) ⟨by omega, by omega⟩ ?_
  refine jv_VGi [_, _, _, _, _] h dL_law_963 cw_L_118 cf_10 hC.1.1 (C_weighed hC hP _ _ _ _ _) (by decide) rfl rfl (Nat.le_of_ble_eq_true rfl) (by rw [hR]; exact ⟨Nat.le_of_ble_eq_true rfl, Nat.le_of_ble_eq_true rfl⟩) (fun v_c Mc Lc hpc => ?_)
  obtain ⟨e1, hC1, f1⟩ := hpc
  have hM1 : MInv x.1 T Mc Lc (X + 194) σ := hM.fr (fun q q1 q2 => f1 q (by omega))
  refine jv_aload_n h dL_law_966 rfl ?_
  refine jv_aload_n h dL_law_967 rfl ?_
  refine jv_iload_n h dL_law_968 rfl ?_
  refine jv_iconst (nI 1) h dL_law_969 (by decide) ?_
  first | refine jv_iaddN h dL_law_970 (by repeat (with_reducible first | exact NF_nI _ | assumption | refine NF_add ?_ ?_ | refine NF_mul ?_ ?_)) (by repeat (with_reducible first | exact NF_nI _ | assumption | refine NF_add ?_ ?_ | refine NF_mul ?_ ?_)) ?_ | refine jv_iadd h dL_law_970 ?_
  refine jv_sld h hx dL_law_971 (by repeat (with_reducible first | exact NF_nI _ | assumption | refine NF_add ?_ ?_ | refine NF_mul ?_ ?_)) ⟨by omega, by omega⟩ ?_
  refine jv_aload_n h dL_law_972 rfl ?_
  refine jv_iload_n h dL_law_973 rfl ?_
  refine jv_iconst (nI 2) h dL_law_974 (by decide) ?_
  first | refine jv_iaddN h dL_law_975 (by repeat (with_reducible first | exact NF_nI _ | assumption | refine NF_add ?_ ?_ | refine NF_mul ?_ ?_)) (by repeat (with_reducible first | exact NF_nI _ | assumption | refine NF_add ?_ ?_ | refine NF_mul ?_ ?_)) ?_ | refine jv_iadd h dL_law_975 ?_
  refine jv_sld h hx dL_law_976 (by repeat (with_reducible first | exact NF_nI _ | assumption | refine NF_add ?_ ?_ | refine NF_mul ?_ ?_)) ⟨by omega, by omega⟩ ?_
  refine jv_aload_n h dL_law_977 rfl ?_
  refine jv_iload_n h dL_law_978 rfl ?_
  refine jv_iconst (nI 3) h dL_law_979 (by decide) ?_
  first | refine jv_iaddN h dL_law_980 (by repeat (with_reducible first | exact NF_nI _ | assumption | refine NF_add ?_ ?_ | refine NF_mul ?_ ?_)) (by repeat (with_reducible first | exact NF_nI _ | assumption | refine NF_add ?_ ?_ | refine NF_mul ?_ ?_)) ?_ | refine jv_iadd h dL_law_980 ?_
  refine jv_sld h hx dL_law_981 (by repeat (with_reducible first | exact NF_nI _ | assumption | refine NF_add ?_ ?_ | refine NF_mul ?_ ?_)) ⟨by omega, by omega⟩ ?_
  refine jv_aload_n h dL_law_982 rfl ?_
  refine jv_iload_n h dL_law_983 rfl ?_
  refine jv_iconst (nI 4) h dL_law_984 (by decide) ?_
  first | refine jv_iaddN h dL_law_985 (by repeat (with_reducible first | exact NF_nI _ | assumption | refine NF_add ?_ ?_ | refine NF_mul ?_ ?_)) (by repeat (with_reducible first | exact NF_nI _ | assumption | refine NF_add ?_ ?_ | refine NF_mul ?_ ?_)) ?_ | refine jv_iadd h dL_law_985 ?_
  refine jv_sld h hx dL_law_986 (by repeat (with_reducible first | exact NF_nI _ | assumption | refine NF_add ?_ ?_ | refine NF_mul ?_ ?_)) ⟨by omega, by omega⟩ ?_
  refine jv_aload_n h dL_law_987 rfl ?_
  refine jv_iload_n h dL_law_988 rfl ?_
  refine jv_iconst (nI 5) h dL_law_989 (by decide) ?_
  first | refine jv_iaddN h dL_law_990 (by repeat (with_reducible first | exact NF_nI _ | assumption | refine NF_add ?_ ?_ | refine NF_mul ?_ ?_)) (by repeat (with_reducible first | exact NF_nI _ | assumption | refine NF_add ?_ ?_ | refine NF_mul ?_ ?_)) ?_ | refine jv_iadd h dL_law_990 ?_
  refine jv_sld h hx dL_law_991 (by repeat (with_reducible first | exact NF_nI _ | assumption | refine NF_add ?_ ?_ | refine NF_mul ?_ ?_)) ⟨by omega, by omega⟩ ?_
  refine jv_VGi [_, _, _, _, _] h dL_law_992 cw_L_122 cf_11 hM1.1.1 (M_weighed hM1 hP _ _ _ _ _) (by decide) rfl rfl (Nat.le_of_ble_eq_true rfl) (by rw [hR]; exact ⟨Nat.le_of_ble_eq_true rfl, Nat.le_of_ble_eq_true rfl⟩) (fun v_m Mm Lm hpm => ?_)
  obtain ⟨e2, hM2, f2⟩ := hpm
  have hC2 := hC1.fr (p_weighed _ _ _ _ _ hP) (fun q q1 q2 => f2 q (by omega))
  refine jv_icmp_eq 1287 h dL_law_995 (by decide) (fun c995 => ?_) (fun c995 => ?_)
  · exact hk _ _ _ hC2 hM2 (p_weighed _ _ _ _ _ hP)
  · exact absurd (e1.trans e2.symm) c995
set_option maxHeartbeats 4000000 in
set_option maxRecDepth 100000 in
theorem lc_film {x : CX} {T : TT} {Mi : MI} {Ml : ML} {b L X i : Nat} {xs : Nat → Int32} {σ : ST} (h : Ok x RL cL_law 14) (hR : x.2.2.2.2.1 = room_1) (hx : Sc x b L xs) (hL : L ≤ 448) (hi : i + 7 ≤ L) (hC : CInv x.1 T Mi Ml X σ) (hM : MInv x.1 T Mi Ml (X + 194) σ) (hP : PInv σ)
    (hk : ∀ (M2 : MI) (L2 : ML) (σ2 : ST), CInv x.1 T M2 L2 X σ2 → MInv x.1 T M2 L2 (X + 194) σ2 → PInv σ2 → V x 206 2625 T M2 L2 1287 [some (.ref b), some (.ref X), some (.ref (X + 194)), some (.int (nI i))] []) : V x 206 2625 T Mi Ml 1000 [some (.ref b), some (.ref X), some (.ref (X + 194)), some (.int (nI i))] [] := by
  refine jv_aload_n h dL_law_1000 rfl ?_
  refine jv_aload_n h dL_law_1001 rfl ?_
  refine jv_iload_n h dL_law_1002 rfl ?_
  refine jv_iconst (nI 1) h dL_law_1003 (by decide) ?_
  first | refine jv_iaddN h dL_law_1004 (by repeat (with_reducible first | exact NF_nI _ | assumption | refine NF_add ?_ ?_ | refine NF_mul ?_ ?_)) (by repeat (with_reducible first | exact NF_nI _ | assumption | refine NF_add ?_ ?_ | refine NF_mul ?_ ?_)) ?_ | refine jv_iadd h dL_law_1004 ?_
  refine jv_sld h hx dL_law_1005 (by repeat (with_reducible first | exact NF_nI _ | assumption | refine NF_add ?_ ?_ | refine NF_mul ?_ ?_)) ⟨by omega, by omega⟩ ?_
  refine jv_aload_n h dL_law_1006 rfl ?_
  refine jv_iload_n h dL_law_1007 rfl ?_
  refine jv_iconst (nI 2) h dL_law_1008 (by decide) ?_
  first | refine jv_iaddN h dL_law_1009 (by repeat (with_reducible first | exact NF_nI _ | assumption | refine NF_add ?_ ?_ | refine NF_mul ?_ ?_)) (by repeat (with_reducible first | exact NF_nI _ | assumption | refine NF_add ?_ ?_ | refine NF_mul ?_ ?_)) ?_ | refine jv_iadd h dL_law_1009 ?_
  refine jv_sld h hx dL_law_1010 (by repeat (with_reducible first | exact NF_nI _ | assumption | refine NF_add ?_ ?_ | refine NF_mul ?_ ?_)) ⟨by omega, by omega⟩ ?_
  refine jv_aload_n h dL_law_1011 rfl ?_
  refine jv_iload_n h dL_law_1012 rfl ?_
  refine jv_iconst (nI 3) h dL_law_1013 (by decide) ?_
  first | refine jv_iaddN h dL_law_1014 (by repeat (with_reducible first | exact NF_nI _ | assumption | refine NF_add ?_ ?_ | refine NF_mul ?_ ?_)) (by repeat (with_reducible first | exact NF_nI _ | assumption | refine NF_add ?_ ?_ | refine NF_mul ?_ ?_)) ?_ | refine jv_iadd h dL_law_1014 ?_
  refine jv_sld h hx dL_law_1015 (by repeat (with_reducible first | exact NF_nI _ | assumption | refine NF_add ?_ ?_ | refine NF_mul ?_ ?_)) ⟨by omega, by omega⟩ ?_
  refine jv_aload_n h dL_law_1016 rfl ?_
  refine jv_iload_n h dL_law_1017 rfl ?_
  refine jv_iconst (nI 4) h dL_law_1018 (by decide) ?_
  first | refine jv_iaddN h dL_law_1019 (by repeat (with_reducible first | exact NF_nI _ | assumption | refine NF_add ?_ ?_ | refine NF_mul ?_ ?_)) (by repeat (with_reducible first | exact NF_nI _ | assumption | refine NF_add ?_ ?_ | refine NF_mul ?_ ?_)) ?_ | refine jv_iadd h dL_law_1019 ?_
  refine jv_sld h hx dL_law_1020 (by repeat (with_reducible first | exact NF_nI _ | assumption | refine NF_add ?_ ?_ | refine NF_mul ?_ ?_)) ⟨by omega, by omega⟩ ?_
  refine jv_aload_n h dL_law_1021 rfl ?_
  refine jv_iload_n h dL_law_1022 rfl ?_
  refine jv_iconst (nI 5) h dL_law_1023 (by decide) ?_
  first | refine jv_iaddN h dL_law_1024 (by repeat (with_reducible first | exact NF_nI _ | assumption | refine NF_add ?_ ?_ | refine NF_mul ?_ ?_)) (by repeat (with_reducible first | exact NF_nI _ | assumption | refine NF_add ?_ ?_ | refine NF_mul ?_ ?_)) ?_ | refine jv_iadd h dL_law_1024 ?_
  refine jv_sld h hx dL_law_1025 (by repeat (with_reducible first | exact NF_nI _ | assumption | refine NF_add ?_ ?_ | refine NF_mul ?_ ?_)) ⟨by omega, by omega⟩ ?_
  refine jv_aload_n h dL_law_1026 rfl ?_
  refine jv_iload_n h dL_law_1027 rfl ?_
  refine jv_bipush (nI 6) h dL_law_1028 (by decide) ?_
  first | refine jv_iaddN h dL_law_1030 (by repeat (with_reducible first | exact NF_nI _ | assumption | refine NF_add ?_ ?_ | refine NF_mul ?_ ?_)) (by repeat (with_reducible first | exact NF_nI _ | assumption | refine NF_add ?_ ?_ | refine NF_mul ?_ ?_)) ?_ | refine jv_iadd h dL_law_1030 ?_
  refine jv_sld h hx dL_law_1031 (by repeat (with_reducible first | exact NF_nI _ | assumption | refine NF_add ?_ ?_ | refine NF_mul ?_ ?_)) ⟨by omega, by omega⟩ ?_
  refine jv_VGi [_, _, _, _, _, _] h dL_law_1032 cw_L_123 cf_10 hC.1.1 (C_film hC hP _ _ _ _ _ _) (by decide) rfl rfl (Nat.le_of_ble_eq_true rfl) (by rw [hR]; exact ⟨Nat.le_of_ble_eq_true rfl, Nat.le_of_ble_eq_true rfl⟩) (fun v_c Mc Lc hpc => ?_)
  obtain ⟨e1, hC1, f1⟩ := hpc
  have hM1 : MInv x.1 T Mc Lc (X + 194) σ := hM.fr (fun q q1 q2 => f1 q (by omega))
  refine jv_aload_n h dL_law_1035 rfl ?_
  refine jv_aload_n h dL_law_1036 rfl ?_
  refine jv_iload_n h dL_law_1037 rfl ?_
  refine jv_iconst (nI 1) h dL_law_1038 (by decide) ?_
  first | refine jv_iaddN h dL_law_1039 (by repeat (with_reducible first | exact NF_nI _ | assumption | refine NF_add ?_ ?_ | refine NF_mul ?_ ?_)) (by repeat (with_reducible first | exact NF_nI _ | assumption | refine NF_add ?_ ?_ | refine NF_mul ?_ ?_)) ?_ | refine jv_iadd h dL_law_1039 ?_
  refine jv_sld h hx dL_law_1040 (by repeat (with_reducible first | exact NF_nI _ | assumption | refine NF_add ?_ ?_ | refine NF_mul ?_ ?_)) ⟨by omega, by omega⟩ ?_
  refine jv_aload_n h dL_law_1041 rfl ?_
  refine jv_iload_n h dL_law_1042 rfl ?_
  refine jv_iconst (nI 2) h dL_law_1043 (by decide) ?_
  first | refine jv_iaddN h dL_law_1044 (by repeat (with_reducible first | exact NF_nI _ | assumption | refine NF_add ?_ ?_ | refine NF_mul ?_ ?_)) (by repeat (with_reducible first | exact NF_nI _ | assumption | refine NF_add ?_ ?_ | refine NF_mul ?_ ?_)) ?_ | refine jv_iadd h dL_law_1044 ?_
  refine jv_sld h hx dL_law_1045 (by repeat (with_reducible first | exact NF_nI _ | assumption | refine NF_add ?_ ?_ | refine NF_mul ?_ ?_)) ⟨by omega, by omega⟩ ?_
  refine jv_aload_n h dL_law_1046 rfl ?_
  refine jv_iload_n h dL_law_1047 rfl ?_
  refine jv_iconst (nI 3) h dL_law_1048 (by decide) ?_
  first | refine jv_iaddN h dL_law_1049 (by repeat (with_reducible first | exact NF_nI _ | assumption | refine NF_add ?_ ?_ | refine NF_mul ?_ ?_)) (by repeat (with_reducible first | exact NF_nI _ | assumption | refine NF_add ?_ ?_ | refine NF_mul ?_ ?_)) ?_ | refine jv_iadd h dL_law_1049 ?_
  refine jv_sld h hx dL_law_1050 (by repeat (with_reducible first | exact NF_nI _ | assumption | refine NF_add ?_ ?_ | refine NF_mul ?_ ?_)) ⟨by omega, by omega⟩ ?_
  refine jv_aload_n h dL_law_1051 rfl ?_
  refine jv_iload_n h dL_law_1052 rfl ?_
  refine jv_iconst (nI 4) h dL_law_1053 (by decide) ?_
  first | refine jv_iaddN h dL_law_1054 (by repeat (with_reducible first | exact NF_nI _ | assumption | refine NF_add ?_ ?_ | refine NF_mul ?_ ?_)) (by repeat (with_reducible first | exact NF_nI _ | assumption | refine NF_add ?_ ?_ | refine NF_mul ?_ ?_)) ?_ | refine jv_iadd h dL_law_1054 ?_
  refine jv_sld h hx dL_law_1055 (by repeat (with_reducible first | exact NF_nI _ | assumption | refine NF_add ?_ ?_ | refine NF_mul ?_ ?_)) ⟨by omega, by omega⟩ ?_
  refine jv_aload_n h dL_law_1056 rfl ?_
  refine jv_iload_n h dL_law_1057 rfl ?_
  refine jv_iconst (nI 5) h dL_law_1058 (by decide) ?_
  first | refine jv_iaddN h dL_law_1059 (by repeat (with_reducible first | exact NF_nI _ | assumption | refine NF_add ?_ ?_ | refine NF_mul ?_ ?_)) (by repeat (with_reducible first | exact NF_nI _ | assumption | refine NF_add ?_ ?_ | refine NF_mul ?_ ?_)) ?_ | refine jv_iadd h dL_law_1059 ?_
  refine jv_sld h hx dL_law_1060 (by repeat (with_reducible first | exact NF_nI _ | assumption | refine NF_add ?_ ?_ | refine NF_mul ?_ ?_)) ⟨by omega, by omega⟩ ?_
  refine jv_aload_n h dL_law_1061 rfl ?_
  refine jv_iload_n h dL_law_1062 rfl ?_
  refine jv_bipush (nI 6) h dL_law_1063 (by decide) ?_
  first | refine jv_iaddN h dL_law_1065 (by repeat (with_reducible first | exact NF_nI _ | assumption | refine NF_add ?_ ?_ | refine NF_mul ?_ ?_)) (by repeat (with_reducible first | exact NF_nI _ | assumption | refine NF_add ?_ ?_ | refine NF_mul ?_ ?_)) ?_ | refine jv_iadd h dL_law_1065 ?_
  refine jv_sld h hx dL_law_1066 (by repeat (with_reducible first | exact NF_nI _ | assumption | refine NF_add ?_ ?_ | refine NF_mul ?_ ?_)) ⟨by omega, by omega⟩ ?_
  refine jv_VGi [_, _, _, _, _, _] h dL_law_1067 cw_L_127 cf_11 hM1.1.1 (M_film hM1 hP _ _ _ _ _ _) (by decide) rfl rfl (Nat.le_of_ble_eq_true rfl) (by rw [hR]; exact ⟨Nat.le_of_ble_eq_true rfl, Nat.le_of_ble_eq_true rfl⟩) (fun v_m Mm Lm hpm => ?_)
  obtain ⟨e2, hM2, f2⟩ := hpm
  have hC2 := hC1.fr (p_film _ _ _ _ _ _ hP) (fun q q1 q2 => f2 q (by omega))
  refine jv_icmp_eq 1287 h dL_law_1070 (by decide) (fun c1070 => ?_) (fun c1070 => ?_)
  · exact hk _ _ _ hC2 hM2 (p_film _ _ _ _ _ _ hP)
  · exact absurd (e1.trans e2.symm) c1070
set_option maxHeartbeats 4000000 in
set_option maxRecDepth 100000 in
theorem lc_sheet {x : CX} {T : TT} {Mi : MI} {Ml : ML} {b L X i : Nat} {xs : Nat → Int32} {σ : ST} (h : Ok x RL cL_law 14) (hR : x.2.2.2.2.1 = room_1) (hx : Sc x b L xs) (hL : L ≤ 448) (hi : i + 7 ≤ L) (hC : CInv x.1 T Mi Ml X σ) (hM : MInv x.1 T Mi Ml (X + 194) σ) (hP : PInv σ)
    (hk : ∀ (M2 : MI) (L2 : ML) (σ2 : ST), CInv x.1 T M2 L2 X σ2 → MInv x.1 T M2 L2 (X + 194) σ2 → PInv σ2 → V x 206 2625 T M2 L2 1287 [some (.ref b), some (.ref X), some (.ref (X + 194)), some (.int (nI i))] []) : V x 206 2625 T Mi Ml 1075 [some (.ref b), some (.ref X), some (.ref (X + 194)), some (.int (nI i))] [] := by
  refine jv_aload_n h dL_law_1075 rfl ?_
  refine jv_aload_n h dL_law_1076 rfl ?_
  refine jv_iload_n h dL_law_1077 rfl ?_
  refine jv_iconst (nI 1) h dL_law_1078 (by decide) ?_
  first | refine jv_iaddN h dL_law_1079 (by repeat (with_reducible first | exact NF_nI _ | assumption | refine NF_add ?_ ?_ | refine NF_mul ?_ ?_)) (by repeat (with_reducible first | exact NF_nI _ | assumption | refine NF_add ?_ ?_ | refine NF_mul ?_ ?_)) ?_ | refine jv_iadd h dL_law_1079 ?_
  refine jv_sld h hx dL_law_1080 (by repeat (with_reducible first | exact NF_nI _ | assumption | refine NF_add ?_ ?_ | refine NF_mul ?_ ?_)) ⟨by omega, by omega⟩ ?_
  refine jv_aload_n h dL_law_1081 rfl ?_
  refine jv_iload_n h dL_law_1082 rfl ?_
  refine jv_iconst (nI 2) h dL_law_1083 (by decide) ?_
  first | refine jv_iaddN h dL_law_1084 (by repeat (with_reducible first | exact NF_nI _ | assumption | refine NF_add ?_ ?_ | refine NF_mul ?_ ?_)) (by repeat (with_reducible first | exact NF_nI _ | assumption | refine NF_add ?_ ?_ | refine NF_mul ?_ ?_)) ?_ | refine jv_iadd h dL_law_1084 ?_
  refine jv_sld h hx dL_law_1085 (by repeat (with_reducible first | exact NF_nI _ | assumption | refine NF_add ?_ ?_ | refine NF_mul ?_ ?_)) ⟨by omega, by omega⟩ ?_
  refine jv_aload_n h dL_law_1086 rfl ?_
  refine jv_iload_n h dL_law_1087 rfl ?_
  refine jv_iconst (nI 3) h dL_law_1088 (by decide) ?_
  first | refine jv_iaddN h dL_law_1089 (by repeat (with_reducible first | exact NF_nI _ | assumption | refine NF_add ?_ ?_ | refine NF_mul ?_ ?_)) (by repeat (with_reducible first | exact NF_nI _ | assumption | refine NF_add ?_ ?_ | refine NF_mul ?_ ?_)) ?_ | refine jv_iadd h dL_law_1089 ?_
  refine jv_sld h hx dL_law_1090 (by repeat (with_reducible first | exact NF_nI _ | assumption | refine NF_add ?_ ?_ | refine NF_mul ?_ ?_)) ⟨by omega, by omega⟩ ?_
  refine jv_VGi [_, _, _] h dL_law_1091 cw_L_128 cf_10 hC.1.1 (C_sheet hC hP _ _ _) (by decide) rfl rfl (Nat.le_of_ble_eq_true rfl) (by rw [hR]; exact ⟨Nat.le_of_ble_eq_true rfl, Nat.le_of_ble_eq_true rfl⟩) (fun v_c Mc Lc hpc => ?_)
  obtain ⟨e1, hC1, f1⟩ := hpc
  have hM1 : MInv x.1 T Mc Lc (X + 194) σ := hM.fr (fun q q1 q2 => f1 q (by omega))
  refine jv_aload_n h dL_law_1094 rfl ?_
  refine jv_aload_n h dL_law_1095 rfl ?_
  refine jv_iload_n h dL_law_1096 rfl ?_
  refine jv_iconst (nI 1) h dL_law_1097 (by decide) ?_
  first | refine jv_iaddN h dL_law_1098 (by repeat (with_reducible first | exact NF_nI _ | assumption | refine NF_add ?_ ?_ | refine NF_mul ?_ ?_)) (by repeat (with_reducible first | exact NF_nI _ | assumption | refine NF_add ?_ ?_ | refine NF_mul ?_ ?_)) ?_ | refine jv_iadd h dL_law_1098 ?_
  refine jv_sld h hx dL_law_1099 (by repeat (with_reducible first | exact NF_nI _ | assumption | refine NF_add ?_ ?_ | refine NF_mul ?_ ?_)) ⟨by omega, by omega⟩ ?_
  refine jv_aload_n h dL_law_1100 rfl ?_
  refine jv_iload_n h dL_law_1101 rfl ?_
  refine jv_iconst (nI 2) h dL_law_1102 (by decide) ?_
  first | refine jv_iaddN h dL_law_1103 (by repeat (with_reducible first | exact NF_nI _ | assumption | refine NF_add ?_ ?_ | refine NF_mul ?_ ?_)) (by repeat (with_reducible first | exact NF_nI _ | assumption | refine NF_add ?_ ?_ | refine NF_mul ?_ ?_)) ?_ | refine jv_iadd h dL_law_1103 ?_
  refine jv_sld h hx dL_law_1104 (by repeat (with_reducible first | exact NF_nI _ | assumption | refine NF_add ?_ ?_ | refine NF_mul ?_ ?_)) ⟨by omega, by omega⟩ ?_
  refine jv_aload_n h dL_law_1105 rfl ?_
  refine jv_iload_n h dL_law_1106 rfl ?_
  refine jv_iconst (nI 3) h dL_law_1107 (by decide) ?_
  first | refine jv_iaddN h dL_law_1108 (by repeat (with_reducible first | exact NF_nI _ | assumption | refine NF_add ?_ ?_ | refine NF_mul ?_ ?_)) (by repeat (with_reducible first | exact NF_nI _ | assumption | refine NF_add ?_ ?_ | refine NF_mul ?_ ?_)) ?_ | refine jv_iadd h dL_law_1108 ?_
  refine jv_sld h hx dL_law_1109 (by repeat (with_reducible first | exact NF_nI _ | assumption | refine NF_add ?_ ?_ | refine NF_mul ?_ ?_)) ⟨by omega, by omega⟩ ?_
  refine jv_VGi [_, _, _] h dL_law_1110 cw_L_131 cf_11 hM1.1.1 (M_sheet hM1 hP _ _ _) (by decide) rfl rfl (Nat.le_of_ble_eq_true rfl) (by rw [hR]; exact ⟨Nat.le_of_ble_eq_true rfl, Nat.le_of_ble_eq_true rfl⟩) (fun v_m Mm Lm hpm => ?_)
  obtain ⟨e2, hM2, f2⟩ := hpm
  have hC2 := hC1.fr (p_sheet _ _ _ hP) (fun q q1 q2 => f2 q (by omega))
  refine jv_icmp_eq 1287 h dL_law_1113 (by decide) (fun c1113 => ?_) (fun c1113 => ?_)
  · exact hk _ _ _ hC2 hM2 (p_sheet _ _ _ hP)
  · exact absurd (e1.trans e2.symm) c1113
set_option maxHeartbeats 4000000 in
set_option maxRecDepth 100000 in
theorem lc_drop {x : CX} {T : TT} {Mi : MI} {Ml : ML} {b L X i : Nat} {xs : Nat → Int32} {σ : ST} (h : Ok x RL cL_law 14) (hR : x.2.2.2.2.1 = room_1) (hx : Sc x b L xs) (hL : L ≤ 448) (hi : i + 7 ≤ L) (hC : CInv x.1 T Mi Ml X σ) (hM : MInv x.1 T Mi Ml (X + 194) σ) (hP : PInv σ)
    (hk : ∀ (M2 : MI) (L2 : ML) (σ2 : ST), CInv x.1 T M2 L2 X σ2 → MInv x.1 T M2 L2 (X + 194) σ2 → PInv σ2 → V x 206 2625 T M2 L2 1287 [some (.ref b), some (.ref X), some (.ref (X + 194)), some (.int (nI i))] []) : V x 206 2625 T Mi Ml 1118 [some (.ref b), some (.ref X), some (.ref (X + 194)), some (.int (nI i))] [] := by
  refine jv_aload_n h dL_law_1118 rfl ?_
  refine jv_aload_n h dL_law_1119 rfl ?_
  refine jv_iload_n h dL_law_1120 rfl ?_
  refine jv_iconst (nI 1) h dL_law_1121 (by decide) ?_
  first | refine jv_iaddN h dL_law_1122 (by repeat (with_reducible first | exact NF_nI _ | assumption | refine NF_add ?_ ?_ | refine NF_mul ?_ ?_)) (by repeat (with_reducible first | exact NF_nI _ | assumption | refine NF_add ?_ ?_ | refine NF_mul ?_ ?_)) ?_ | refine jv_iadd h dL_law_1122 ?_
  refine jv_sld h hx dL_law_1123 (by repeat (with_reducible first | exact NF_nI _ | assumption | refine NF_add ?_ ?_ | refine NF_mul ?_ ?_)) ⟨by omega, by omega⟩ ?_
  refine jv_VGi [_] h dL_law_1124 cw_L_132 cf_10 hC.1.1 (C_drop hC hP _) (by decide) rfl rfl (Nat.le_of_ble_eq_true rfl) (by rw [hR]; exact ⟨Nat.le_of_ble_eq_true rfl, Nat.le_of_ble_eq_true rfl⟩) (fun v_c Mc Lc hpc => ?_)
  obtain ⟨e1, hC1, f1⟩ := hpc
  have hM1 : MInv x.1 T Mc Lc (X + 194) σ := hM.fr (fun q q1 q2 => f1 q (by omega))
  refine jv_aload_n h dL_law_1127 rfl ?_
  refine jv_aload_n h dL_law_1128 rfl ?_
  refine jv_iload_n h dL_law_1129 rfl ?_
  refine jv_iconst (nI 1) h dL_law_1130 (by decide) ?_
  first | refine jv_iaddN h dL_law_1131 (by repeat (with_reducible first | exact NF_nI _ | assumption | refine NF_add ?_ ?_ | refine NF_mul ?_ ?_)) (by repeat (with_reducible first | exact NF_nI _ | assumption | refine NF_add ?_ ?_ | refine NF_mul ?_ ?_)) ?_ | refine jv_iadd h dL_law_1131 ?_
  refine jv_sld h hx dL_law_1132 (by repeat (with_reducible first | exact NF_nI _ | assumption | refine NF_add ?_ ?_ | refine NF_mul ?_ ?_)) ⟨by omega, by omega⟩ ?_
  refine jv_VGi [_] h dL_law_1133 cw_L_135 cf_11 hM1.1.1 (M_drop hM1 hP _) (by decide) rfl rfl (Nat.le_of_ble_eq_true rfl) (by rw [hR]; exact ⟨Nat.le_of_ble_eq_true rfl, Nat.le_of_ble_eq_true rfl⟩) (fun v_m Mm Lm hpm => ?_)
  obtain ⟨e2, hM2, f2⟩ := hpm
  have hC2 := hC1.fr (p_drop _ hP) (fun q q1 q2 => f2 q (by omega))
  refine jv_icmp_eq 1287 h dL_law_1136 (by decide) (fun c1136 => ?_) (fun c1136 => ?_)
  · exact hk _ _ _ hC2 hM2 (p_drop _ hP)
  · exact absurd (e1.trans e2.symm) c1136
set_option maxHeartbeats 4000000 in
set_option maxRecDepth 100000 in
theorem lc_item {x : CX} {T : TT} {Mi : MI} {Ml : ML} {b L X i : Nat} {xs : Nat → Int32} {σ : ST} (h : Ok x RL cL_law 14) (hR : x.2.2.2.2.1 = room_1) (hx : Sc x b L xs) (hL : L ≤ 448) (hi : i + 7 ≤ L) (hC : CInv x.1 T Mi Ml X σ) (hM : MInv x.1 T Mi Ml (X + 194) σ) (hP : PInv σ)
    (hk : ∀ (M2 : MI) (L2 : ML) (σ2 : ST), CInv x.1 T M2 L2 X σ2 → MInv x.1 T M2 L2 (X + 194) σ2 → PInv σ2 → V x 206 2625 T M2 L2 1287 [some (.ref b), some (.ref X), some (.ref (X + 194)), some (.int (nI i))] []) : V x 206 2625 T Mi Ml 1141 [some (.ref b), some (.ref X), some (.ref (X + 194)), some (.int (nI i))] [] := by
  refine jv_aload_n h dL_law_1141 rfl ?_
  refine jv_aload_n h dL_law_1142 rfl ?_
  refine jv_iload_n h dL_law_1143 rfl ?_
  refine jv_iconst (nI 1) h dL_law_1144 (by decide) ?_
  first | refine jv_iaddN h dL_law_1145 (by repeat (with_reducible first | exact NF_nI _ | assumption | refine NF_add ?_ ?_ | refine NF_mul ?_ ?_)) (by repeat (with_reducible first | exact NF_nI _ | assumption | refine NF_add ?_ ?_ | refine NF_mul ?_ ?_)) ?_ | refine jv_iadd h dL_law_1145 ?_
  refine jv_sld h hx dL_law_1146 (by repeat (with_reducible first | exact NF_nI _ | assumption | refine NF_add ?_ ?_ | refine NF_mul ?_ ?_)) ⟨by omega, by omega⟩ ?_
  refine jv_aload_n h dL_law_1147 rfl ?_
  refine jv_iload_n h dL_law_1148 rfl ?_
  refine jv_iconst (nI 2) h dL_law_1149 (by decide) ?_
  first | refine jv_iaddN h dL_law_1150 (by repeat (with_reducible first | exact NF_nI _ | assumption | refine NF_add ?_ ?_ | refine NF_mul ?_ ?_)) (by repeat (with_reducible first | exact NF_nI _ | assumption | refine NF_add ?_ ?_ | refine NF_mul ?_ ?_)) ?_ | refine jv_iadd h dL_law_1150 ?_
  refine jv_sld h hx dL_law_1151 (by repeat (with_reducible first | exact NF_nI _ | assumption | refine NF_add ?_ ?_ | refine NF_mul ?_ ?_)) ⟨by omega, by omega⟩ ?_
  refine jv_aload_n h dL_law_1152 rfl ?_
  refine jv_iload_n h dL_law_1153 rfl ?_
  refine jv_iconst (nI 3) h dL_law_1154 (by decide) ?_
  first | refine jv_iaddN h dL_law_1155 (by repeat (with_reducible first | exact NF_nI _ | assumption | refine NF_add ?_ ?_ | refine NF_mul ?_ ?_)) (by repeat (with_reducible first | exact NF_nI _ | assumption | refine NF_add ?_ ?_ | refine NF_mul ?_ ?_)) ?_ | refine jv_iadd h dL_law_1155 ?_
  refine jv_sld h hx dL_law_1156 (by repeat (with_reducible first | exact NF_nI _ | assumption | refine NF_add ?_ ?_ | refine NF_mul ?_ ?_)) ⟨by omega, by omega⟩ ?_
  refine jv_aload_n h dL_law_1157 rfl ?_
  refine jv_iload_n h dL_law_1158 rfl ?_
  refine jv_iconst (nI 4) h dL_law_1159 (by decide) ?_
  first | refine jv_iaddN h dL_law_1160 (by repeat (with_reducible first | exact NF_nI _ | assumption | refine NF_add ?_ ?_ | refine NF_mul ?_ ?_)) (by repeat (with_reducible first | exact NF_nI _ | assumption | refine NF_add ?_ ?_ | refine NF_mul ?_ ?_)) ?_ | refine jv_iadd h dL_law_1160 ?_
  refine jv_sld h hx dL_law_1161 (by repeat (with_reducible first | exact NF_nI _ | assumption | refine NF_add ?_ ?_ | refine NF_mul ?_ ?_)) ⟨by omega, by omega⟩ ?_
  refine jv_i2l h dL_law_1162 ?_
  refine jv_bipush (nI 32) h dL_law_1163 (by decide) ?_
  refine jv_lshl h dL_law_1165 ?_
  refine jv_aload_n h dL_law_1166 rfl ?_
  refine jv_iload_n h dL_law_1167 rfl ?_
  refine jv_iconst (nI 5) h dL_law_1168 (by decide) ?_
  first | refine jv_iaddN h dL_law_1169 (by repeat (with_reducible first | exact NF_nI _ | assumption | refine NF_add ?_ ?_ | refine NF_mul ?_ ?_)) (by repeat (with_reducible first | exact NF_nI _ | assumption | refine NF_add ?_ ?_ | refine NF_mul ?_ ?_)) ?_ | refine jv_iadd h dL_law_1169 ?_
  refine jv_sld h hx dL_law_1170 (by repeat (with_reducible first | exact NF_nI _ | assumption | refine NF_add ?_ ?_ | refine NF_mul ?_ ?_)) ⟨by omega, by omega⟩ ?_
  refine jv_i2l h dL_law_1171 ?_
  refine jv_ldc2 h dL_law_1172 gw_1233 ?_
  refine jv_land h dL_law_1175 ?_
  refine jv_lor h dL_law_1176 ?_
  refine jv_VGi [_, _, _, _] h dL_law_1177 cw_L_138 cf_10 hC.1.1 (C_item hC hP _ _ _ _) (by decide) rfl rfl (Nat.le_of_ble_eq_true rfl) (by rw [hR]; exact ⟨Nat.le_of_ble_eq_true rfl, Nat.le_of_ble_eq_true rfl⟩) (fun v_c Mc Lc hpc => ?_)
  obtain ⟨e1, hC1, f1⟩ := hpc
  have hM1 : MInv x.1 T Mc Lc (X + 194) σ := hM.fr (fun q q1 q2 => f1 q (by omega))
  refine jv_aload_n h dL_law_1180 rfl ?_
  refine jv_aload_n h dL_law_1181 rfl ?_
  refine jv_iload_n h dL_law_1182 rfl ?_
  refine jv_iconst (nI 1) h dL_law_1183 (by decide) ?_
  first | refine jv_iaddN h dL_law_1184 (by repeat (with_reducible first | exact NF_nI _ | assumption | refine NF_add ?_ ?_ | refine NF_mul ?_ ?_)) (by repeat (with_reducible first | exact NF_nI _ | assumption | refine NF_add ?_ ?_ | refine NF_mul ?_ ?_)) ?_ | refine jv_iadd h dL_law_1184 ?_
  refine jv_sld h hx dL_law_1185 (by repeat (with_reducible first | exact NF_nI _ | assumption | refine NF_add ?_ ?_ | refine NF_mul ?_ ?_)) ⟨by omega, by omega⟩ ?_
  refine jv_aload_n h dL_law_1186 rfl ?_
  refine jv_iload_n h dL_law_1187 rfl ?_
  refine jv_iconst (nI 2) h dL_law_1188 (by decide) ?_
  first | refine jv_iaddN h dL_law_1189 (by repeat (with_reducible first | exact NF_nI _ | assumption | refine NF_add ?_ ?_ | refine NF_mul ?_ ?_)) (by repeat (with_reducible first | exact NF_nI _ | assumption | refine NF_add ?_ ?_ | refine NF_mul ?_ ?_)) ?_ | refine jv_iadd h dL_law_1189 ?_
  refine jv_sld h hx dL_law_1190 (by repeat (with_reducible first | exact NF_nI _ | assumption | refine NF_add ?_ ?_ | refine NF_mul ?_ ?_)) ⟨by omega, by omega⟩ ?_
  refine jv_aload_n h dL_law_1191 rfl ?_
  refine jv_iload_n h dL_law_1192 rfl ?_
  refine jv_iconst (nI 3) h dL_law_1193 (by decide) ?_
  first | refine jv_iaddN h dL_law_1194 (by repeat (with_reducible first | exact NF_nI _ | assumption | refine NF_add ?_ ?_ | refine NF_mul ?_ ?_)) (by repeat (with_reducible first | exact NF_nI _ | assumption | refine NF_add ?_ ?_ | refine NF_mul ?_ ?_)) ?_ | refine jv_iadd h dL_law_1194 ?_
  refine jv_sld h hx dL_law_1195 (by repeat (with_reducible first | exact NF_nI _ | assumption | refine NF_add ?_ ?_ | refine NF_mul ?_ ?_)) ⟨by omega, by omega⟩ ?_
  refine jv_aload_n h dL_law_1196 rfl ?_
  refine jv_iload_n h dL_law_1197 rfl ?_
  refine jv_iconst (nI 4) h dL_law_1198 (by decide) ?_
  first | refine jv_iaddN h dL_law_1199 (by repeat (with_reducible first | exact NF_nI _ | assumption | refine NF_add ?_ ?_ | refine NF_mul ?_ ?_)) (by repeat (with_reducible first | exact NF_nI _ | assumption | refine NF_add ?_ ?_ | refine NF_mul ?_ ?_)) ?_ | refine jv_iadd h dL_law_1199 ?_
  refine jv_sld h hx dL_law_1200 (by repeat (with_reducible first | exact NF_nI _ | assumption | refine NF_add ?_ ?_ | refine NF_mul ?_ ?_)) ⟨by omega, by omega⟩ ?_
  refine jv_i2l h dL_law_1201 ?_
  refine jv_bipush (nI 32) h dL_law_1202 (by decide) ?_
  refine jv_lshl h dL_law_1204 ?_
  refine jv_aload_n h dL_law_1205 rfl ?_
  refine jv_iload_n h dL_law_1206 rfl ?_
  refine jv_iconst (nI 5) h dL_law_1207 (by decide) ?_
  first | refine jv_iaddN h dL_law_1208 (by repeat (with_reducible first | exact NF_nI _ | assumption | refine NF_add ?_ ?_ | refine NF_mul ?_ ?_)) (by repeat (with_reducible first | exact NF_nI _ | assumption | refine NF_add ?_ ?_ | refine NF_mul ?_ ?_)) ?_ | refine jv_iadd h dL_law_1208 ?_
  refine jv_sld h hx dL_law_1209 (by repeat (with_reducible first | exact NF_nI _ | assumption | refine NF_add ?_ ?_ | refine NF_mul ?_ ?_)) ⟨by omega, by omega⟩ ?_
  refine jv_i2l h dL_law_1210 ?_
  refine jv_ldc2 h dL_law_1211 gw_1233 ?_
  refine jv_land h dL_law_1214 ?_
  refine jv_lor h dL_law_1215 ?_
  refine jv_VGi [_, _, _, _] h dL_law_1216 cw_L_142 cf_11 hM1.1.1 (M_item hM1 hP _ _ _ _) (by decide) rfl rfl (Nat.le_of_ble_eq_true rfl) (by rw [hR]; exact ⟨Nat.le_of_ble_eq_true rfl, Nat.le_of_ble_eq_true rfl⟩) (fun v_m Mm Lm hpm => ?_)
  obtain ⟨e2, hM2, f2⟩ := hpm
  have hC2 := hC1.fr (p_item _ _ _ _ hP) (fun q q1 q2 => f2 q (by omega))
  refine jv_icmp_eq 1287 h dL_law_1219 (by decide) (fun c1219 => ?_) (fun c1219 => ?_)
  · exact hk _ _ _ hC2 hM2 (p_item _ _ _ _ hP)
  · exact absurd (e1.trans e2.symm) c1219
set_option maxHeartbeats 4000000 in
set_option maxRecDepth 100000 in
theorem lc_copy {x : CX} {T : TT} {Mi : MI} {Ml : ML} {b L X i : Nat} {xs : Nat → Int32} {σ : ST} (h : Ok x RL cL_law 14) (hR : x.2.2.2.2.1 = room_1) (hx : Sc x b L xs) (hL : L ≤ 448) (hi : i + 7 ≤ L) (hC : CInv x.1 T Mi Ml X σ) (hM : MInv x.1 T Mi Ml (X + 194) σ) (hP : PInv σ)
    (hk : ∀ (M2 : MI) (L2 : ML) (σ2 : ST), CInv x.1 T M2 L2 X σ2 → MInv x.1 T M2 L2 (X + 194) σ2 → PInv σ2 → V x 206 2625 T M2 L2 1287 [some (.ref b), some (.ref X), some (.ref (X + 194)), some (.int (nI i))] []) : V x 206 2625 T Mi Ml 1224 [some (.ref b), some (.ref X), some (.ref (X + 194)), some (.int (nI i))] [] := by
  refine jv_aload_n h dL_law_1224 rfl ?_
  refine jv_aload_n h dL_law_1225 rfl ?_
  refine jv_iload_n h dL_law_1226 rfl ?_
  refine jv_iconst (nI 1) h dL_law_1227 (by decide) ?_
  first | refine jv_iaddN h dL_law_1228 (by repeat (with_reducible first | exact NF_nI _ | assumption | refine NF_add ?_ ?_ | refine NF_mul ?_ ?_)) (by repeat (with_reducible first | exact NF_nI _ | assumption | refine NF_add ?_ ?_ | refine NF_mul ?_ ?_)) ?_ | refine jv_iadd h dL_law_1228 ?_
  refine jv_sld h hx dL_law_1229 (by repeat (with_reducible first | exact NF_nI _ | assumption | refine NF_add ?_ ?_ | refine NF_mul ?_ ?_)) ⟨by omega, by omega⟩ ?_
  refine jv_aload_n h dL_law_1230 rfl ?_
  refine jv_iload_n h dL_law_1231 rfl ?_
  refine jv_iconst (nI 2) h dL_law_1232 (by decide) ?_
  first | refine jv_iaddN h dL_law_1233 (by repeat (with_reducible first | exact NF_nI _ | assumption | refine NF_add ?_ ?_ | refine NF_mul ?_ ?_)) (by repeat (with_reducible first | exact NF_nI _ | assumption | refine NF_add ?_ ?_ | refine NF_mul ?_ ?_)) ?_ | refine jv_iadd h dL_law_1233 ?_
  refine jv_sld h hx dL_law_1234 (by repeat (with_reducible first | exact NF_nI _ | assumption | refine NF_add ?_ ?_ | refine NF_mul ?_ ?_)) ⟨by omega, by omega⟩ ?_
  refine jv_aload_n h dL_law_1235 rfl ?_
  refine jv_iload_n h dL_law_1236 rfl ?_
  refine jv_iconst (nI 3) h dL_law_1237 (by decide) ?_
  first | refine jv_iaddN h dL_law_1238 (by repeat (with_reducible first | exact NF_nI _ | assumption | refine NF_add ?_ ?_ | refine NF_mul ?_ ?_)) (by repeat (with_reducible first | exact NF_nI _ | assumption | refine NF_add ?_ ?_ | refine NF_mul ?_ ?_)) ?_ | refine jv_iadd h dL_law_1238 ?_
  refine jv_sld h hx dL_law_1239 (by repeat (with_reducible first | exact NF_nI _ | assumption | refine NF_add ?_ ?_ | refine NF_mul ?_ ?_)) ⟨by omega, by omega⟩ ?_
  refine jv_aload_n h dL_law_1240 rfl ?_
  refine jv_iload_n h dL_law_1241 rfl ?_
  refine jv_iconst (nI 4) h dL_law_1242 (by decide) ?_
  first | refine jv_iaddN h dL_law_1243 (by repeat (with_reducible first | exact NF_nI _ | assumption | refine NF_add ?_ ?_ | refine NF_mul ?_ ?_)) (by repeat (with_reducible first | exact NF_nI _ | assumption | refine NF_add ?_ ?_ | refine NF_mul ?_ ?_)) ?_ | refine jv_iadd h dL_law_1243 ?_
  refine jv_sld h hx dL_law_1244 (by repeat (with_reducible first | exact NF_nI _ | assumption | refine NF_add ?_ ?_ | refine NF_mul ?_ ?_)) ⟨by omega, by omega⟩ ?_
  refine jv_aload_n h dL_law_1245 rfl ?_
  refine jv_iload_n h dL_law_1246 rfl ?_
  refine jv_iconst (nI 5) h dL_law_1247 (by decide) ?_
  first | refine jv_iaddN h dL_law_1248 (by repeat (with_reducible first | exact NF_nI _ | assumption | refine NF_add ?_ ?_ | refine NF_mul ?_ ?_)) (by repeat (with_reducible first | exact NF_nI _ | assumption | refine NF_add ?_ ?_ | refine NF_mul ?_ ?_)) ?_ | refine jv_iadd h dL_law_1248 ?_
  refine jv_sld h hx dL_law_1249 (by repeat (with_reducible first | exact NF_nI _ | assumption | refine NF_add ?_ ?_ | refine NF_mul ?_ ?_)) ⟨by omega, by omega⟩ ?_
  refine jv_VGi [_, _, _, _, _] h dL_law_1250 cw_L_143 cf_10 hC.1.1 (C_copy hC hP _ _ _ _ _) (by decide) rfl rfl (Nat.le_of_ble_eq_true rfl) (by rw [hR]; exact ⟨Nat.le_of_ble_eq_true rfl, Nat.le_of_ble_eq_true rfl⟩) (fun v_c Mc Lc hpc => ?_)
  obtain ⟨e1, hC1, f1⟩ := hpc
  have hM1 : MInv x.1 T Mc Lc (X + 194) σ := hM.fr (fun q q1 q2 => f1 q (by omega))
  refine jv_aload_n h dL_law_1253 rfl ?_
  refine jv_aload_n h dL_law_1254 rfl ?_
  refine jv_iload_n h dL_law_1255 rfl ?_
  refine jv_iconst (nI 1) h dL_law_1256 (by decide) ?_
  first | refine jv_iaddN h dL_law_1257 (by repeat (with_reducible first | exact NF_nI _ | assumption | refine NF_add ?_ ?_ | refine NF_mul ?_ ?_)) (by repeat (with_reducible first | exact NF_nI _ | assumption | refine NF_add ?_ ?_ | refine NF_mul ?_ ?_)) ?_ | refine jv_iadd h dL_law_1257 ?_
  refine jv_sld h hx dL_law_1258 (by repeat (with_reducible first | exact NF_nI _ | assumption | refine NF_add ?_ ?_ | refine NF_mul ?_ ?_)) ⟨by omega, by omega⟩ ?_
  refine jv_aload_n h dL_law_1259 rfl ?_
  refine jv_iload_n h dL_law_1260 rfl ?_
  refine jv_iconst (nI 2) h dL_law_1261 (by decide) ?_
  first | refine jv_iaddN h dL_law_1262 (by repeat (with_reducible first | exact NF_nI _ | assumption | refine NF_add ?_ ?_ | refine NF_mul ?_ ?_)) (by repeat (with_reducible first | exact NF_nI _ | assumption | refine NF_add ?_ ?_ | refine NF_mul ?_ ?_)) ?_ | refine jv_iadd h dL_law_1262 ?_
  refine jv_sld h hx dL_law_1263 (by repeat (with_reducible first | exact NF_nI _ | assumption | refine NF_add ?_ ?_ | refine NF_mul ?_ ?_)) ⟨by omega, by omega⟩ ?_
  refine jv_aload_n h dL_law_1264 rfl ?_
  refine jv_iload_n h dL_law_1265 rfl ?_
  refine jv_iconst (nI 3) h dL_law_1266 (by decide) ?_
  first | refine jv_iaddN h dL_law_1267 (by repeat (with_reducible first | exact NF_nI _ | assumption | refine NF_add ?_ ?_ | refine NF_mul ?_ ?_)) (by repeat (with_reducible first | exact NF_nI _ | assumption | refine NF_add ?_ ?_ | refine NF_mul ?_ ?_)) ?_ | refine jv_iadd h dL_law_1267 ?_
  refine jv_sld h hx dL_law_1268 (by repeat (with_reducible first | exact NF_nI _ | assumption | refine NF_add ?_ ?_ | refine NF_mul ?_ ?_)) ⟨by omega, by omega⟩ ?_
  refine jv_aload_n h dL_law_1269 rfl ?_
  refine jv_iload_n h dL_law_1270 rfl ?_
  refine jv_iconst (nI 4) h dL_law_1271 (by decide) ?_
  first | refine jv_iaddN h dL_law_1272 (by repeat (with_reducible first | exact NF_nI _ | assumption | refine NF_add ?_ ?_ | refine NF_mul ?_ ?_)) (by repeat (with_reducible first | exact NF_nI _ | assumption | refine NF_add ?_ ?_ | refine NF_mul ?_ ?_)) ?_ | refine jv_iadd h dL_law_1272 ?_
  refine jv_sld h hx dL_law_1273 (by repeat (with_reducible first | exact NF_nI _ | assumption | refine NF_add ?_ ?_ | refine NF_mul ?_ ?_)) ⟨by omega, by omega⟩ ?_
  refine jv_aload_n h dL_law_1274 rfl ?_
  refine jv_iload_n h dL_law_1275 rfl ?_
  refine jv_iconst (nI 5) h dL_law_1276 (by decide) ?_
  first | refine jv_iaddN h dL_law_1277 (by repeat (with_reducible first | exact NF_nI _ | assumption | refine NF_add ?_ ?_ | refine NF_mul ?_ ?_)) (by repeat (with_reducible first | exact NF_nI _ | assumption | refine NF_add ?_ ?_ | refine NF_mul ?_ ?_)) ?_ | refine jv_iadd h dL_law_1277 ?_
  refine jv_sld h hx dL_law_1278 (by repeat (with_reducible first | exact NF_nI _ | assumption | refine NF_add ?_ ?_ | refine NF_mul ?_ ?_)) ⟨by omega, by omega⟩ ?_
  refine jv_VGi [_, _, _, _, _] h dL_law_1279 cw_L_146 cf_11 hM1.1.1 (M_copy hM1 hP _ _ _ _ _) (by decide) rfl rfl (Nat.le_of_ble_eq_true rfl) (by rw [hR]; exact ⟨Nat.le_of_ble_eq_true rfl, Nat.le_of_ble_eq_true rfl⟩) (fun v_m Mm Lm hpm => ?_)
  obtain ⟨e2, hM2, f2⟩ := hpm
  have hC2 := hC1.fr (p_copy _ _ _ _ _ hP) (fun q q1 q2 => f2 q (by omega))
  refine jv_icmp_eq 1287 h dL_law_1282 (by decide) (fun c1282 => ?_) (fun c1282 => ?_)
  · exact hk _ _ _ hC2 hM2 (p_copy _ _ _ _ _ hP)
  · exact absurd (e1.trans e2.symm) c1282
