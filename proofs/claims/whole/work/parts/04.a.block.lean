set_option maxHeartbeats 4000000 in
set_option maxRecDepth 100000 in
theorem c_min {g : GT} {T : TT} {Mi : MI} {Ml : ML} {u v : Int32} {m n : Nat} (hu : NF u m) (hv : NF v n) (hm : m < 2 ^ 31) (hn : n < 2 ^ 31) : Ct g yJ9_min_7cf53 cJ9_min_7cf53 2 (some .int) 1 0 0 [.int u, .int v] T Mi Ml (Ri T Mi Ml (nI (min m n))) := by
  refine Ct.of' (by decide +kernel) (by exact Nat.le_of_ble_eq_true rfl) ?_
  intro x hg hR h hr hnm hnl
  subst hg
  refine jv_iload_n h dJ9_min_7cf53_0 rfl ?_
  refine jv_iload_n h dJ9_min_7cf53_1 rfl ?_
  refine jv_ngt 9 h dJ9_min_7cf53_2 (by decide) (by repeat (with_reducible first | exact NF_nI _ | assumption | refine NF_add ?_ ?_ | refine NF_mul ?_ ?_)) (by repeat (with_reducible first | exact NF_nI _ | assumption | refine NF_add ?_ ?_ | refine NF_mul ?_ ?_)) ⟨by omega, by omega⟩ (fun c2 => ?_) (fun c2 => ?_)
  · refine jv_iload_n h dJ9_min_7cf53_9 rfl ?_
    exact jv_iret h hr dJ9_min_7cf53_10 ⟨by rw [hu, hv] at *; congr 3; omega, rfl, rfl, rfl⟩
  · refine jv_iload_n h dJ9_min_7cf53_5 rfl ?_
    refine jv_goto 10 h dJ9_min_7cf53_6 (by decide) ?_
    exact jv_iret h hr dJ9_min_7cf53_10 ⟨by rw [hu, hv] at *; congr 3; omega, rfl, rfl, rfl⟩
set_option maxHeartbeats 4000000 in
set_option maxRecDepth 100000 in
theorem c_cars {g : GT} {T : TT} {Mi : MI} {Ml : ML} {A : Nat} {hh : Nat} (hB : KD g T A 1) (hv : Mi A 0 = nI hh) : Ct g yX1_cars cX1_cars 1 (some .int) 1 0 0 [.ref A] T Mi Ml (Ri T Mi Ml (nI (2 * hh))) := by
  refine Ct.of' (plainFor_of_name (by decide +kernel)) (by exact Nat.le_of_ble_eq_true rfl) ?_
  intro x hg hR h hr hnm hnl
  subst hg
  refine jv_iconst (nI 2) h dX1_cars_0 (by decide) ?_
  refine jv_aload_n h dX1_cars_1 rfl ?_
  refine jv_gv 0 h dX1_cars_2 cf_1 (by decide) gw_43 (by assumption) (by assumption) ?_
  first | refine jv_imulN h dX1_cars_5 (by repeat (with_reducible first | exact NF_nI _ | assumption | refine NF_add ?_ ?_ | refine NF_mul ?_ ?_)) (by repeat (with_reducible first | exact NF_nI _ | assumption | refine NF_add ?_ ?_ | refine NF_mul ?_ ?_)) ?_ | refine jv_imul h dX1_cars_5 ?_
  exact jv_iret h hr dX1_cars_6 ⟨rfl, rfl, rfl, rfl⟩
set_option maxHeartbeats 4000000 in
set_option maxRecDepth 100000 in
theorem c_sideAt {g : GT} {T : TT} {Mi : MI} {Ml : ML} {A : Nat} {u : Int32} {hh p : Nat} (hB : KD g T A 1) (hv : Mi A 0 = nI hh) (hu : NF u p) (hb : hh < 100 ∧ p < 100) : Ct g yX1_sideAt cX1_sideAt 2 (some .int) 1 0 0 [.ref A, .int u] T Mi Ml (Ri T Mi Ml (nI (sdN hh p))) := by
  refine Ct.of' (plainFor_of_name (by decide +kernel)) (by exact Nat.le_of_ble_eq_true rfl) ?_
  intro x hg hR h hr hnm hnl
  subst hg
  refine jv_iload_n h dX1_sideAt_0 rfl ?_
  refine jv_aload_n h dX1_sideAt_1 rfl ?_
  refine jv_gv 0 h dX1_sideAt_2 cf_1 (by decide) gw_43 (by assumption) (by assumption) ?_
  refine jv_nge 12 h dX1_sideAt_5 (by decide) (by repeat (with_reducible first | exact NF_nI _ | assumption | refine NF_add ?_ ?_ | refine NF_mul ?_ ?_)) (by repeat (with_reducible first | exact NF_nI _ | assumption | refine NF_add ?_ ?_ | refine NF_mul ?_ ?_)) ⟨by omega, by omega⟩ (fun c5 => ?_) (fun c5 => ?_)
  · refine jv_iconst (nI 1) h dX1_sideAt_12 (by decide) ?_
    exact jv_iret h hr dX1_sideAt_13 ⟨by unfold sdN; first | rw [if_pos (by omega)] | rw [if_neg (by omega)], rfl, rfl, rfl⟩
  · refine jv_iconst (nI 0) h dX1_sideAt_8 (by decide) ?_
    refine jv_goto 13 h dX1_sideAt_9 (by decide) ?_
    exact jv_iret h hr dX1_sideAt_13 ⟨by unfold sdN; first | rw [if_pos (by omega)] | rw [if_neg (by omega)], rfl, rfl, rfl⟩
set_option maxHeartbeats 4000000 in
set_option maxRecDepth 100000 in
theorem c_floorAt {g : GT} {T : TT} {Mi : MI} {Ml : ML} {A : Nat} {u : Int32} {hh p : Nat} (hB : KD g T A 1) (hv : Mi A 0 = nI hh) (hu : NF u p) (hb : hh < 100 ∧ p < 2 * hh) : Ct g yX1_floorAt cX1_floorAt 2 (some .int) 2 0 0 [.ref A, .int u] T Mi Ml (Ri T Mi Ml (nI (flN hh p))) := by
  refine Ct.of' (plainFor_of_name (by decide +kernel)) (by exact Nat.le_of_ble_eq_true rfl) ?_
  intro x hg hR h hr hnm hnl
  subst hg
  refine jv_iload_n h dX1_floorAt_0 rfl ?_
  refine jv_aload_n h dX1_floorAt_1 rfl ?_
  refine jv_gv 0 h dX1_floorAt_2 cf_1 (by decide) gw_43 (by assumption) (by assumption) ?_
  refine jv_nge 12 h dX1_floorAt_5 (by decide) (by repeat (with_reducible first | exact NF_nI _ | assumption | refine NF_add ?_ ?_ | refine NF_mul ?_ ?_)) (by repeat (with_reducible first | exact NF_nI _ | assumption | refine NF_add ?_ ?_ | refine NF_mul ?_ ?_)) ⟨by omega, by omega⟩ (fun c5 => ?_) (fun c5 => ?_)
  · refine jv_aload_n h dX1_floorAt_12 rfl ?_
    refine jv_VRi [] h dX1_floorAt_13 cw_X1_35 cf_1 (by assumption) (c_cars (by assumption) (by assumption)) (by decide) rfl rfl (Nat.le_of_ble_eq_true rfl) ⟨Nat.zero_le _, Nat.zero_le _⟩ ?_
    refine jv_iconst (nI 1) h dX1_floorAt_16 (by decide) ?_
    first | refine jv_isubN h dX1_floorAt_17 (by repeat (with_reducible first | exact NF_nI _ | assumption | refine NF_add ?_ ?_ | refine NF_mul ?_ ?_)) (by repeat (with_reducible first | exact NF_nI _ | assumption | refine NF_add ?_ ?_ | refine NF_mul ?_ ?_)) (by omega) ?_ | refine jv_isub h dX1_floorAt_17 ?_
    refine jv_iload_n h dX1_floorAt_18 rfl ?_
    first | refine jv_isubN h dX1_floorAt_19 (by repeat (with_reducible first | exact NF_nI _ | assumption | refine NF_add ?_ ?_ | refine NF_mul ?_ ?_)) (by repeat (with_reducible first | exact NF_nI _ | assumption | refine NF_add ?_ ?_ | refine NF_mul ?_ ?_)) (by omega) ?_ | refine jv_isub h dX1_floorAt_19 ?_
    exact jv_iret h hr dX1_floorAt_20 ⟨by unfold flN; first | (rw [if_pos (by omega)]; first | rfl | rw [hu]) | rw [if_neg (by omega)], rfl, rfl, rfl⟩
  · refine jv_iload_n h dX1_floorAt_8 rfl ?_
    refine jv_goto 20 h dX1_floorAt_9 (by decide) ?_
    exact jv_iret h hr dX1_floorAt_20 ⟨by unfold flN; first | (rw [if_pos (by omega)]; first | rfl | rw [hu]) | rw [if_neg (by omega)], rfl, rfl, rfl⟩
set_option maxHeartbeats 4000000 in
set_option maxRecDepth 100000 in
theorem c_placeBy {g : GT} {T : TT} {Mi : MI} {Ml : ML} {A : Nat} {u v : Int32} {hh f s : Nat} (hB : KD g T A 1) (hv : Mi A 0 = nI hh) (hu : NF u f) (hs : NF v s) (hb : hh < 100 ∧ f < hh ∧ s < 2) : Ct g yX1_placeBy cX1_placeBy 3 (some .int) 2 0 0 [.ref A, .int u, .int v] T Mi Ml (Ri T Mi Ml (nI (pbN hh f s))) := by
  refine Ct.of' (plainFor_of_name (by decide +kernel)) (by exact Nat.le_of_ble_eq_true rfl) ?_
  intro x hg hR h hr hnm hnl
  subst hg
  refine jv_iload_n h dX1_placeBy_0 rfl ?_
  refine jv_zne 8 h dX1_placeBy_1 (by decide) (by repeat (with_reducible first | exact NF_nI _ | assumption | refine NF_add ?_ ?_ | refine NF_mul ?_ ?_)) (by omega) (fun c1 => ?_) (fun c1 => ?_)
  · refine jv_aload_n h dX1_placeBy_8 rfl ?_
    refine jv_VRi [] h dX1_placeBy_9 cw_X1_35 cf_1 (by assumption) (c_cars (by assumption) (by assumption)) (by decide) rfl rfl (Nat.le_of_ble_eq_true rfl) ⟨Nat.zero_le _, Nat.zero_le _⟩ ?_
    refine jv_iconst (nI 1) h dX1_placeBy_12 (by decide) ?_
    first | refine jv_isubN h dX1_placeBy_13 (by repeat (with_reducible first | exact NF_nI _ | assumption | refine NF_add ?_ ?_ | refine NF_mul ?_ ?_)) (by repeat (with_reducible first | exact NF_nI _ | assumption | refine NF_add ?_ ?_ | refine NF_mul ?_ ?_)) (by omega) ?_ | refine jv_isub h dX1_placeBy_13 ?_
    refine jv_iload_n h dX1_placeBy_14 rfl ?_
    first | refine jv_isubN h dX1_placeBy_15 (by repeat (with_reducible first | exact NF_nI _ | assumption | refine NF_add ?_ ?_ | refine NF_mul ?_ ?_)) (by repeat (with_reducible first | exact NF_nI _ | assumption | refine NF_add ?_ ?_ | refine NF_mul ?_ ?_)) (by omega) ?_ | refine jv_isub h dX1_placeBy_15 ?_
    exact jv_iret h hr dX1_placeBy_16 ⟨by unfold pbN; first | (rw [if_pos (by omega)]; first | rfl | rw [hu]) | rw [if_neg (by omega)], rfl, rfl, rfl⟩
  · refine jv_iload_n h dX1_placeBy_4 rfl ?_
    refine jv_goto 16 h dX1_placeBy_5 (by decide) ?_
    exact jv_iret h hr dX1_placeBy_16 ⟨by unfold pbN; first | (rw [if_pos (by omega)]; first | rfl | rw [hu]) | rw [if_neg (by omega)], rfl, rfl, rfl⟩
set_option maxHeartbeats 4000000 in
set_option maxRecDepth 100000 in
theorem c_floorMod {g : GT} {T : TT} {Mi : MI} {Ml : ML} {u v : Int32} {X : Int} {n : Nat} (hu : u.toInt = X) (hv : NF v n) (hX : -2147483648 < X) (hn : 0 < n ∧ n < 2 ^ 31) : Ct g yJ9_floorMod_7cf53 cJ9_floorMod_7cf53 3 (some .int) 1 0 0 [.int u, .int v] T Mi Ml (Ri T Mi Ml (nI (X % (n : Int)).toNat)) := by
  refine Ct.of' (by decide +kernel) (by exact Nat.le_of_ble_eq_true rfl) ?_
  intro x hg hR h hr hnm hnl
  subst hg
  refine jv_iload_n h dJ9_floorMod_7cf53_0 rfl ?_
  refine jv_iload_n h dJ9_floorMod_7cf53_1 rfl ?_
  refine jv_irem h dJ9_floorMod_7cf53_2 (by rw [hv]; exact nI_ne0 hn.1 hn.2) ?_
  refine jv_istore_n h dJ9_floorMod_7cf53_3 (lt_nl hnl (by decide)) ?_
  refine jv_iload_n h dJ9_floorMod_7cf53_4 rfl ?_
  refine jv_iload_n h dJ9_floorMod_7cf53_5 rfl ?_
  refine jv_ixor h dJ9_floorMod_7cf53_6 ?_
  refine jv_if_ge 18 h dJ9_floorMod_7cf53_7 (by decide) (fun c7 => ?_) (fun c7 => ?_)
  · refine jv_iload_n h dJ9_floorMod_7cf53_18 rfl ?_
    exact jv_iret h hr dJ9_floorMod_7cf53_19 ⟨by rw [fm_b hu hv hX hn (by first | exact Or.inl c7 | exact Or.inr c11)], rfl, rfl, rfl⟩
  · refine jv_iload_n h dJ9_floorMod_7cf53_10 rfl ?_
    refine jv_if_eq 18 h dJ9_floorMod_7cf53_11 (by decide) (fun c11 => ?_) (fun c11 => ?_)
    · refine jv_iload_n h dJ9_floorMod_7cf53_18 rfl ?_
      exact jv_iret h hr dJ9_floorMod_7cf53_19 ⟨by rw [fm_b hu hv hX hn (by first | exact Or.inl c7 | exact Or.inr c11)], rfl, rfl, rfl⟩
    · refine jv_iload_n h dJ9_floorMod_7cf53_14 rfl ?_
      refine jv_iload_n h dJ9_floorMod_7cf53_15 rfl ?_
      refine jv_iadd h dJ9_floorMod_7cf53_16 ?_
      exact jv_iret h hr dJ9_floorMod_7cf53_17 ⟨by rw [fm_a hu hv hX hn c7 c11], rfl, rfl, rfl⟩
set_option maxHeartbeats 4000000 in
set_option maxRecDepth 100000 in
theorem c_leftOver {g : GT} {T : TT} {Mi : MI} {Ml : ML} {u v : Int32} {X : Int} {n : Nat} (hu : u.toInt = X) (hv : NF v n) (hX : -2147483648 < X) (hn : 0 < n ∧ n < 2 ^ 31) : Ct g yX11_leftOver cX11_leftOver 2 (some .int) 2 0 0 [.int u, .int v] T Mi Ml (Ri T Mi Ml (nI (X % (n : Int)).toNat)) := by
  refine Ct.of' (plainFor_of_name (by decide +kernel)) (by exact Nat.le_of_ble_eq_true rfl) ?_
  intro x hg hR h hr hnm hnl
  subst hg
  refine jv_iload_n h dX11_leftOver_0 rfl ?_
  refine jv_if_le 12 h dX11_leftOver_1 (by decide) (fun c1 => ?_) (fun c1 => ?_)
  · exact absurd c1 (by rw [hv]; exact nI_nle hn.1 hn.2)
  · refine jv_iload_n h dX11_leftOver_4 rfl ?_
    refine jv_iload_n h dX11_leftOver_5 rfl ?_
    refine jv_SRi [_, _] h dX11_leftOver_6 cw_X11_345 (c_floorMod (by assumption) (by repeat (with_reducible first | exact NF_nI _ | assumption | refine NF_add ?_ ?_ | refine NF_mul ?_ ?_)) (by omega) (by omega)) (by decide) rfl rfl (Nat.le_of_ble_eq_true rfl) ⟨Nat.zero_le _, Nat.zero_le _⟩ ?_
    refine jv_goto 13 h dX11_leftOver_9 (by decide) ?_
    exact jv_iret h hr dX11_leftOver_13 ⟨rfl, rfl, rfl, rfl⟩
set_option maxHeartbeats 4000000 in
set_option maxRecDepth 100000 in
theorem c_placeOf {g : GT} {T : TT} {Mi : MI} {Ml : ML} {A : Nat} {u v : Int32} {hh c s : Nat} (hB : KD g T A 1) (hv : Mi A 0 = nI hh) (hu : NF u c) (hs : NF v s) (hb : 0 < hh ∧ hh < 100 ∧ c + s < 1000000) : Ct g yX1_placeOf cX1_placeOf 3 (some .int) 3 0 0 [.ref A, .int u, .int v] T Mi Ml (Ri T Mi Ml (nI (plN hh c s))) := by
  refine Ct.of' (plainFor_of_name (by decide +kernel)) (by exact Nat.le_of_ble_eq_true rfl) ?_
  intro x hg hR h hr hnm hnl
  subst hg
  refine jv_iload_n h dX1_placeOf_0 rfl ?_
  refine jv_iload_n h dX1_placeOf_1 rfl ?_
  first | refine jv_iaddN h dX1_placeOf_2 (by repeat (with_reducible first | exact NF_nI _ | assumption | refine NF_add ?_ ?_ | refine NF_mul ?_ ?_)) (by repeat (with_reducible first | exact NF_nI _ | assumption | refine NF_add ?_ ?_ | refine NF_mul ?_ ?_)) ?_ | refine jv_iadd h dX1_placeOf_2 ?_
  refine jv_aload_n h dX1_placeOf_3 rfl ?_
  refine jv_VRi [] h dX1_placeOf_4 cw_X1_35 cf_1 (by assumption) (c_cars (by assumption) (by assumption)) (by decide) rfl rfl (Nat.le_of_ble_eq_true rfl) ⟨Nat.zero_le _, Nat.zero_le _⟩ ?_
  refine jv_SNRi [_, _] h dX1_placeOf_7 cw_X1_39 (c_leftOver (X := ((c + s : Nat) : Int)) (nI_toInt (by omega)) (NF_nI _) (by omega) ⟨by omega, by omega⟩) (by decide) rfl rfl (Nat.le_of_ble_eq_true rfl) ⟨Nat.zero_le _, Nat.zero_le _⟩ ?_
  exact jv_iret h hr dX1_placeOf_10 ⟨rfl, rfl, rfl, rfl⟩
set_option maxHeartbeats 4000000 in
set_option maxRecDepth 100000 in
theorem c_carIn {g : GT} {T : TT} {Mi : MI} {Ml : ML} {A : Nat} {u v : Int32} {hh p s : Nat} (hB : KD g T A 1) (hv : Mi A 0 = nI hh) (hu : NF u p) (hs : NF v s) (hb : 0 < hh ∧ hh < 100 ∧ p < 1000000 ∧ s < 1000000) : Ct g yX1_carIn cX1_carIn 3 (some .int) 3 0 0 [.ref A, .int u, .int v] T Mi Ml (Ri T Mi Ml (nI (ciN hh p s))) := by
  refine Ct.of' (plainFor_of_name (by decide +kernel)) (by exact Nat.le_of_ble_eq_true rfl) ?_
  intro x hg hR h hr hnm hnl
  subst hg
  refine jv_iload_n h dX1_carIn_0 rfl ?_
  refine jv_iload_n h dX1_carIn_1 rfl ?_
  refine jv_isub h dX1_carIn_2 ?_
  refine jv_aload_n h dX1_carIn_3 rfl ?_
  refine jv_VRi [] h dX1_carIn_4 cw_X1_35 cf_1 (by assumption) (c_cars (by assumption) (by assumption)) (by decide) rfl rfl (Nat.le_of_ble_eq_true rfl) ⟨Nat.zero_le _, Nat.zero_le _⟩ ?_
  refine jv_SNRi [_, _] h dX1_carIn_7 cw_X1_39 (c_leftOver (X := (p : Int) - (s : Int)) (by rw [hu, hs]; exact pk_sub_toInt (by omega) (by omega)) (NF_nI _) (by omega) ⟨by omega, by omega⟩) (by decide) rfl rfl (Nat.le_of_ble_eq_true rfl) ⟨Nat.zero_le _, Nat.zero_le _⟩ ?_
  exact jv_iret h hr dX1_carIn_10 ⟨by rw [ciN_emod (by omega)], rfl, rfl, rfl⟩
