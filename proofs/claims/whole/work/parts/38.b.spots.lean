set_option maxHeartbeats 4000000 in
set_option maxRecDepth 100000 in
theorem c_spot {g : GT} {T : TT} {Mi : MI} {Ml : ML} {u v : Int32} {f d : Nat} (hu : NF u f) (hv : NF v d) (hf : f < 6) (hd : d < 7) : Ct g yX9_spot cX9_spot 2 (some .long) 1 0 0 [.int u, .int v] T Mi Ml (Rl T Mi Ml (lN (2 ^ (f * 7 + d)))) := by
  refine Ct.of' (plainFor_of_name (by decide +kernel)) (by exact Nat.le_of_ble_eq_true rfl) ?_
  intro x hg hR h hr hnm hnl
  subst hg
  obtain rfl : u = nI f := hu
  obtain rfl : v = nI d := hv
  refine jv_lconst (lN 1) h dX9_spot_0 (by decide) ?_
  refine jv_iload_n h dX9_spot_1 rfl ?_
  refine jv_bipush (nI 7) h dX9_spot_2 (by decide) ?_
  first | refine jv_imulN h dX9_spot_4 (by repeat (with_reducible first | exact NF_nI _ | assumption | refine NF_add ?_ ?_ | refine NF_mul ?_ ?_)) (by repeat (with_reducible first | exact NF_nI _ | assumption | refine NF_add ?_ ?_ | refine NF_mul ?_ ?_)) ?_ | refine jv_imul h dX9_spot_4 ?_
  refine jv_iload_n h dX9_spot_5 rfl ?_
  first | refine jv_iaddN h dX9_spot_6 (by repeat (with_reducible first | exact NF_nI _ | assumption | refine NF_add ?_ ?_ | refine NF_mul ?_ ?_)) (by repeat (with_reducible first | exact NF_nI _ | assumption | refine NF_add ?_ ?_ | refine NF_mul ?_ ?_)) ?_ | refine jv_iadd h dX9_spot_6 ?_
  refine jv_lshl h dX9_spot_7 ?_
  rw [l_one (by omega)]
  exact jv_lret h hr dX9_spot_8 ⟨rfl, rfl, rfl, rfl⟩
set_option maxHeartbeats 4000000 in
set_option maxRecDepth 100000 in
theorem c_seat {g : GT} {T : TT} {Mi : MI} {Ml : ML} {u : Int32} {c : Nat} (hu : NF u c) (hc : c < 12) : Ct g yX9_seat cX9_seat 1 (some .long) 1 0 0 [.int u] T Mi Ml (Rl T Mi Ml (lN (2 ^ (42 + c)))) := by
  refine Ct.of' (plainFor_of_name (by decide +kernel)) (by exact Nat.le_of_ble_eq_true rfl) ?_
  intro x hg hR h hr hnm hnl
  subst hg
  obtain rfl : u = nI c := hu
  refine jv_lconst (lN 1) h dX9_seat_0 (by decide) ?_
  refine jv_bipush (nI 42) h dX9_seat_1 (by decide) ?_
  refine jv_iload_n h dX9_seat_3 rfl ?_
  first | refine jv_iaddN h dX9_seat_4 (by repeat (with_reducible first | exact NF_nI _ | assumption | refine NF_add ?_ ?_ | refine NF_mul ?_ ?_)) (by repeat (with_reducible first | exact NF_nI _ | assumption | refine NF_add ?_ ?_ | refine NF_mul ?_ ?_)) ?_ | refine jv_iadd h dX9_seat_4 ?_
  refine jv_lshl h dX9_seat_5 ?_
  rw [l_one (by omega)]
  exact jv_lret h hr dX9_seat_6 ⟨rfl, rfl, rfl, rfl⟩
set_option maxHeartbeats 4000000 in
set_option maxRecDepth 100000 in
theorem c_has {g : GT} {T : TT} {Mi : MI} {Ml : ML} {u v : Int32} {s p : Nat} (hu : NF u s) (hv : NF v p) (hs : s < 64) (hp : p < 6) : Ct g yX9_has cX9_has 2 (some .boolean) 1 0 0 [.int u, .int v] T Mi Ml (Ri T Mi Ml (bI (decide (btN s p = 1)))) := by
  refine Ct.of' (plainFor_of_name (by decide +kernel)) (by exact Nat.le_of_ble_eq_true rfl) ?_
  intro x hg hR h hr hnm hnl
  subst hg
  obtain rfl : u = nI s := hu
  obtain rfl : v = nI p := hv
  have hbt : btN s p < 2 := Nat.mod_lt _ (by decide)
  refine jv_iload_n h dX9_has_0 rfl ?_
  refine jv_iload_n h dX9_has_1 rfl ?_
  refine jv_ishr h dX9_has_2 ?_
  refine jv_iconst (nI 1) h dX9_has_3 (by decide) ?_
  refine jv_iand h dX9_has_4 ?_
  rw [bit_sh hs hp]
  refine jv_zeq 12 h dX9_has_5 (by decide) (by repeat (with_reducible first | exact NF_nI _ | assumption | refine NF_add ?_ ?_ | refine NF_mul ?_ ?_)) (by omega) (fun c5 => ?_) (fun c5 => ?_)
  · refine jv_iconst (nI 0) h dX9_has_12 (by decide) ?_
    exact jv_zret h hr dX9_has_13 rfl ⟨by first | (rw [decide_eq_true (by omega)]; rfl) | (rw [decide_eq_false (by omega)]; rfl), rfl, rfl, rfl⟩
  · refine jv_iconst (nI 1) h dX9_has_8 (by decide) ?_
    refine jv_goto 13 h dX9_has_9 (by decide) ?_
    exact jv_zret h hr dX9_has_13 rfl ⟨by first | (rw [decide_eq_true (by omega)]; rfl) | (rw [decide_eq_false (by omega)]; rfl), rfl, rfl, rfl⟩
