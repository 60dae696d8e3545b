set_option maxHeartbeats 4000000 in
set_option maxRecDepth 100000 in
theorem c_bbegin {g : GT} {T : TT} {Mi : MI} {Ml : ML} {B E C u nx hh : Nat} {S D Q : Nat → Nat} {R : Nat → Nat → Nat} (hB : BltS g T B) (hL : BltR Mi B S R u nx) (hW : WF S) (hE : BlkS g T E) (hC : ScnS g T C) (hE9 : Mi E 0 = nI hh) (hE8 : ∀ k, k < 2 * hh → Mi (E + 1) k = nI (D k)) (hSQ : ScnR Mi C Q) (hh6 : 2 ≤ hh ∧ hh ≤ 6) (hD9 : ∀ k, k < 2 * hh → D k < 7) (hQ9 : PQ hh Q) (hq1 : Q 1 ≤ 10100) (hq5 : Q 5 < 2147483648) (hbe : B + 77 ≤ E ∧ B + 77 ≤ C) : Ct g yX0_begin cX0_begin 3 none 3 0 0 [.ref B, .ref E, .ref C] T Mi Ml (Gv T (fun Mi' Ml' => Ml' = Ml ∧ Fr Mi Mi' B (B + 77) ∧ BltR Mi' B (rbS S hh D Q) R 0 nx)) := by
  refine Ct.of' (plainFor_of_name (by decide +kernel)) (by exact Nat.le_of_ble_eq_true rfl) ?_
  intro x hg hR h hr hnm hnl
  subst hg
  obtain ⟨z1, z2, z3, z4, z5, z6, z7⟩ := id hB
  obtain ⟨e1, e2, e3⟩ := id z5
  obtain ⟨s1, s2, s3, s4, s5⟩ := id z6
  obtain ⟨h1, h2, h3, h4, h5⟩ := id z7
  obtain ⟨l1, l2, l3⟩ := id hL
  obtain ⟨y0, y1, y2, y3⟩ := id l1
  obtain ⟨v1, v2, v3, v4⟩ := id l2
  obtain ⟨r1, r2, r3, r4, r5, r6⟩ := id l3
  obtain ⟨w0, w1, w2, w3, w4, w5, w6, w7⟩ := id hW
  have hWn := rbS_WF hW hh6 hD9 hQ9
  have hWw : WF (fun j => if j = 1 then Q 1 else if j = 5 then Q 5 else rbS S hh D Q j) := by
    obtain ⟨n0, n1, n2, n3, n4, n5, n6, n7⟩ := hWn
    refine ⟨n0, by show Q 1 ≤ 10100; omega, n2, n3, n4, by show Q 5 < 2147483648; omega, fun k hk => ?_, fun p hp => ?_⟩
    · show (if 6 + k = 1 then Q 1 else if 6 + k = 5 then Q 5 else rbS S hh D Q (6 + k)) < 7
      rw [if_neg (by omega), if_neg (by omega)]; exact n6 k hk
    · have e : ∀ i, i < 6 → (if 18 + i + 6 * p = 1 then Q 1 else if 18 + i + 6 * p = 5 then Q 5 else rbS S hh D Q (18 + i + 6 * p)) = rbS S hh D Q (18 + i + 6 * p) := fun i hi => by rw [if_neg (by omega), if_neg (by omega)]
      have a0 := e 0 (by omega)
      have a1 := e 1 (by omega)
      have a2 := e 2 (by omega)
      have a3 := e 3 (by omega)
      have a4 := e 4 (by omega)
      have a5 := e 5 (by omega)
      try dsimp only
      rw [a0, a1, a2, a3, a4, a5]
      obtain ⟨m1, m2, m3, m4, m5, m6⟩ := n7 p hp
      refine ⟨m1, m2, m3, m4, m5, ?_⟩
      have m6' : rbS S hh D Q (23 + 6 * p) ≤ 0 := m6
      rw [show 18 + 5 + 6 * p = 23 + 6 * p by omega]
      omega
  have hSw : ScnR Mi C (fun j => if j = 1 then Q 1 else if j = 5 then Q 5 else rbS S hh D Q j) := hSQ.cg rfl rfl rfl (fun p hp i hi => by
    show (if 18 + 6 * p + i = 1 then Q 1 else if 18 + 6 * p + i = 5 then Q 5 else rbS S hh D Q (18 + 6 * p + i)) = _
    rw [if_neg (by omega), if_neg (by omega), rbS_p (by omega) (by omega)])
  refine jv_aload_n h dX0_begin_0 rfl ?_
  refine jv_gr 0 h dX0_begin_1 cf_0 (by decide) gw_161 (by first | assumption | exact s4 _ (by omega) | exact s5 _ (by omega)) (by first | assumption | exact s4 _ (by omega) | exact s5 _ (by omega)) ?_
  refine jv_aload_n h dX0_begin_4 rfl ?_
  refine jv_VGv [_] h dX0_begin_5 cw_X0_40 cf_1 (by first | assumption | exact s4 _ (by omega) | exact s5 _ (by omega)) (c_takeBelt z5 hE (by omega)) (by decide) rfl rfl (Nat.le_of_ble_eq_true rfl) ⟨Nat.zero_le _, Nat.zero_le _⟩ (fun Mi5 Ml5 hp5 => ?_)
  have hm9 := hp5.1
  subst Ml5
  obtain ⟨-, i1, i2, i3, i4, i5⟩ := hp5
  refine jv_aload_n h dX0_begin_8 rfl ?_
  refine jv_gr 1 h dX0_begin_9 cf_0 (by decide) gw_164 (by first | assumption | exact s4 _ (by omega) | exact s5 _ (by omega)) (by first | assumption | exact s4 _ (by omega) | exact s5 _ (by omega)) ?_
  refine jv_aload_n h dX0_begin_12 rfl ?_
  refine jv_VGv [_] h dX0_begin_13 cw_X0_43 cf_5 (by first | assumption | exact s4 _ (by omega) | exact s5 _ (by omega)) (c_takePeople z6 hC (hSw.fr hWw.1 (fun a h1 h2 => i1 a (by omega))) hWw (by omega)) (by decide) rfl rfl (Nat.le_of_ble_eq_true rfl) ⟨Nat.zero_le _, Nat.zero_le _⟩ (fun Mi13 Ml13 hp13 => ?_)
  have hm9 := hp13.1
  subst Ml13
  obtain ⟨-, j1, j2, j3, j4, j5⟩ := hp13
  refine jv_aload_n h dX0_begin_16 rfl ?_
  refine jv_gr 1 h dX0_begin_17 cf_0 (by decide) gw_164 (by first | assumption | exact s4 _ (by omega) | exact s5 _ (by omega)) (by first | assumption | exact s4 _ (by omega) | exact s5 _ (by omega)) ?_
  refine jv_iconst (nI 0) h dX0_begin_20 (by decide) ?_
  refine jv_pi 2 h dX0_begin_21 cf_5 (by decide) gw_126 (by first | assumption | exact s4 _ (by omega) | exact s5 _ (by omega)) rfl rfl rfl ?_
  refine jv_aload_n h dX0_begin_24 rfl ?_
  refine jv_gr 2 h dX0_begin_25 cf_0 (by decide) gw_167 (by first | assumption | exact s4 _ (by omega) | exact s5 _ (by omega)) (by first | assumption | exact s4 _ (by omega) | exact s5 _ (by omega)) ?_
  refine jv_VGv [] h dX0_begin_28 cw_X0_50 cf_3 (by first | assumption | exact s4 _ (by omega) | exact s5 _ (by omega)) (c_hclear h1) (by decide) rfl rfl (Nat.le_of_ble_eq_true rfl) ⟨Nat.zero_le _, Nat.zero_le _⟩ (fun Mi28 Ml28 hp28 => ?_)
  have hm9 := hp28.1
  subst Ml28
  obtain ⟨-, rfl⟩ := hp28
  refine jv_vret h hr dX0_begin_31 ⟨rfl, rfl, rfl, (fun a ha => by rw [upd2_row _ _ (by omega), upd2_row _ _ (by omega), j1 a (by omega), i1 a (by omega)]), ⟨?_, ?_, ?_, fun k hk => ?_⟩, ⟨?_, ?_, ?_, fun p hp => ?_⟩, ?_⟩
  · rw [upd2_row _ _ (by omega), upd2_row _ _ (by omega), j1 _ (by omega), i2]; exact hE9
  · rw [upd2_row _ _ (by omega), upd2_row _ _ (by omega), j1 _ (by omega), i3, rbS_m (by omega) (by omega)]; exact y1
  · rw [upd2_row _ _ (by omega), upd2_row _ _ (by omega), j1 _ (by omega), i4, rbS_m (by omega) (by omega)]; exact y2
  · have hk' : k < 2 * hh := hk
    rw [upd2_row _ _ (by omega), upd2_row _ _ (by omega), j1 _ (by omega), i5 k (by omega), rbS_d hh6.2 hk']; exact hE8 k hk'
  · rw [upd2_row _ _ (by omega), upd2_ne _ _ (by omega)]; exact j2
  · rw [upd2_row _ _ (by omega), upd2_same]; rfl
  · rw [upd2_row _ _ (by omega), upd2_ne _ _ (by omega), j4, i1 _ (by omega), rbS_m (by omega) (by omega)]; exact v3
  · have hp' : p < Q 0 := hp
    have h0 := hQ9.1
    refine ((j5 p hp).fr (by rw [upd2_row _ _ (by omega), upd2_row _ _ (by omega)])).cg (fun i hi => ?_)
    try dsimp only
    rw [if_neg (by omega), if_neg (by omega)]
  · have hH : HisR Mi13 (B + 11) R u nx := l3.fr (fun a h1 h2 => by rw [j1 a (by omega), i1 a (by omega)])
    obtain ⟨k1, k2, k3, k4, k5, k6⟩ := hH
    exact ⟨by rw [upd2_ne _ _ (by omega), upd2_row _ _ (by omega)]; exact k1, upd2_same _ _ _ _, by omega, k4, fun k hk => (k5 k hk).fr (k6 k hk).1 (fun a h1 h2 => by rw [upd2_row _ _ (by omega), upd2_row _ _ (by omega)]), k6⟩
