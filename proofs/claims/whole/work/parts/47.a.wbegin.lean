def sjN (S : Nat → Nat) (i : Nat) : Nat := if S (21 + 6 * i) = 0 then S (20 + 6 * i) * 7 + S (22 + 6 * i) else 42 + (S (21 + 6 * i) - 1)
theorem sj_lt {S : Nat → Nat} {i : Nat} (hW : WF S) (hi : i < S 0) : sjN S i < 54 := by
  obtain ⟨w0, w1, w2, w3, w4, w5, w6, w7⟩ := hW
  obtain ⟨p1, p2, p3, p4, p5, p6⟩ := w7 i hi
  unfold sjN
  split <;> omega

set_option maxHeartbeats 4000000 in
set_option maxRecDepth 100000 in
theorem c_wkbegin {g : GT} {T : TT} {Mi : MI} {Ml : ML} {W B i u nx : Nat} {S : Nat → Nat} {R : Nat → Nat → Nat} (hK : WkS g T W) (hBs : BltS g T B) (hL : BltR Mi B S R u nx) (hW : WF S) (hi : i < S 0) (hne : B + 77 ≤ W) : Ct g yX9_begin cX9_begin 3 none 4 0 0 [.ref W, .ref B, .ref (B + 3 + 2 + i)] T Mi Ml (Gv T (fun Mi' Ml' => (∀ a, (a < W ∨ W + 3 ≤ a) → Mi' a = Mi a) ∧ (∀ a, a ≠ W → Ml' a = Ml a) ∧ BlkR Mi' (W + 1) S ∧ Mi' W 1 = nI (S (18 + 6 * i)) ∧ Mi' W 2 = nI (S 1) ∧ Mi' W 4 = nI (S 1) ∧ Ml' W 3 = lN (2 ^ sjN S i) ∧ Ml' W 5 = lN (2 ^ sjN S i))) := by
  refine Ct.of' (plainFor_of_name (by decide +kernel)) (by exact Nat.le_of_ble_eq_true rfl) ?_
  intro x hg hR h hr hnm hnl
  subst hg
  obtain ⟨k1, k2, k3⟩ := id hK
  obtain ⟨b1, b2, b3⟩ := id k3
  obtain ⟨z1, z2, z3, z4, z5, z6, z7⟩ := id hBs
  obtain ⟨e1, e2, e3⟩ := id z5
  obtain ⟨s1, s2, s3, s4, s5⟩ := id z6
  obtain ⟨h1, h2, h3, h4, h5⟩ := id z7
  obtain ⟨l1, l2, l3⟩ := id hL
  obtain ⟨y0, y1, y2, y3⟩ := id l1
  obtain ⟨v1, v2, v3, v4⟩ := id l2
  obtain ⟨r1, r2, r3, r4, r5, r6⟩ := id l3
  obtain ⟨w0, w1, w2, w3, w4, w5, w6, w7⟩ := id hW
  obtain ⟨q0, q1, q2, q3, q4, q5⟩ := v4 i hi
  have w7i := w7 i hi
  have kP := s4 i (by omega)
  refine jv_aload_n h dX9_begin_0 rfl ?_
  refine jv_gr 0 h dX9_begin_1 cf_8 (by decide) gw_224 (by first | assumption | exact s4 _ (by omega) | exact s5 _ (by omega)) (by first | assumption | exact s4 _ (by omega) | exact s5 _ (by omega)) ?_
  refine jv_aload_n h dX9_begin_4 rfl ?_
  refine jv_gr 0 h dX9_begin_5 cf_0 (by decide) gw_163 (by first | assumption | exact s4 _ (by omega) | exact s5 _ (by omega)) (by first | assumption | exact s4 _ (by omega) | exact s5 _ (by omega)) ?_
  refine jv_VGv [_] h dX9_begin_8 cw_X9_30 cf_1 (by first | assumption | exact s4 _ (by omega) | exact s5 _ (by omega)) (c_btake k3 z5 l1 (by omega) (by omega)) (by decide) rfl rfl (Nat.le_of_ble_eq_true rfl) ⟨Nat.zero_le _, Nat.zero_le _⟩ (fun Mi8 Ml8 hp8 => ?_)
  have hm9 := hp8.1
  subst Ml8
  obtain ⟨-, f1, f2⟩ := hp8
  have r0 : Mi8 (B + 3 + 2 + i) 0 = nI (S (18 + 6 * i)) := (congrFun (f1 _ (by omega)) 0).trans q0
  refine jv_aload_n h dX9_begin_11 rfl ?_
  refine jv_aload_n h dX9_begin_12 rfl ?_
  refine jv_ge 0 h dX9_begin_13 cf_4 (by decide) gw_86 (by first | assumption | exact s4 _ (by omega) | exact s5 _ (by omega)) r0 (by omega) ?_
  refine jv_pe 1 h dX9_begin_16 cf_8 (by decide) gw_225 (by first | assumption | exact s4 _ (by omega) | exact s5 _ (by omega)) rfl (by omega) rfl rfl ?_
  refine jv_aload_n h dX9_begin_19 rfl ?_
  refine jv_aload_n h dX9_begin_20 rfl ?_
  refine jv_gr 1 h dX9_begin_21 cf_0 (by decide) gw_166 (by first | assumption | exact s4 _ (by omega) | exact s5 _ (by omega)) (by first | assumption | exact s4 _ (by omega) | exact s5 _ (by omega)) ?_
  refine jv_gv 2 h dX9_begin_24 cf_5 (by decide) gw_128 (by first | assumption | exact s4 _ (by omega) | exact s5 _ (by omega)) (by exact (congrFun ((upd2_row _ _ (by omega)).trans (f1 _ (by omega))) 2).trans v2) ?_
  refine jv_pi 2 h dX9_begin_27 cf_8 (by decide) gw_226 (by first | assumption | exact s4 _ (by omega) | exact s5 _ (by omega)) rfl rfl rfl ?_
  have er : (upd2 (upd2 Mi8 W 1 (nI (S (18 + 6 * i)))) W 2 (nI (S 1))) (B + 3 + 2 + i) = Mi (B + 3 + 2 + i) := (upd2_row _ _ (by omega)).trans ((upd2_row _ _ (by omega)).trans (f1 _ (by omega)))
  have t2 := (congrFun er 2).trans q2
  have t3 := (congrFun er 3).trans q3
  have t4 := (congrFun er 4).trans q4
  refine jv_aload_n h dX9_begin_30 rfl ?_
  refine jv_aload_n h dX9_begin_31 rfl ?_
  refine jv_VRi [] h dX9_begin_32 cw_X9_50 cf_4 (by first | assumption | exact s4 _ (by omega) | exact s5 _ (by omega)) (c_rides kP t4 (by omega)) (by decide) rfl rfl (Nat.le_of_ble_eq_true rfl) ⟨Nat.zero_le _, Nat.zero_le _⟩ ?_
  refine jv_beq 48 h dX9_begin_35 (by decide) (fun c35 => ?_) (fun c35 => ?_)
  · simp at c35
    refine jv_aload_n h dX9_begin_48 rfl ?_
    refine jv_gv 2 h dX9_begin_49 cf_4 (by decide) gw_91 (by first | assumption | exact s4 _ (by omega) | exact s5 _ (by omega)) (by exact t2) ?_
    refine jv_aload_n h dX9_begin_52 rfl ?_
    refine jv_gv 3 h dX9_begin_53 cf_4 (by decide) gw_95 (by first | assumption | exact s4 _ (by omega) | exact s5 _ (by omega)) (by exact t3) ?_
    refine jv_SRl [_, _] h dX9_begin_56 cw_X9_67 (c_spot (NF_nI _) (NF_nI _) (by omega) (by omega)) (by decide) rfl rfl (Nat.le_of_ble_eq_true rfl) ⟨Nat.zero_le _, Nat.zero_le _⟩ ?_
    rw [show S (20 + 6 * i) * 7 + S (22 + 6 * i) = sjN S i from by unfold sjN; rw [if_pos c35]]
    refine jv_plg 3 h dX9_begin_59 cf_8 (by decide) gw_227 (by first | assumption | exact s4 _ (by omega) | exact s5 _ (by omega)) rfl rfl ?_
    refine jv_aload_n h dX9_begin_62 rfl ?_
    refine jv_VGv [] h dX9_begin_63 cw_X9_75 cf_8 (by first | assumption | exact s4 _ (by omega) | exact s5 _ (by omega)) (c_rewind hK) (by decide) rfl rfl (Nat.le_of_ble_eq_true rfl) ⟨Nat.zero_le _, Nat.zero_le _⟩ (fun Mi63 Ml63 hp63 => ?_)
    obtain ⟨rfl, rfl⟩ := hp63
    exact jv_vret h hr dX9_begin_66 ⟨rfl, rfl, fun a ha => by rw [upd2_row _ _ (by omega), upd2_row _ _ (by omega), upd2_row _ _ (by omega), f1 a (by omega)], fun a ha => by rw [upd2_row _ _ ha, upd2_row _ _ ha], f2.fr (by rw [upd2_row _ _ (by omega), upd2_row _ _ (by omega), upd2_row _ _ (by omega)]) (by rw [upd2_row _ _ (by omega), upd2_row _ _ (by omega), upd2_row _ _ (by omega)]), by rw [upd2_ne _ _ (by omega), upd2_ne _ _ (by omega), upd2_same], by rw [upd2_ne _ _ (by omega), upd2_same], by rw [upd2_same, upd2_same], by rw [upd2_ne _ _ (by omega), upd2_same], by rw [upd2_same, upd2_same]⟩
  · simp at c35
    have t4x : (upd2 (upd2 Mi8 W 1 (nI (S (18 + 6 * i)))) W 2 (nI (S 1))) (B + 3 + 2 + i) 4 = nI (S (21 + 6 * i) - 1) := by rw [t4]; unfold carI; rw [if_neg c35]
    refine jv_aload_n h dX9_begin_38 rfl ?_
    refine jv_gv 4 h dX9_begin_39 cf_4 (by decide) gw_100 (by first | assumption | exact s4 _ (by omega) | exact s5 _ (by omega)) (by exact t4x) ?_
    refine jv_SRl [_] h dX9_begin_42 cw_X9_57 (c_seat (NF_nI _) (by omega)) (by decide) rfl rfl (Nat.le_of_ble_eq_true rfl) ⟨Nat.zero_le _, Nat.zero_le _⟩ ?_
    rw [show 42 + (S (21 + 6 * i) - 1) = sjN S i from by unfold sjN; rw [if_neg c35]]
    refine jv_goto 59 h dX9_begin_45 (by decide) ?_
    refine jv_plg 3 h dX9_begin_59 cf_8 (by decide) gw_227 (by first | assumption | exact s4 _ (by omega) | exact s5 _ (by omega)) rfl rfl ?_
    refine jv_aload_n h dX9_begin_62 rfl ?_
    refine jv_VGv [] h dX9_begin_63 cw_X9_75 cf_8 (by first | assumption | exact s4 _ (by omega) | exact s5 _ (by omega)) (c_rewind hK) (by decide) rfl rfl (Nat.le_of_ble_eq_true rfl) ⟨Nat.zero_le _, Nat.zero_le _⟩ (fun Mi63 Ml63 hp63 => ?_)
    obtain ⟨rfl, rfl⟩ := hp63
    exact jv_vret h hr dX9_begin_66 ⟨rfl, rfl, fun a ha => by rw [upd2_row _ _ (by omega), upd2_row _ _ (by omega), upd2_row _ _ (by omega), f1 a (by omega)], fun a ha => by rw [upd2_row _ _ ha, upd2_row _ _ ha], f2.fr (by rw [upd2_row _ _ (by omega), upd2_row _ _ (by omega), upd2_row _ _ (by omega)]) (by rw [upd2_row _ _ (by omega), upd2_row _ _ (by omega), upd2_row _ _ (by omega)]), by rw [upd2_ne _ _ (by omega), upd2_ne _ _ (by omega), upd2_same], by rw [upd2_ne _ _ (by omega), upd2_same], by rw [upd2_same, upd2_same], by rw [upd2_ne _ _ (by omega), upd2_same], by rw [upd2_same, upd2_same]⟩
set_option maxHeartbeats 4000000 in
set_option maxRecDepth 100000 in
theorem c_hasCarOf {g : GT} {T : TT} {Mi : MI} {Ml : ML} {W dd : Nat} {S : Nat → Nat} {v : Int32} (hK : WkS g T W) (hB : BlkR Mi (W + 1) S) (hW : WF S) (hv : NF v dd) (hd : dd < 7) : Ct g yX9_hasCarOf cX9_hasCarOf 3 (some .boolean) 2 0 0 [.ref W, .int v] T Mi Ml (Gi T (fun rv Mi' Ml' => Mi' = Mi ∧ Ml' = Ml ∧ ∃ b : Bool, rv = bI b ∧ (b = true ↔ ∃ c, c < 2 * S 2 ∧ S (6 + c) = dd))) := by
  refine Ct.of' (plainFor_of_name (by decide +kernel)) (by exact Nat.le_of_ble_eq_true rfl) ?_
  intro x hg hR h hr hnm hnl
  subst hg
  obtain ⟨k1, k2, k3⟩ := id hK
  obtain ⟨b1, b2, b3⟩ := id k3
  obtain ⟨y0, y1, y2, y3⟩ := id hB
  obtain ⟨w0, w1, w2, w3, w4, w5, w6, w7⟩ := id hW
  obtain rfl : v = nI dd := hv
  refine jv_iconst (nI 0) h dX9_hasCarOf_0 (by decide) ?_
  refine jv_istore_n h dX9_hasCarOf_1 (lt_nl hnl (by decide)) ?_
  have hl2 : ∀ (n : Nat) (i : Nat), 13 - i < n → i ≤ 2 * S 2 → (∀ c, c < i → S (6 + c) ≠ dd) → V x 0 0 T Mi Ml 2 [some (.ref W), some (.int (nI dd)), some (.int (nI i))] [] := by
    intro n
    induction n with
    | zero => intro i hN9 hi hx; exact absurd hN9 (by omega)
    | succ n ih =>
      intro i hN9 hi hx
      refine jv_iload_n h dX9_hasCarOf_2 rfl ?_
      refine jv_aload_n h dX9_hasCarOf_3 rfl ?_
      refine jv_gr 0 h dX9_hasCarOf_4 cf_8 (by decide) gw_224 (by assumption) (by assumption) ?_
      refine jv_VRi [] h dX9_hasCarOf_7 cw_X9_86 cf_1 (by assumption) (c_cars b1 y0) (by decide) rfl rfl (Nat.le_of_ble_eq_true rfl) ⟨Nat.zero_le _, Nat.zero_le _⟩ ?_
      refine jv_nge 34 h dX9_hasCarOf_10 (by decide) (by repeat (with_reducible first | exact NF_nI _ | assumption | refine NF_add ?_ ?_ | refine NF_mul ?_ ?_)) (by repeat (with_reducible first | exact NF_nI _ | assumption | refine NF_add ?_ ?_ | refine NF_mul ?_ ?_)) ⟨by omega, by omega⟩ (fun c10 => ?_) (fun c10 => ?_)
      · refine jv_iconst (nI 0) h dX9_hasCarOf_34 (by decide) ?_
        exact jv_zret h hr dX9_hasCarOf_35 rfl ⟨_, rfl, rfl, rfl, rfl, false, rfl, (fun z => by cases z), (fun ⟨c, z1, z2⟩ => absurd z2 (hx c (by omega)))⟩
      · have w6i := w6 i (by omega)
        refine jv_aload_n h dX9_hasCarOf_13 rfl ?_
        refine jv_gr 0 h dX9_hasCarOf_14 cf_8 (by decide) gw_224 (by assumption) (by assumption) ?_
        refine jv_gr 3 h dX9_hasCarOf_17 cf_1 (by decide) gw_58 (by assumption) (by assumption) ?_
        refine jv_iload_n h dX9_hasCarOf_20 rfl ?_
        refine jv_iav h dX9_hasCarOf_21 (by assumption) (by repeat (with_reducible first | exact NF_nI _ | assumption | refine NF_add ?_ ?_ | refine NF_mul ?_ ?_)) ⟨by omega, by decide⟩ (by exact y3 _ (by omega)) ?_
        refine jv_iload_n h dX9_hasCarOf_22 rfl ?_
        refine jv_nne 28 h dX9_hasCarOf_23 (by decide) (by repeat (with_reducible first | exact NF_nI _ | assumption | refine NF_add ?_ ?_ | refine NF_mul ?_ ?_)) (by repeat (with_reducible first | exact NF_nI _ | assumption | refine NF_add ?_ ?_ | refine NF_mul ?_ ?_)) ⟨by omega, by omega⟩ (fun c23 => ?_) (fun c23 => ?_)
        · refine jv_iinc (nI (i + 1)) h dX9_hasCarOf_28 rfl (lt_nl hnl (by decide)) (nI_inc i) ?_
          refine jv_goto 2 h dX9_hasCarOf_31 (by decide) ?_
          exact ih (i + 1) (by omega) (by omega) (fun c hc => by rcases (show c = i ∨ c < i by omega) with hci | hci; exact hci ▸ c23; exact hx c hci)
        · refine jv_iconst (nI 1) h dX9_hasCarOf_26 (by decide) ?_
          exact jv_zret h hr dX9_hasCarOf_27 rfl ⟨_, rfl, rfl, rfl, rfl, true, rfl, fun _ => ⟨i, by omega, c23⟩, fun _ => rfl⟩
  exact hl2 14 0 (by omega) (by omega) (fun c hc => absurd hc (by omega))
set_option maxHeartbeats 4000000 in
set_option maxRecDepth 100000 in
theorem c_changeDays {g : GT} {T : TT} {Mi : MI} {Ml : ML} {W k l : Nat} {u v : Int32} (hK : WkS g T W) (hu : NF u k) (hv : NF v l) (hkl : k < 12 ∧ l < 12) : Ct g yX9_changeDays cX9_changeDays 4 none 1 0 0 [.ref W, .int u, .int v] T Mi Ml (Gv T (fun Mi' Ml' => Mi' = upd2 (upd2 Mi (W + 1 + 1) k (Mi (W + 1 + 1) l)) (W + 1 + 1) l (Mi (W + 1 + 1) k) ∧ Ml' = Ml)) := by
  refine Ct.of' (plainFor_of_name (by decide +kernel)) (by exact Nat.le_of_ble_eq_true rfl) ?_
  intro x hg hR h hr hnm hnl
  subst hg
  obtain ⟨k1, k2, k3⟩ := id hK
  obtain ⟨b1, b2, b3⟩ := id k3
  obtain rfl : u = nI k := hu
  obtain rfl : v = nI l := hv
  refine jv_aload_n h dX9_changeDays_0 rfl ?_
  refine jv_gr 0 h dX9_changeDays_1 cf_8 (by decide) gw_224 (by assumption) (by assumption) ?_
  refine jv_gr 3 h dX9_changeDays_4 cf_1 (by decide) gw_58 (by assumption) (by assumption) ?_
  refine jv_iload_n h dX9_changeDays_7 rfl ?_
  refine jv_iald h dX9_changeDays_8 (by assumption) (by repeat (with_reducible first | exact NF_nI _ | assumption | refine NF_add ?_ ?_ | refine NF_mul ?_ ?_)) ⟨by omega, by decide⟩ ?_
  refine jv_istore_n h dX9_changeDays_9 (lt_nl hnl (by decide)) ?_
  refine jv_aload_n h dX9_changeDays_10 rfl ?_
  refine jv_gr 0 h dX9_changeDays_11 cf_8 (by decide) gw_224 (by assumption) (by assumption) ?_
  refine jv_gr 3 h dX9_changeDays_14 cf_1 (by decide) gw_58 (by assumption) (by assumption) ?_
  refine jv_iload_n h dX9_changeDays_17 rfl ?_
  refine jv_aload_n h dX9_changeDays_18 rfl ?_
  refine jv_gr 0 h dX9_changeDays_19 cf_8 (by decide) gw_224 (by assumption) (by assumption) ?_
  refine jv_gr 3 h dX9_changeDays_22 cf_1 (by decide) gw_58 (by assumption) (by assumption) ?_
  refine jv_iload_n h dX9_changeDays_25 rfl ?_
  refine jv_iald h dX9_changeDays_26 (by assumption) (by repeat (with_reducible first | exact NF_nI _ | assumption | refine NF_add ?_ ?_ | refine NF_mul ?_ ?_)) ⟨by omega, by decide⟩ ?_
  refine jv_iast h dX9_changeDays_27 (by assumption) (by repeat (with_reducible first | exact NF_nI _ | assumption | refine NF_add ?_ ?_ | refine NF_mul ?_ ?_)) ⟨by omega, by decide⟩ ?_
  refine jv_aload_n h dX9_changeDays_28 rfl ?_
  refine jv_gr 0 h dX9_changeDays_29 cf_8 (by decide) gw_224 (by assumption) (by assumption) ?_
  refine jv_gr 3 h dX9_changeDays_32 cf_1 (by decide) gw_58 (by assumption) (by assumption) ?_
  refine jv_iload_n h dX9_changeDays_35 rfl ?_
  refine jv_iload_n h dX9_changeDays_36 rfl ?_
  refine jv_iast h dX9_changeDays_37 (by assumption) (by repeat (with_reducible first | exact NF_nI _ | assumption | refine NF_add ?_ ?_ | refine NF_mul ?_ ?_)) ⟨by omega, by decide⟩ ?_
  exact jv_vret h hr dX9_changeDays_38 ⟨rfl, rfl, rfl, rfl⟩
