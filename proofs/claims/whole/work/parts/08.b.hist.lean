set_option maxHeartbeats 4000000 in
set_option maxRecDepth 100000 in
theorem c_takeBelt {g : GT} {T : TT} {Mi : MI} {Ml : ML} {A B : Nat} (hA : BlkS g T A) (hB : BlkS g T B) (hne : A + 2 ≤ B ∨ B + 2 ≤ A) : Ct g yX1_takeBelt cX1_takeBelt 2 none 2 0 0 [.ref A, .ref B] T Mi Ml (Gv T (fun Mi' Ml' => Ml' = Ml ∧ Fr Mi Mi' A (A + 2) ∧ Mi' A 0 = Mi B 0 ∧ Mi' A 1 = Mi A 1 ∧ Mi' A 2 = Mi A 2 ∧ ∀ k, k < 12 → Mi' (A + 1) k = Mi (B + 1) k)) := by
  refine Ct.of' (plainFor_of_name (by decide +kernel)) (by exact Nat.le_of_ble_eq_true rfl) ?_
  intro x hg hR h hr hnm hnl
  subst hg
  obtain ⟨b1, b2, b3⟩ := id hA
  obtain ⟨d1, d2, d3⟩ := id hB
  refine jv_aload_n h dX1_takeBelt_0 rfl ?_
  refine jv_aload_n h dX1_takeBelt_1 rfl ?_
  refine jv_gi 0 h dX1_takeBelt_2 cf_1 (by decide) gw_43 (by assumption) ?_
  refine jv_pi 0 h dX1_takeBelt_5 cf_1 (by decide) gw_43 (by assumption) rfl rfl rfl ?_
  refine jv_aload_n h dX1_takeBelt_8 rfl ?_
  refine jv_gr 3 h dX1_takeBelt_9 cf_1 (by decide) gw_53 (by assumption) (by assumption) ?_
  refine jv_iconst (nI 0) h dX1_takeBelt_12 (by decide) ?_
  refine jv_aload_n h dX1_takeBelt_13 rfl ?_
  refine jv_gr 3 h dX1_takeBelt_14 cf_1 (by decide) gw_53 (by assumption) (by assumption) ?_
  refine jv_iconst (nI 0) h dX1_takeBelt_17 (by decide) ?_
  refine jv_bipush (nI 12) h dX1_takeBelt_18 (by decide) ?_
  refine jv_copyi h (by decide) dX1_takeBelt_20 gw_567 gw_569 gw_568 gw_21 (by assumption) (by assumption) (by repeat (with_reducible first | exact NF_nI _ | assumption | refine NF_add ?_ ?_ | refine NF_mul ?_ ?_)) (by repeat (with_reducible first | exact NF_nI _ | assumption | refine NF_add ?_ ?_ | refine NF_mul ?_ ?_)) (by repeat (with_reducible first | exact NF_nI _ | assumption | refine NF_add ?_ ?_ | refine NF_mul ?_ ?_)) (by omega) (Nat.le_of_ble_eq_true rfl) ?_
  exact jv_vret h hr dX1_takeBelt_23 ⟨rfl, rfl, rfl, fun a ha => by
    funext j
    dsimp only
    rw [if_neg (by omega), upd2_row _ _ (by omega)], by dsimp only; rw [if_neg (by omega), upd2_same], by dsimp only; rw [if_neg (by omega), upd2_ne _ _ (by omega)], by dsimp only; rw [if_neg (by omega), upd2_ne _ _ (by omega)], fun k hk => by
    dsimp only
    rw [if_pos rfl]
    unfold va_cpy
    rw [if_pos (by omega), upd2_row _ _ (by omega)]
    congr 1
    omega⟩
set_option maxHeartbeats 4000000 in
set_option maxRecDepth 100000 in
theorem c_btake {g : GT} {T : TT} {Mi : MI} {Ml : ML} {A B : Nat} {S : Nat → Nat} (hA : BlkS g T A) (hB : BlkS g T B) (hR9 : BlkR Mi B S) (h6 : S 2 ≤ 6) (hne : A + 2 ≤ B ∨ B + 2 ≤ A) : Ct g yX1_take cX1_take 2 none 3 0 0 [.ref A, .ref B] T Mi Ml (Gv T (fun Mi' Ml' => Ml' = Ml ∧ Fr Mi Mi' A (A + 2) ∧ BlkR Mi' A S)) := by
  refine Ct.of' (plainFor_of_name (by decide +kernel)) (by exact Nat.le_of_ble_eq_true rfl) ?_
  intro x hg hR h hr hnm hnl
  subst hg
  obtain ⟨b1, b2, b3⟩ := id hA
  obtain ⟨d1, d2, d3⟩ := id hB
  obtain ⟨v0, v1, v2, v3⟩ := id hR9
  refine jv_aload_n h dX1_take_0 rfl ?_
  refine jv_aload_n h dX1_take_1 rfl ?_
  refine jv_gv 1 h dX1_take_2 cf_1 (by decide) gw_48 (by assumption) (by first | assumption | exact (upd2_ne _ _ (by omega)).trans (by assumption) | exact (upd2_ne _ _ (by omega)).trans ((upd2_ne _ _ (by omega)).trans (by assumption))) ?_
  refine jv_pi 1 h dX1_take_5 cf_1 (by decide) gw_48 (by assumption) rfl rfl rfl ?_
  refine jv_aload_n h dX1_take_8 rfl ?_
  refine jv_aload_n h dX1_take_9 rfl ?_
  refine jv_gv 2 h dX1_take_10 cf_1 (by decide) gw_50 (by assumption) (by first | assumption | exact (upd2_ne _ _ (by omega)).trans (by assumption) | exact (upd2_ne _ _ (by omega)).trans ((upd2_ne _ _ (by omega)).trans (by assumption))) ?_
  refine jv_pi 2 h dX1_take_13 cf_1 (by decide) gw_50 (by assumption) rfl rfl rfl ?_
  refine jv_aload_n h dX1_take_16 rfl ?_
  refine jv_aload_n h dX1_take_17 rfl ?_
  refine jv_VGv [_] h dX1_take_18 cw_X1_25 cf_1 (by assumption) (c_takeBelt (by assumption) (by assumption) (by omega)) (by decide) rfl rfl (Nat.le_of_ble_eq_true rfl) ⟨Nat.zero_le _, Nat.zero_le _⟩ (fun Mi18 Ml18 hp18 => ?_)
  exact jv_vret h hr dX1_take_21 ⟨rfl, rfl, by
    obtain ⟨rfl, f1, f2, f3, f4, f5⟩ := hp18
    refine ⟨rfl, Fr.tr (l := A) (h := A + 2) (Fr.tr (l := A) (h := A + 2) (Fr.up (lo := A) (hi := A + 2) (by omega)) (Fr.up (lo := A) (hi := A + 2) (by omega)) (by omega)) f1 (by omega), ?_⟩
    refine ⟨?_, ?_, ?_, fun k hk => ?_⟩
    · rw [f2, upd2_ne _ _ (by omega), upd2_ne _ _ (by omega)]; exact v0
    · rw [f3, upd2_ne _ _ (by omega), upd2_same]
    · rw [f4, upd2_same]
    · rw [f5 k (by omega), upd2_row _ _ (by omega), upd2_row _ _ (by omega)]; exact v3 k hk⟩
set_option maxHeartbeats 4000000 in
set_option maxRecDepth 100000 in
theorem c_hclear {g : GT} {T : TT} {Mi : MI} {Ml : ML} {A : Nat} (hA : KD g T A 3) : Ct g yX3_clear cX3_clear 1 none 1 0 0 [.ref A] T Mi Ml (Gv T (fun Mi' Ml' => Ml' = Ml ∧ Mi' = upd2 Mi A 2 (nI 0))) := by
  refine Ct.of' (plainFor_of_name (by decide +kernel)) (by exact Nat.le_of_ble_eq_true rfl) ?_
  intro x hg hR h hr hnm hnl
  subst hg
  refine jv_aload_n h dX3_clear_0 rfl ?_
  refine jv_iconst (nI 0) h dX3_clear_1 (by decide) ?_
  refine jv_pi 2 h dX3_clear_2 cf_3 (by decide) gw_152 (by assumption) rfl rfl rfl ?_
  exact jv_vret h hr dX3_clear_5 ⟨rfl, rfl, rfl, rfl⟩
set_option maxHeartbeats 4000000 in
set_option maxRecDepth 100000 in
theorem c_push {g : GT} {T : TT} {Mi : MI} {Ml : ML} {A B u nx : Nat} {R : Nat → Nat → Nat} {S : Nat → Nat} (hA : HisS g T A) (hR9 : HisR Mi A R u nx) (hB : ScnS g T B) (hRB : ScnR Mi B S) (hW : WF S) (hne : A + 66 ≤ B ∨ B + 8 ≤ A) : Ct g yX3_push cX3_push 2 none 4 0 0 [.ref A, .ref B] T Mi Ml (Gv T (fun Mi' Ml' => Ml' = Ml ∧ Fr Mi Mi' A (A + 66) ∧ HisR Mi' A (updR R nx S) (min (u + 1) 8) ((nx + 1) % 8))) := by
  refine Ct.of' (plainFor_of_name (by decide +kernel)) (by exact Nat.le_of_ble_eq_true rfl) ?_
  intro x hg hR h hr hnm hnl
  subst hg
  obtain ⟨s1, s2, s3, s4, s5⟩ := id hA
  obtain ⟨r1, r2, r3, r4, r5, r6⟩ := id hR9
  refine jv_aload_n h dX3_push_0 rfl ?_
  refine jv_gr 0 h dX3_push_1 cf_3 (by decide) gw_150 (by first | assumption | exact (s4 _ (by omega)).1 | exact s5 _ (by omega)) (by first | assumption | exact (s4 _ (by omega)).1 | exact s5 _ (by omega)) ?_
  refine jv_aload_n h dX3_push_4 rfl ?_
  refine jv_gv 1 h dX3_push_5 cf_3 (by decide) gw_151 (by first | assumption | exact (s4 _ (by omega)).1 | exact s5 _ (by omega)) (by first | assumption | exact (upd2_ne _ _ (by omega)).trans (by assumption) | exact (upd2_ne _ _ (by omega)).trans ((upd2_ne _ _ (by omega)).trans (by assumption))) ?_
  refine jv_aald h dX3_push_8 (by first | assumption | exact (s4 _ (by omega)).1 | exact s5 _ (by omega)) (by decide) (by repeat (with_reducible first | exact NF_nI _ | assumption | refine NF_add ?_ ?_ | refine NF_mul ?_ ?_)) ⟨by omega, by decide⟩ (by first | assumption | exact (s4 _ (by omega)).1 | exact s5 _ (by omega)) ?_
  refine jv_aload_n h dX3_push_9 rfl ?_
  refine jv_VGv [_] h dX3_push_10 cw_X3_25 cf_5 (by first | assumption | exact (s4 _ (by omega)).1 | exact s5 _ (by omega)) (c_stake (s4 nx r4) hB hRB hW (by omega)) (by decide) rfl rfl (Nat.le_of_ble_eq_true rfl) ⟨Nat.zero_le _, Nat.zero_le _⟩ (fun Mi10 Ml10 hp10 => ?_)
  obtain ⟨rfl, f1, f2⟩ := hp10
  have eA : Mi10 A = Mi A := f1 A (by omega)
  have r1' : Mi10 A 1 = nI nx := by rw [eA]; exact r1
  have r2' : Mi10 A 2 = nI u := by rw [eA]; exact r2
  refine jv_aload_n h dX3_push_13 rfl ?_
  refine jv_aload_n h dX3_push_14 rfl ?_
  refine jv_gv 1 h dX3_push_15 cf_3 (by decide) gw_151 (by first | assumption | exact (s4 _ (by omega)).1 | exact s5 _ (by omega)) (by first | assumption | exact (upd2_ne _ _ (by omega)).trans (by assumption) | exact (upd2_ne _ _ (by omega)).trans ((upd2_ne _ _ (by omega)).trans (by assumption))) ?_
  refine jv_iconst (nI 1) h dX3_push_18 (by decide) ?_
  first | refine jv_iaddN h dX3_push_19 (by repeat (with_reducible first | exact NF_nI _ | assumption | refine NF_add ?_ ?_ | refine NF_mul ?_ ?_)) (by repeat (with_reducible first | exact NF_nI _ | assumption | refine NF_add ?_ ?_ | refine NF_mul ?_ ?_)) ?_ | refine jv_iadd h dX3_push_19 ?_
  refine jv_bipush (nI 8) h dX3_push_20 (by decide) ?_
  refine jv_iremN h dX3_push_22 (by repeat (with_reducible first | exact NF_nI _ | assumption | refine NF_add ?_ ?_ | refine NF_mul ?_ ?_)) (by repeat (with_reducible first | exact NF_nI _ | assumption | refine NF_add ?_ ?_ | refine NF_mul ?_ ?_)) (by omega) ⟨by omega, by omega⟩ ?_
  refine jv_pi 1 h dX3_push_23 cf_3 (by decide) gw_151 (by first | assumption | exact (s4 _ (by omega)).1 | exact s5 _ (by omega)) rfl rfl rfl ?_
  refine jv_aload_n h dX3_push_26 rfl ?_
  refine jv_aload_n h dX3_push_27 rfl ?_
  refine jv_gv 2 h dX3_push_28 cf_3 (by decide) gw_152 (by first | assumption | exact (s4 _ (by omega)).1 | exact s5 _ (by omega)) (by first | assumption | exact (upd2_ne _ _ (by omega)).trans (by assumption) | exact (upd2_ne _ _ (by omega)).trans ((upd2_ne _ _ (by omega)).trans (by assumption))) ?_
  refine jv_iconst (nI 1) h dX3_push_31 (by decide) ?_
  first | refine jv_iaddN h dX3_push_32 (by repeat (with_reducible first | exact NF_nI _ | assumption | refine NF_add ?_ ?_ | refine NF_mul ?_ ?_)) (by repeat (with_reducible first | exact NF_nI _ | assumption | refine NF_add ?_ ?_ | refine NF_mul ?_ ?_)) ?_ | refine jv_iadd h dX3_push_32 ?_
  refine jv_bipush (nI 8) h dX3_push_33 (by decide) ?_
  refine jv_SRi [_, _] h dX3_push_35 cw_X3_29 (c_min (by repeat (with_reducible first | exact NF_nI _ | assumption | refine NF_add ?_ ?_ | refine NF_mul ?_ ?_)) (by repeat (with_reducible first | exact NF_nI _ | assumption | refine NF_add ?_ ?_ | refine NF_mul ?_ ?_)) (by omega) (by omega)) (by decide) rfl rfl (Nat.le_of_ble_eq_true rfl) ⟨Nat.zero_le _, Nat.zero_le _⟩ ?_
  refine jv_pi 2 h dX3_push_38 cf_3 (by decide) gw_152 (by first | assumption | exact (s4 _ (by omega)).1 | exact s5 _ (by omega)) rfl rfl rfl ?_
  exact jv_vret h hr dX3_push_41 ⟨rfl, rfl, rfl, Fr.tr (l := A) (h := A + 66) (Fr.tr (l := A) (h := A + 66) f1 (Fr.up (lo := A) (hi := A + 66) (by omega)) (by omega)) (Fr.up (lo := A) (hi := A + 66) (by omega)) (by omega), by
    have er : ∀ b, b ≠ A → upd2 (upd2 Mi10 A 1 (nI ((nx + 1) % 8))) A 2 (nI (min (u + 1) 8)) b = Mi10 b := fun b hb => by rw [upd2_row _ _ hb, upd2_row _ _ hb]
    refine ⟨by rw [upd2_ne _ _ (by omega), upd2_same], by rw [upd2_same], by omega, by omega, fun k hk => ?_, fun k hk => ?_⟩
    · unfold updR
      by_cases hkn : k = nx
      · rw [if_pos hkn, hkn]
        exact f2.fr hW.1 (fun a h1 h2 => er a (by omega))
      · rw [if_neg hkn]
        exact (r5 k hk).fr (r6 k hk).1 (fun a h1 h2 => by rw [er a (by omega)]; exact f1 a (by omega))
    · unfold updR
      split
      · exact hW
      · exact r6 k hk⟩
set_option maxHeartbeats 4000000 in
set_option maxRecDepth 100000 in
theorem c_pop {g : GT} {T : TT} {Mi : MI} {Ml : ML} {A B u nx : Nat} {R : Nat → Nat → Nat} (hA : HisS g T A) (hR9 : HisR Mi A R u nx) (hB : ScnS g T B) (h0 : 0 < u) (hne : A + 66 ≤ B ∨ B + 8 ≤ A) : Ct g yX3_pop cX3_pop 2 none 4 0 0 [.ref A, .ref B] T Mi Ml (Gv T (fun Mi' Ml' => Ml' = Ml ∧ (∀ a, a ≠ A → (a < B ∨ B + 8 ≤ a) → Mi' a = Mi a) ∧ HisR Mi' A R (u - 1) ((nx + 7) % 8) ∧ ScnR Mi' B (R ((nx + 7) % 8)))) := by
  refine Ct.of' (plainFor_of_name (by decide +kernel)) (by exact Nat.le_of_ble_eq_true rfl) ?_
  intro x hg hR h hr hnm hnl
  subst hg
  obtain ⟨s1, s2, s3, s4, s5⟩ := id hA
  obtain ⟨r1, r2, r3, r4, r5, r6⟩ := id hR9
  refine jv_aload_n h dX3_pop_0 rfl ?_
  refine jv_gv 2 h dX3_pop_1 cf_3 (by decide) gw_152 (by first | assumption | exact (s4 _ (by omega)).1 | exact s5 _ (by omega)) (by first | assumption | exact (upd2_same _ _ _ _) | exact (upd2_ne _ _ (by omega)).trans (by assumption) | exact (upd2_ne _ _ (by omega)).trans (upd2_same _ _ _ _)) ?_
  refine jv_if_le 46 h dX3_pop_4 (by decide) (fun c4 => ?_) (fun c4 => ?_)
  · exact absurd c4 (nI_nle h0 (by omega))
  · refine jv_aload_n h dX3_pop_7 rfl ?_
    refine jv_aload_n h dX3_pop_8 rfl ?_
    refine jv_gv 1 h dX3_pop_9 cf_3 (by decide) gw_151 (by first | assumption | exact (s4 _ (by omega)).1 | exact s5 _ (by omega)) (by first | assumption | exact (upd2_same _ _ _ _) | exact (upd2_ne _ _ (by omega)).trans (by assumption) | exact (upd2_ne _ _ (by omega)).trans (upd2_same _ _ _ _)) ?_
    refine jv_bipush (nI 8) h dX3_pop_12 (by decide) ?_
    first | refine jv_iaddN h dX3_pop_14 (by repeat (with_reducible first | exact NF_nI _ | assumption | refine NF_add ?_ ?_ | refine NF_mul ?_ ?_)) (by repeat (with_reducible first | exact NF_nI _ | assumption | refine NF_add ?_ ?_ | refine NF_mul ?_ ?_)) ?_ | refine jv_iadd h dX3_pop_14 ?_
    refine jv_iconst (nI 1) h dX3_pop_15 (by decide) ?_
    first | refine jv_isubN h dX3_pop_16 (by repeat (with_reducible first | exact NF_nI _ | assumption | refine NF_add ?_ ?_ | refine NF_mul ?_ ?_)) (by repeat (with_reducible first | exact NF_nI _ | assumption | refine NF_add ?_ ?_ | refine NF_mul ?_ ?_)) (by omega) ?_ | refine jv_isub h dX3_pop_16 ?_
    refine jv_bipush (nI 8) h dX3_pop_17 (by decide) ?_
    refine jv_iremN h dX3_pop_19 (by repeat (with_reducible first | exact NF_nI _ | assumption | refine NF_add ?_ ?_ | refine NF_mul ?_ ?_)) (by repeat (with_reducible first | exact NF_nI _ | assumption | refine NF_add ?_ ?_ | refine NF_mul ?_ ?_)) (by omega) ⟨by omega, by omega⟩ ?_
    refine jv_pi 1 h dX3_pop_20 cf_3 (by decide) gw_151 (by first | assumption | exact (s4 _ (by omega)).1 | exact s5 _ (by omega)) rfl rfl rfl ?_
    refine jv_aload_n h dX3_pop_23 rfl ?_
    refine jv_dup h dX3_pop_24 rfl ?_
    refine jv_gv 2 h dX3_pop_25 cf_3 (by decide) gw_152 (by first | assumption | exact (s4 _ (by omega)).1 | exact s5 _ (by omega)) (by first | assumption | exact (upd2_same _ _ _ _) | exact (upd2_ne _ _ (by omega)).trans (by assumption) | exact (upd2_ne _ _ (by omega)).trans (upd2_same _ _ _ _)) ?_
    refine jv_iconst (nI 1) h dX3_pop_28 (by decide) ?_
    first | refine jv_isubN h dX3_pop_29 (by repeat (with_reducible first | exact NF_nI _ | assumption | refine NF_add ?_ ?_ | refine NF_mul ?_ ?_)) (by repeat (with_reducible first | exact NF_nI _ | assumption | refine NF_add ?_ ?_ | refine NF_mul ?_ ?_)) (by omega) ?_ | refine jv_isub h dX3_pop_29 ?_
    refine jv_pi 2 h dX3_pop_30 cf_3 (by decide) gw_152 (by first | assumption | exact (s4 _ (by omega)).1 | exact s5 _ (by omega)) rfl rfl rfl ?_
    refine jv_aload_n h dX3_pop_33 rfl ?_
    refine jv_aload_n h dX3_pop_34 rfl ?_
    refine jv_gr 0 h dX3_pop_35 cf_3 (by decide) gw_150 (by first | assumption | exact (s4 _ (by omega)).1 | exact s5 _ (by omega)) (by first | assumption | exact (s4 _ (by omega)).1 | exact s5 _ (by omega)) ?_
    refine jv_aload_n h dX3_pop_38 rfl ?_
    refine jv_gv 1 h dX3_pop_39 cf_3 (by decide) gw_151 (by first | assumption | exact (s4 _ (by omega)).1 | exact s5 _ (by omega)) (by first | assumption | exact (upd2_same _ _ _ _) | exact (upd2_ne _ _ (by omega)).trans (by assumption) | exact (upd2_ne _ _ (by omega)).trans (upd2_same _ _ _ _)) ?_
    refine jv_aald h dX3_pop_42 (by first | assumption | exact (s4 _ (by omega)).1 | exact s5 _ (by omega)) (by decide) (by repeat (with_reducible first | exact NF_nI _ | assumption | refine NF_add ?_ ?_ | refine NF_mul ?_ ?_)) ⟨by omega, by decide⟩ (by first | assumption | exact (s4 _ (by omega)).1 | exact s5 _ (by omega)) ?_
    have e87 : (nx + 8 - 1) % 8 = (nx + 7) % 8 := by omega
    rw [e87]
    have er : ∀ b, b ≠ A → upd2 (upd2 Mi A 1 (nI ((nx + 7) % 8))) A 2 (nI (u - 1)) b = Mi b := fun b hb => by rw [upd2_row _ _ hb, upd2_row _ _ hb]
    have hsc : ScnR (upd2 (upd2 Mi A 1 (nI ((nx + 7) % 8))) A 2 (nI (u - 1))) (A + 2 + 8 * ((nx + 7) % 8)) (R ((nx + 7) % 8)) := (r5 _ (by omega)).fr (r6 _ (by omega)).1 (fun a h1 h2 => er a (by omega))
    refine jv_VGv [_] h dX3_pop_43 cw_X3_25 cf_5 (by exact hB.1) (c_stake hB (s4 _ (by omega)) hsc (r6 _ (by omega)) (by omega)) (by decide) rfl rfl (Nat.le_of_ble_eq_true rfl) ⟨Nat.zero_le _, Nat.zero_le _⟩ (fun Mi43 Ml43 hp43 => ?_)
    exact jv_vret h hr dX3_pop_46 ⟨rfl, rfl, by
    obtain ⟨rfl, f1, f2⟩ := hp43
    refine ⟨rfl, fun a h1 h2 => by rw [f1 a h2, er a h1], ⟨by rw [f1 A (by omega), upd2_ne _ _ (by omega), upd2_same], by rw [f1 A (by omega), upd2_same], by omega, by omega, fun k hk => (r5 k hk).fr (r6 k hk).1 (fun a h1 h2 => by rw [f1 a (by omega), er a (by omega)]), r6⟩, f2⟩⟩
set_option maxHeartbeats 4000000 in
set_option maxRecDepth 100000 in
theorem c_htake {g : GT} {T : TT} {Mi : MI} {Ml : ML} {A B u nx : Nat} {R : Nat → Nat → Nat} (hA : HisS g T A) (hB : HisS g T B) (hR9 : HisR Mi B R u nx) (hne : A + 66 ≤ B ∨ B + 66 ≤ A) : Ct g yX3_take cX3_take 3 none 4 0 0 [.ref A, .ref B] T Mi Ml (Gv T (fun Mi' Ml' => Ml' = Ml ∧ Fr Mi Mi' A (A + 66) ∧ HisR Mi' A R u nx)) := by
  refine Ct.of' (plainFor_of_name (by decide +kernel)) (by exact Nat.le_of_ble_eq_true rfl) ?_
  intro x hg hR h hr hnm hnl
  subst hg
  obtain ⟨s1, s2, s3, s4, s5⟩ := id hA
  obtain ⟨t1, t2, t3, t4, t5⟩ := id hB
  obtain ⟨r1, r2, r3, r4, r5, r6⟩ := id hR9
  refine jv_aload_n h dX3_take_0 rfl ?_
  refine jv_aload_n h dX3_take_1 rfl ?_
  refine jv_gv 1 h dX3_take_2 cf_3 (by decide) gw_151 (by first | assumption | exact (s4 _ (by omega)).1 | exact s5 _ (by omega) | exact (t4 _ (by omega)).1 | exact t5 _ (by omega)) (by first | assumption | exact (upd2_ne _ _ (by omega)).trans (by assumption) | exact (upd2_ne _ _ (by omega)).trans ((upd2_ne _ _ (by omega)).trans (by assumption))) ?_
  refine jv_pi 1 h dX3_take_5 cf_3 (by decide) gw_151 (by first | assumption | exact (s4 _ (by omega)).1 | exact s5 _ (by omega) | exact (t4 _ (by omega)).1 | exact t5 _ (by omega)) rfl rfl rfl ?_
  refine jv_aload_n h dX3_take_8 rfl ?_
  refine jv_aload_n h dX3_take_9 rfl ?_
  refine jv_gv 2 h dX3_take_10 cf_3 (by decide) gw_152 (by first | assumption | exact (s4 _ (by omega)).1 | exact s5 _ (by omega) | exact (t4 _ (by omega)).1 | exact t5 _ (by omega)) (by first | assumption | exact (upd2_ne _ _ (by omega)).trans (by assumption) | exact (upd2_ne _ _ (by omega)).trans ((upd2_ne _ _ (by omega)).trans (by assumption))) ?_
  refine jv_pi 2 h dX3_take_13 cf_3 (by decide) gw_152 (by first | assumption | exact (s4 _ (by omega)).1 | exact s5 _ (by omega) | exact (t4 _ (by omega)).1 | exact t5 _ (by omega)) rfl rfl rfl ?_
  refine jv_iconst (nI 0) h dX3_take_16 (by decide) ?_
  refine jv_istore_n h dX3_take_17 (lt_nl hnl (by decide)) ?_
  have hl18 : ∀ (n : Nat) (i : Nat) (M1 : MI), 8 - i < n → i ≤ 8 → Fr Mi M1 A (A + 66) → M1 A 1 = nI nx → M1 A 2 = nI u → (∀ k, k < i → ScnR M1 (A + 2 + 8 * k) (R k)) → V x 0 0 T M1 Ml 18 [some (.ref A), some (.ref B), some (.int (nI i))] [] := by
    intro n
    induction n with
    | zero => intro i M1 hN9 hi f1 f2 f3 f4; exact absurd hN9 (by omega)
    | succ n ih =>
      intro i M1 hN9 hi f1 f2 f3 f4
      refine jv_iload_n h dX3_take_18 rfl ?_
      refine jv_bipush (nI 8) h dX3_take_19 (by decide) ?_
      refine jv_nge 45 h dX3_take_21 (by decide) (by repeat (with_reducible first | exact NF_nI _ | assumption | refine NF_add ?_ ?_ | refine NF_mul ?_ ?_)) (by repeat (with_reducible first | exact NF_nI _ | assumption | refine NF_add ?_ ?_ | refine NF_mul ?_ ?_)) ⟨by omega, by omega⟩ (fun c21 => ?_) (fun c21 => ?_)
      · exact jv_vret h hr dX3_take_45 ⟨rfl, rfl, rfl, f1, f2, f3, r3, r4, fun k hk => f4 k (by omega), r6⟩
      · have hsc : ScnR M1 (B + 2 + 8 * i) (R i) := (r5 i (by omega)).fr (r6 i (by omega)).1 (fun a h1 h2 => f1 a (by omega))
        refine jv_aload_n h dX3_take_24 rfl ?_
        refine jv_gr 0 h dX3_take_25 cf_3 (by decide) gw_150 (by first | assumption | exact (s4 _ (by omega)).1 | exact s5 _ (by omega) | exact (t4 _ (by omega)).1 | exact t5 _ (by omega)) (by first | assumption | exact (s4 _ (by omega)).1 | exact s5 _ (by omega) | exact (t4 _ (by omega)).1 | exact t5 _ (by omega)) ?_
        refine jv_iload_n h dX3_take_28 rfl ?_
        refine jv_aald h dX3_take_29 (by first | assumption | exact (s4 _ (by omega)).1 | exact s5 _ (by omega) | exact (t4 _ (by omega)).1 | exact t5 _ (by omega)) (by decide) (by repeat (with_reducible first | exact NF_nI _ | assumption | refine NF_add ?_ ?_ | refine NF_mul ?_ ?_)) ⟨by omega, by decide⟩ (by first | assumption | exact (s4 _ (by omega)).1 | exact s5 _ (by omega) | exact (t4 _ (by omega)).1 | exact t5 _ (by omega)) ?_
        refine jv_aload_n h dX3_take_30 rfl ?_
        refine jv_gr 0 h dX3_take_31 cf_3 (by decide) gw_150 (by first | assumption | exact (s4 _ (by omega)).1 | exact s5 _ (by omega) | exact (t4 _ (by omega)).1 | exact t5 _ (by omega)) (by first | assumption | exact (s4 _ (by omega)).1 | exact s5 _ (by omega) | exact (t4 _ (by omega)).1 | exact t5 _ (by omega)) ?_
        refine jv_iload_n h dX3_take_34 rfl ?_
        refine jv_aald h dX3_take_35 (by first | assumption | exact (s4 _ (by omega)).1 | exact s5 _ (by omega) | exact (t4 _ (by omega)).1 | exact t5 _ (by omega)) (by decide) (by repeat (with_reducible first | exact NF_nI _ | assumption | refine NF_add ?_ ?_ | refine NF_mul ?_ ?_)) ⟨by omega, by decide⟩ (by first | assumption | exact (s4 _ (by omega)).1 | exact s5 _ (by omega) | exact (t4 _ (by omega)).1 | exact t5 _ (by omega)) ?_
        refine jv_VGv [_] h dX3_take_36 cw_X3_25 cf_5 (by first | assumption | exact (s4 _ (by omega)).1 | exact s5 _ (by omega) | exact (t4 _ (by omega)).1 | exact t5 _ (by omega)) (c_stake (s4 i (by omega)) (t4 i (by omega)) hsc (r6 i (by omega)) (by omega)) (by decide) rfl rfl (Nat.le_of_ble_eq_true rfl) ⟨Nat.zero_le _, Nat.zero_le _⟩ (fun Mi36 Ml36 hp36 => ?_)
        refine jv_iinc (nI (i + 1)) h dX3_take_39 rfl (lt_nl hnl (by decide)) (nI_inc i) ?_
        refine jv_goto 18 h dX3_take_42 (by decide) ?_
        obtain ⟨rfl, g1, g2⟩ := hp36
        exact ih (i + 1) _ (by omega) (by omega) (f1.tr g1 (by omega)) (by rw [g1 A (by omega)]; exact f2) (by rw [g1 A (by omega)]; exact f3) (fun k hk => by
          by_cases hki : k = i
          · subst hki; exact g2
          · exact (f4 k (by omega)).fr (r6 k (by omega)).1 (fun a h1 h2 => g1 a (by omega)))
  exact hl18 9 0 _ (by omega) (by omega) (Fr.tr (l := A) (h := A + 66) (Fr.up (lo := A) (hi := A + 66) (by omega)) (Fr.up (lo := A) (hi := A + 66) (by omega)) (by omega)) (by rw [upd2_ne _ _ (by omega), upd2_same]) (by rw [upd2_same]) (fun p hp => absurd hp (by omega))
