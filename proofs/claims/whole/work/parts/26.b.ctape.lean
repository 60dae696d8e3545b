set_option maxHeartbeats 4000000 in
set_option maxRecDepth 100000 in
theorem c_tadd {g : GT} {T : TT} {Mi : MI} {Ml : ML} {Z ln p : Nat} {t : Nat → Nat} (hZ : TapS g T Z) (hR9 : TapR Mi Z t ln p) (hA : TA t ln) (hp : p ≤ ln) {v : Int32} {c : Nat} (hv : NF v c) : Ct g yX8_add cX8_add 2 (some .boolean) 1 0 0 [.ref Z, .int v] T Mi Ml (Gi T (fun rv Mi' Ml' => rv = bI (decide (ln < 60)) ∧ Ml' = Ml ∧ (∀ a, a ≠ Z → a ≠ Z + 1 → Mi' a = Mi a) ∧ (∀ q, q ≠ 1 → Mi' Z q = Mi Z q) ∧ (¬ ln < 60 → Mi' = Mi) ∧ (ln < 60 → Mi' Z 1 = nI (ln + 1) ∧ ∀ k, k < ln + 1 → Mi' (Z + 1) k = nI (if k = ln then c else t k)))) := by
  refine Ct.of' (plainFor_of_name (by decide +kernel)) (by exact Nat.le_of_ble_eq_true rfl) ?_
  intro x hg hR h hr hnm hnl
  subst hg
  obtain ⟨z1, z2, z3⟩ := id hZ
  obtain ⟨r1, r2, r3⟩ := id hR9
  obtain ⟨a1, a2⟩ := id hA
  refine jv_aload_n h dX8_add_0 rfl ?_
  refine jv_gv 1 h dX8_add_1 cf_7 (by decide) gw_183 (by assumption) (by assumption) ?_
  refine jv_bipush (nI 60) h dX8_add_4 (by decide) ?_
  refine jv_nlt 11 h dX8_add_6 (by decide) (by repeat (with_reducible first | exact NF_nI _ | assumption | refine NF_add ?_ ?_ | refine NF_mul ?_ ?_)) (by repeat (with_reducible first | exact NF_nI _ | assumption | refine NF_add ?_ ?_ | refine NF_mul ?_ ?_)) ⟨by omega, by omega⟩ (fun c6 => ?_) (fun c6 => ?_)
  · refine jv_aload_n h dX8_add_11 rfl ?_
    refine jv_gr 0 h dX8_add_12 cf_7 (by decide) gw_182 (by assumption) (by assumption) ?_
    refine jv_aload_n h dX8_add_15 rfl ?_
    refine jv_gv 1 h dX8_add_16 cf_7 (by decide) gw_183 (by assumption) (by assumption) ?_
    refine jv_iload_n h dX8_add_19 rfl ?_
    refine jv_iast h dX8_add_20 (by assumption) (by repeat (with_reducible first | exact NF_nI _ | assumption | refine NF_add ?_ ?_ | refine NF_mul ?_ ?_)) ⟨by omega, by decide⟩ ?_
    refine jv_aload_n h dX8_add_21 rfl ?_
    refine jv_dup h dX8_add_22 rfl ?_
    refine jv_gv 1 h dX8_add_23 cf_7 (by decide) gw_183 (by assumption) (by exact (congrFun (upd2_row _ _ (show Z ≠ Z + 1 by omega)) 1).trans r1) ?_
    refine jv_iconst (nI 1) h dX8_add_26 (by decide) ?_
    first | refine jv_iaddN h dX8_add_27 (by repeat (with_reducible first | exact NF_nI _ | assumption | refine NF_add ?_ ?_ | refine NF_mul ?_ ?_)) (by repeat (with_reducible first | exact NF_nI _ | assumption | refine NF_add ?_ ?_ | refine NF_mul ?_ ?_)) ?_ | refine jv_iadd h dX8_add_27 ?_
    refine jv_pi 1 h dX8_add_28 cf_7 (by decide) gw_183 (by assumption) rfl rfl rfl ?_
    refine jv_iconst (nI 1) h dX8_add_31 (by decide) ?_
    exact jv_zret h hr dX8_add_32 rfl ⟨_, rfl, rfl, by rw [decide_eq_true (by omega)]; rfl, rfl, fun a h1 h2 => by rw [upd2_row _ _ h1, upd2_row _ _ h2], fun q hq => by rw [upd2_ne _ _ (by omega), upd2_row _ _ (by omega)], fun z => absurd (show ln < 60 by omega) z, fun _ => ⟨upd2_same _ _ _ _, fun k hk => by
    rw [upd2_row _ _ (by omega)]
    by_cases hkl : k = ln
    · rw [if_pos hkl, hkl, upd2_same]; exact hv
    · rw [if_neg hkl, upd2_ne _ _ (by omega)]; exact r3 k (by omega)⟩⟩
  · refine jv_iconst (nI 0) h dX8_add_9 (by decide) ?_
    exact jv_zret h hr dX8_add_10 rfl ⟨_, rfl, rfl, by rw [decide_eq_false (by omega)]; rfl, rfl, fun _ _ _ => rfl, fun _ _ => rfl, fun _ => rfl, fun z => absurd z (by omega)⟩
set_option maxHeartbeats 4000000 in
set_option maxRecDepth 100000 in
theorem c_tclear {g : GT} {T : TT} {Mi : MI} {Ml : ML} {Z : Nat} (hZ : TapS g T Z) : Ct g yX8_clear cX8_clear 1 none 1 0 0 [.ref Z] T Mi Ml (Gv T (fun Mi' Ml' => Ml' = Ml ∧ Mi' = upd2 (upd2 Mi Z 1 (nI 0)) Z 2 (nI 0))) := by
  refine Ct.of' (plainFor_of_name (by decide +kernel)) (by exact Nat.le_of_ble_eq_true rfl) ?_
  intro x hg hR h hr hnm hnl
  subst hg
  obtain ⟨z1, z2, z3⟩ := id hZ
  refine jv_aload_n h dX8_clear_0 rfl ?_
  refine jv_iconst (nI 0) h dX8_clear_1 (by decide) ?_
  refine jv_pi 1 h dX8_clear_2 cf_7 (by decide) gw_183 (by assumption) rfl rfl rfl ?_
  refine jv_aload_n h dX8_clear_5 rfl ?_
  refine jv_iconst (nI 0) h dX8_clear_6 (by decide) ?_
  refine jv_pi 2 h dX8_clear_7 cf_7 (by decide) gw_185 (by assumption) rfl rfl rfl ?_
  exact jv_vret h hr dX8_clear_10 ⟨rfl, rfl, rfl, rfl⟩
set_option maxHeartbeats 4000000 in
set_option maxRecDepth 100000 in
theorem c_ends {g : GT} {T : TT} {Mi : MI} {Ml : ML} {Z ln p : Nat} {t : Nat → Nat} (hZ : TapS g T Z) (hR9 : TapR Mi Z t ln p) (hA : TA t ln) (hp : p ≤ ln)  : Ct g yX8_ends cX8_ends 1 (some .boolean) 1 0 0 [.ref Z] T Mi Ml (Gi T (fun rv Mi' Ml' => rv = bI (decide (ln ≤ sk t ln p)) ∧ Ml' = Ml ∧ TapF Mi Mi' Z ∧ Mi' Z 2 = nI (sk t ln p))) := by
  refine Ct.of' (plainFor_of_name (by decide +kernel)) (by exact Nat.le_of_ble_eq_true rfl) ?_
  intro x hg hR h hr hnm hnl
  subst hg
  obtain ⟨z1, z2, z3⟩ := id hZ
  obtain ⟨r1, r2, r3⟩ := id hR9
  obtain ⟨a1, a2⟩ := id hA
  have hl0 : ∀ (n : Nat) (p1 : Nat) (M1 : MI), ln - p1 < n → p1 ≤ ln → sk t ln p1 = sk t ln p → TapF Mi M1 Z → M1 Z 2 = nI p1 → V x 0 0 T M1 Ml 0 [some (.ref Z)] [] := by
    intro n
    induction n with
    | zero => intro p1 M1 hN9 hp1 f1 f2 f3; exact absurd hN9 (by omega)
    | succ n ih =>
      intro p1 M1 hN9 hp1 f1 f2 f3
      have f4 : M1 Z 1 = nI ln := by rw [f2.2 1 (by decide)]; exact r1
      have f5 : p1 < ln → M1 (Z + 1) p1 = nI (t p1) := fun h => by rw [f2.1 _ (by omega)]; exact r3 _ h
      refine jv_aload_n h dX8_ends_0 rfl ?_
      refine jv_gv 2 h dX8_ends_1 cf_7 (by decide) gw_185 (by assumption) (by assumption) ?_
      refine jv_aload_n h dX8_ends_4 rfl ?_
      refine jv_gv 1 h dX8_ends_5 cf_7 (by decide) gw_183 (by assumption) (by assumption) ?_
      refine jv_nge 38 h dX8_ends_8 (by decide) (by repeat (with_reducible first | exact NF_nI _ | assumption | refine NF_add ?_ ?_ | refine NF_mul ?_ ?_)) (by repeat (with_reducible first | exact NF_nI _ | assumption | refine NF_add ?_ ?_ | refine NF_mul ?_ ?_)) ⟨by omega, by omega⟩ (fun c8 => ?_) (fun c8 => ?_)
      · refine jv_aload_n h dX8_ends_38 rfl ?_
        refine jv_gv 2 h dX8_ends_39 cf_7 (by decide) gw_185 (by assumption) (by assumption) ?_
        refine jv_aload_n h dX8_ends_42 rfl ?_
        refine jv_gv 1 h dX8_ends_43 cf_7 (by decide) gw_183 (by assumption) (by assumption) ?_
        refine jv_nlt 53 h dX8_ends_46 (by decide) (by repeat (with_reducible first | exact NF_nI _ | assumption | refine NF_add ?_ ?_ | refine NF_mul ?_ ?_)) (by repeat (with_reducible first | exact NF_nI _ | assumption | refine NF_add ?_ ?_ | refine NF_mul ?_ ?_)) ⟨by omega, by omega⟩ (fun c46 => ?_) (fun c46 => ?_)
        · refine jv_iconst (nI 0) h dX8_ends_53 (by decide) ?_
          exact jv_zret h hr dX8_ends_54 rfl ⟨_, rfl, rfl, by
    have e : sk t ln p1 = p1 := (by first | exact sk_e (by assumption) | exact sk_n (by assumption) (by assumption))
    rw [← f1, e]
    first | (rw [decide_eq_true (by omega)]; rfl) | (rw [decide_eq_false (by omega)]; rfl), rfl, f2, by
    have e : sk t ln p1 = p1 := (by first | exact sk_e (by assumption) | exact sk_n (by assumption) (by assumption))
    rw [← f1, e]; exact f3⟩
        · refine jv_iconst (nI 1) h dX8_ends_49 (by decide) ?_
          refine jv_goto 54 h dX8_ends_50 (by decide) ?_
          exact jv_zret h hr dX8_ends_54 rfl ⟨_, rfl, rfl, by
    have e : sk t ln p1 = p1 := (by first | exact sk_e (by assumption) | exact sk_n (by assumption) (by assumption))
    rw [← f1, e]
    first | (rw [decide_eq_true (by omega)]; rfl) | (rw [decide_eq_false (by omega)]; rfl), rfl, f2, by
    have e : sk t ln p1 = p1 := (by first | exact sk_e (by assumption) | exact sk_n (by assumption) (by assumption))
    rw [← f1, e]; exact f3⟩
      · have f6 := f5 (by omega)
        have a3 := a2 p1 (by omega)
        refine jv_aload_n h dX8_ends_11 rfl ?_
        refine jv_gr 0 h dX8_ends_12 cf_7 (by decide) gw_182 (by assumption) (by assumption) ?_
        refine jv_aload_n h dX8_ends_15 rfl ?_
        refine jv_gv 2 h dX8_ends_16 cf_7 (by decide) gw_185 (by assumption) (by assumption) ?_
        refine jv_iav h dX8_ends_19 (by assumption) (by repeat (with_reducible first | exact NF_nI _ | assumption | refine NF_add ?_ ?_ | refine NF_mul ?_ ?_)) ⟨by omega, by decide⟩ (by assumption) ?_
        refine jv_bipush (nI 32) h dX8_ends_20 (by decide) ?_
        refine jv_nne 38 h dX8_ends_22 (by decide) (by repeat (with_reducible first | exact NF_nI _ | assumption | refine NF_add ?_ ?_ | refine NF_mul ?_ ?_)) (by repeat (with_reducible first | exact NF_nI _ | assumption | refine NF_add ?_ ?_ | refine NF_mul ?_ ?_)) ⟨by omega, by omega⟩ (fun c22 => ?_) (fun c22 => ?_)
        · refine jv_aload_n h dX8_ends_38 rfl ?_
          refine jv_gv 2 h dX8_ends_39 cf_7 (by decide) gw_185 (by assumption) (by assumption) ?_
          refine jv_aload_n h dX8_ends_42 rfl ?_
          refine jv_gv 1 h dX8_ends_43 cf_7 (by decide) gw_183 (by assumption) (by assumption) ?_
          refine jv_nlt 53 h dX8_ends_46 (by decide) (by repeat (with_reducible first | exact NF_nI _ | assumption | refine NF_add ?_ ?_ | refine NF_mul ?_ ?_)) (by repeat (with_reducible first | exact NF_nI _ | assumption | refine NF_add ?_ ?_ | refine NF_mul ?_ ?_)) ⟨by omega, by omega⟩ (fun c46 => ?_) (fun c46 => ?_)
          · refine jv_iconst (nI 0) h dX8_ends_53 (by decide) ?_
            exact jv_zret h hr dX8_ends_54 rfl ⟨_, rfl, rfl, by
    have e : sk t ln p1 = p1 := (by first | exact sk_e (by assumption) | exact sk_n (by assumption) (by assumption))
    rw [← f1, e]
    first | (rw [decide_eq_true (by omega)]; rfl) | (rw [decide_eq_false (by omega)]; rfl), rfl, f2, by
    have e : sk t ln p1 = p1 := (by first | exact sk_e (by assumption) | exact sk_n (by assumption) (by assumption))
    rw [← f1, e]; exact f3⟩
          · refine jv_iconst (nI 1) h dX8_ends_49 (by decide) ?_
            refine jv_goto 54 h dX8_ends_50 (by decide) ?_
            exact jv_zret h hr dX8_ends_54 rfl ⟨_, rfl, rfl, by
    have e : sk t ln p1 = p1 := (by first | exact sk_e (by assumption) | exact sk_n (by assumption) (by assumption))
    rw [← f1, e]
    first | (rw [decide_eq_true (by omega)]; rfl) | (rw [decide_eq_false (by omega)]; rfl), rfl, f2, by
    have e : sk t ln p1 = p1 := (by first | exact sk_e (by assumption) | exact sk_n (by assumption) (by assumption))
    rw [← f1, e]; exact f3⟩
        · refine jv_aload_n h dX8_ends_25 rfl ?_
          refine jv_dup h dX8_ends_26 rfl ?_
          refine jv_gv 2 h dX8_ends_27 cf_7 (by decide) gw_185 (by assumption) (by assumption) ?_
          refine jv_iconst (nI 1) h dX8_ends_30 (by decide) ?_
          first | refine jv_iaddN h dX8_ends_31 (by repeat (with_reducible first | exact NF_nI _ | assumption | refine NF_add ?_ ?_ | refine NF_mul ?_ ?_)) (by repeat (with_reducible first | exact NF_nI _ | assumption | refine NF_add ?_ ?_ | refine NF_mul ?_ ?_)) ?_ | refine jv_iadd h dX8_ends_31 ?_
          refine jv_pi 2 h dX8_ends_32 cf_7 (by decide) gw_185 (by assumption) rfl rfl rfl ?_
          refine jv_goto 0 h dX8_ends_35 (by decide) ?_
          exact ih (p1 + 1) _ (by omega) (by omega) (by rw [← f1, sk_b c8 c22]) f2.put (upd2_same _ _ _ _)
  exact hl0 (ln + 1) p _ (by omega) hp rfl (TapF.rf _ _) r2
set_option maxHeartbeats 4000000 in
set_option maxRecDepth 100000 in
theorem c_takes {g : GT} {T : TT} {Mi : MI} {Ml : ML} {Z ln p : Nat} {t : Nat → Nat} (hZ : TapS g T Z) (hR9 : TapR Mi Z t ln p) (hA : TA t ln) (hp : p ≤ ln) {v : Int32} {c : Nat} (hv : NF v c) (hc : c < 1000) : Ct g yX8_takes cX8_takes 2 (some .boolean) 2 0 0 [.ref Z, .int v] T Mi Ml (Gi T (fun rv Mi' Ml' => rv = bI (tkB t ln c p) ∧ Ml' = Ml ∧ TapF Mi Mi' Z ∧ Mi' Z 2 = nI (poB t ln p (tkB t ln c p)))) := by
  refine Ct.of' (plainFor_of_name (by decide +kernel)) (by exact Nat.le_of_ble_eq_true rfl) ?_
  intro x hg hR h hr hnm hnl
  subst hg
  obtain ⟨z1, z2, z3⟩ := id hZ
  obtain ⟨r1, r2, r3⟩ := id hR9
  obtain ⟨a1, a2⟩ := id hA
  refine jv_aload_n h dX8_takes_0 rfl ?_
  refine jv_VGi [] h dX8_takes_1 cw_X8_22 cf_7 (by assumption) (c_ends hZ hR9 hA hp) (by decide) rfl rfl (Nat.le_of_ble_eq_true rfl) ⟨Nat.zero_le _, Nat.zero_le _⟩ (fun v_1 Mi1 Ml1 hp1 => ?_)
  have hm9 := hp1.2.1
  subst Ml1
  obtain ⟨e1, -, e2, e3⟩ := hp1
  subst v_1
  obtain ⟨s1, s2, s3⟩ := sk_c (t := t) hp
  have e4 : sk t ln p < ln → Mi1 (Z + 1) (sk t ln p) = nI (t (sk t ln p)) := fun h => by rw [e2.1 _ (by omega)]; exact r3 _ h
  refine jv_bne 20 h dX8_takes_4 (by decide) (fun c4 => ?_) (fun c4 => ?_)
  · have c4b := of_decide_eq_true c4
    refine jv_iconst (nI 0) h dX8_takes_20 (by decide) ?_
    exact jv_zret h hr dX8_takes_21 rfl ⟨_, rfl, rfl, by
    have e : tkB t ln c p = false := (by unfold tkB; rw [decide_eq_false_iff_not]; omega)
    rw [e]
    exact ⟨rfl, rfl, e2, e3⟩⟩
  · have c4b := of_decide_eq_false c4
    have e5 := e4 (by omega)
    have a3 := a2 (sk t ln p) (by omega)
    refine jv_aload_n h dX8_takes_7 rfl ?_
    refine jv_gr 0 h dX8_takes_8 cf_7 (by decide) gw_182 (by assumption) (by assumption) ?_
    refine jv_aload_n h dX8_takes_11 rfl ?_
    refine jv_gv 2 h dX8_takes_12 cf_7 (by decide) gw_185 (by assumption) (by assumption) ?_
    refine jv_iav h dX8_takes_15 (by assumption) (by repeat (with_reducible first | exact NF_nI _ | assumption | refine NF_add ?_ ?_ | refine NF_mul ?_ ?_)) ⟨by omega, by decide⟩ (by assumption) ?_
    refine jv_iload_n h dX8_takes_16 rfl ?_
    refine jv_neq 22 h dX8_takes_17 (by decide) (by repeat (with_reducible first | exact NF_nI _ | assumption | refine NF_add ?_ ?_ | refine NF_mul ?_ ?_)) (by repeat (with_reducible first | exact NF_nI _ | assumption | refine NF_add ?_ ?_ | refine NF_mul ?_ ?_)) ⟨by omega, by omega⟩ (fun c17 => ?_) (fun c17 => ?_)
    · refine jv_aload_n h dX8_takes_22 rfl ?_
      refine jv_dup h dX8_takes_23 rfl ?_
      refine jv_gv 2 h dX8_takes_24 cf_7 (by decide) gw_185 (by assumption) (by assumption) ?_
      refine jv_iconst (nI 1) h dX8_takes_27 (by decide) ?_
      first | refine jv_iaddN h dX8_takes_28 (by repeat (with_reducible first | exact NF_nI _ | assumption | refine NF_add ?_ ?_ | refine NF_mul ?_ ?_)) (by repeat (with_reducible first | exact NF_nI _ | assumption | refine NF_add ?_ ?_ | refine NF_mul ?_ ?_)) ?_ | refine jv_iadd h dX8_takes_28 ?_
      refine jv_pi 2 h dX8_takes_29 cf_7 (by decide) gw_185 (by assumption) rfl rfl rfl ?_
      refine jv_iconst (nI 1) h dX8_takes_32 (by decide) ?_
      exact jv_zret h hr dX8_takes_33 rfl ⟨_, rfl, rfl, by
    have e : tkB t ln c p = true := (by unfold tkB; rw [decide_eq_true_iff]; omega)
    rw [e]
    exact ⟨rfl, rfl, e2.put, upd2_same _ _ _ _⟩⟩
    · refine jv_iconst (nI 0) h dX8_takes_20 (by decide) ?_
      exact jv_zret h hr dX8_takes_21 rfl ⟨_, rfl, rfl, by
    have e : tkB t ln c p = false := (by unfold tkB; rw [decide_eq_false_iff_not]; omega)
    rw [e]
    exact ⟨rfl, rfl, e2, e3⟩⟩
set_option maxHeartbeats 4000000 in
set_option maxRecDepth 100000 in
theorem c_takeDigit {g : GT} {T : TT} {Mi : MI} {Ml : ML} {Z ln p : Nat} {t : Nat → Nat} (hZ : TapS g T Z) (hR9 : TapR Mi Z t ln p) (hA : TA t ln) (hp : p ≤ ln) {v w : Int32} {lo hi : Nat} (hv : v.toInt = (lo : Int)) (hw : w.toInt + 1 = (hi : Int)) : Ct g yX8_takeDigit cX8_takeDigit 3 (some .int) 2 0 0 [.ref Z, .int v, .int w] T Mi Ml (Gi T (fun rv Mi' Ml' => rv = (if dgB t ln lo hi p = true then nI (dgV t ln p) else -4) ∧ Ml' = Ml ∧ TapF Mi Mi' Z ∧ Mi' Z 2 = nI (poB t ln p (dgB t ln lo hi p)))) := by
  refine Ct.of' (plainFor_of_name (by decide +kernel)) (by exact Nat.le_of_ble_eq_true rfl) ?_
  intro x hg hR h hr hnm hnl
  subst hg
  obtain ⟨z1, z2, z3⟩ := id hZ
  obtain ⟨r1, r2, r3⟩ := id hR9
  obtain ⟨a1, a2⟩ := id hA
  refine jv_aload_n h dX8_takeDigit_0 rfl ?_
  refine jv_VGi [] h dX8_takeDigit_1 cw_X8_22 cf_7 (by assumption) (c_ends hZ hR9 hA hp) (by decide) rfl rfl (Nat.le_of_ble_eq_true rfl) ⟨Nat.zero_le _, Nat.zero_le _⟩ (fun v_1 Mi1 Ml1 hp1 => ?_)
  have hm9 := hp1.2.1
  subst Ml1
  obtain ⟨e1, -, e2, e3⟩ := hp1
  subst v_1
  obtain ⟨s1, s2, s3⟩ := sk_c (t := t) hp
  have e4 : sk t ln p < ln → Mi1 (Z + 1) (sk t ln p) = nI (t (sk t ln p)) := fun h => by rw [e2.1 _ (by omega)]; exact r3 _ h
  refine jv_bne 27 h dX8_takeDigit_4 (by decide) (fun c4 => ?_) (fun c4 => ?_)
  · have c4b := of_decide_eq_true c4
    refine jv_bipush (-4) h dX8_takeDigit_27 (by decide) ?_
    exact jv_iret h hr dX8_takeDigit_29 ⟨_, rfl, rfl, by
    have e : dgB t ln lo hi p = false := (by unfold dgB; rw [decide_eq_false_iff_not]; omega)
    rw [e]
    exact ⟨rfl, rfl, e2, e3⟩⟩
  · have c4b := of_decide_eq_false c4
    have e5 := e4 (by omega)
    have a3 := a2 (sk t ln p) (by omega)
    refine jv_aload_n h dX8_takeDigit_7 rfl ?_
    refine jv_gr 0 h dX8_takeDigit_8 cf_7 (by decide) gw_182 (by assumption) (by assumption) ?_
    refine jv_aload_n h dX8_takeDigit_11 rfl ?_
    refine jv_gv 2 h dX8_takeDigit_12 cf_7 (by decide) gw_185 (by assumption) (by assumption) ?_
    refine jv_iav h dX8_takeDigit_15 (by assumption) (by repeat (with_reducible first | exact NF_nI _ | assumption | refine NF_add ?_ ?_ | refine NF_mul ?_ ?_)) ⟨by omega, by decide⟩ (by assumption) ?_
    refine jv_bipush (nI 48) h dX8_takeDigit_16 (by decide) ?_
    refine jv_isub h dX8_takeDigit_18 ?_
    refine jv_iload_n h dX8_takeDigit_19 rfl ?_
    refine jv_iload_n h dX8_takeDigit_20 rfl ?_
    refine jv_SNRi [_, _, _] h dX8_takeDigit_21 cw_X8_26 (c_within _ hv hw) (by decide) rfl rfl (Nat.le_of_ble_eq_true rfl) ⟨Nat.zero_le _, Nat.zero_le _⟩ ?_
    refine jv_bne 30 h dX8_takeDigit_24 (by decide) (fun c24 => ?_) (fun c24 => ?_)
    · rw [isB_sub (by omega)] at c24
      have c24b := of_decide_eq_true c24
      have e6 : upd2 Mi1 Z 2 (nI (sk t ln p + 1)) (Z + 1) (sk t ln p) = nI (t (sk t ln p)) := by rw [upd2_row _ _ (by omega)]; exact e5
      refine jv_aload_n h dX8_takeDigit_30 rfl ?_
      refine jv_dup h dX8_takeDigit_31 rfl ?_
      refine jv_gv 2 h dX8_takeDigit_32 cf_7 (by decide) gw_185 (by assumption) (by assumption) ?_
      refine jv_iconst (nI 1) h dX8_takeDigit_35 (by decide) ?_
      first | refine jv_iaddN h dX8_takeDigit_36 (by repeat (with_reducible first | exact NF_nI _ | assumption | refine NF_add ?_ ?_ | refine NF_mul ?_ ?_)) (by repeat (with_reducible first | exact NF_nI _ | assumption | refine NF_add ?_ ?_ | refine NF_mul ?_ ?_)) ?_ | refine jv_iadd h dX8_takeDigit_36 ?_
      refine jv_pi 2 h dX8_takeDigit_37 cf_7 (by decide) gw_185 (by assumption) rfl rfl rfl ?_
      refine jv_aload_n h dX8_takeDigit_40 rfl ?_
      refine jv_gr 0 h dX8_takeDigit_41 cf_7 (by decide) gw_182 (by assumption) (by assumption) ?_
      refine jv_aload_n h dX8_takeDigit_44 rfl ?_
      refine jv_gv 2 h dX8_takeDigit_45 cf_7 (by decide) gw_185 (by assumption) (by exact upd2_same _ _ _ _) ?_
      refine jv_iconst (nI 1) h dX8_takeDigit_48 (by decide) ?_
      first | refine jv_isubN h dX8_takeDigit_49 (by repeat (with_reducible first | exact NF_nI _ | assumption | refine NF_add ?_ ?_ | refine NF_mul ?_ ?_)) (by repeat (with_reducible first | exact NF_nI _ | assumption | refine NF_add ?_ ?_ | refine NF_mul ?_ ?_)) (by omega) ?_ | refine jv_isub h dX8_takeDigit_49 ?_
      refine jv_iav h dX8_takeDigit_50 (by assumption) (by repeat (with_reducible first | exact NF_nI _ | assumption | refine NF_add ?_ ?_ | refine NF_mul ?_ ?_)) ⟨by omega, by decide⟩ (by assumption) ?_
      refine jv_bipush (nI 48) h dX8_takeDigit_51 (by decide) ?_
      refine jv_isub h dX8_takeDigit_53 ?_
      exact jv_iret h hr dX8_takeDigit_54 ⟨_, rfl, rfl, by
    have e : dgB t ln lo hi p = true := (by unfold dgB; rw [decide_eq_true_iff]; omega)
    rw [e]
    exact ⟨by rw [if_pos rfl]; exact pk_sub (by omega), rfl, e2.put, upd2_same _ _ _ _⟩⟩
    · rw [isB_sub (by omega)] at c24
      have c24b := of_decide_eq_false c24
      refine jv_bipush (-4) h dX8_takeDigit_27 (by decide) ?_
      exact jv_iret h hr dX8_takeDigit_29 ⟨_, rfl, rfl, by
    have e : dgB t ln lo hi p = false := (by unfold dgB; rw [decide_eq_false_iff_not]; omega)
    rw [e]
    exact ⟨rfl, rfl, e2, e3⟩⟩
