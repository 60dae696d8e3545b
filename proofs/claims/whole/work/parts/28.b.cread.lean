set_option maxHeartbeats 4000000 in
set_option maxRecDepth 100000 in
theorem c_readsHigh {g : GT} {T : TT} {Mi : MI} {Ml : ML} {R Z ln p : Nat} {t : Nat → Nat} (hD : RdS g T R) (hZ : TapS g T Z) (hR9 : TapR Mi Z t ln p) (hA : TA t ln) (hp : p ≤ ln) (hne : Z + 2 ≤ R)  : Ct g yX2_readsHigh cX2_readsHigh 3 (some .boolean) 3 0 0 [.ref R, .ref Z] T Mi Ml (Gi T (fun rv Mi' Ml' => rv = bI (dgB t ln 2 7 p) ∧ Ml' = Ml ∧ (∀ a, a ≠ Z → a ≠ R + 1 → Mi' a = Mi a) ∧ (∀ q, q ≠ 2 → Mi' Z q = Mi Z q) ∧ (∀ q, q ≠ 0 → Mi' (R + 1) q = Mi (R + 1) q) ∧ Mi' Z 2 = nI (poB t ln p (dgB t ln 2 7 p)) ∧ (dgB t ln 2 7 p = true → Mi' (R + 1) 0 = nI (dgV t ln p)))) := by
  refine Ct.of' (plainFor_of_name (by decide +kernel)) (by exact Nat.le_of_ble_eq_true rfl) ?_
  intro x hg hR h hr hnm hnl
  subst hg
  obtain ⟨d1, d2, d3, d4, d5⟩ := id hD
  obtain ⟨b1, b2, b3⟩ := id d4
  obtain ⟨s1, s2, s3, s4, s5⟩ := id d5
  obtain ⟨z1, z2, z3⟩ := id hZ
  obtain ⟨r1, r2, r3⟩ := id hR9
  obtain ⟨a1, a2⟩ := id hA
  refine jv_aload_n h dX2_readsHigh_0 rfl ?_
  refine jv_iconst (nI 2) h dX2_readsHigh_1 (by decide) ?_
  refine jv_bipush (nI 6) h dX2_readsHigh_2 (by decide) ?_
  refine jv_VGi [_, _] h dX2_readsHigh_4 cw_X2_41 cf_7 (by assumption) (c_takeDigit hZ hR9 hA hp (lo := 2) (hi := 7) (by decide) (by decide)) (by decide) rfl rfl (Nat.le_of_ble_eq_true rfl) ⟨Nat.zero_le _, Nat.zero_le _⟩ (fun v_4 Mi4 Ml4 hp4 => ?_)
  have hm9 := hp4.2.1
  subst Ml4
  obtain ⟨v9, -, e2, e3⟩ := hp4
  subst v_4
  refine jv_istore_n h dX2_readsHigh_7 (lt_nl hnl (by decide)) ?_
  refine jv_iload_n h dX2_readsHigh_8 rfl ?_
  refine jv_bipush (-4) h dX2_readsHigh_9 (by decide) ?_
  refine jv_icmp_ne 16 h dX2_readsHigh_11 (by decide) (fun c11 => ?_) (fun c11 => ?_)
  · have hb := dg_ne c11
    rw [if_pos hb]
    refine jv_aload_n h dX2_readsHigh_16 rfl ?_
    refine jv_gr 0 h dX2_readsHigh_17 cf_2 (by decide) gw_204 (by assumption) (by assumption) ?_
    refine jv_iload_n h dX2_readsHigh_20 rfl ?_
    refine jv_pi 0 h dX2_readsHigh_21 cf_1 (by decide) gw_44 (by assumption) rfl rfl rfl ?_
    refine jv_iconst (nI 1) h dX2_readsHigh_24 (by decide) ?_
    exact jv_zret h hr dX2_readsHigh_25 rfl ⟨_, rfl, rfl, by rw [hb]; rfl, rfl, fun a h1 h2 => by rw [upd2_row _ _ h2]; exact e2.1 a h1, fun q hq => by rw [upd2_row _ _ (by omega)]; exact e2.2 q hq, fun q hq => by rw [upd2_ne _ _ (by omega), e2.1 _ (by omega)], by rw [upd2_row _ _ (by omega)]; exact e3, fun _ => upd2_same _ _ _ _⟩
  · have hb : dgB t ln 2 7 p = false := by
      cases hb : dgB t ln 2 7 p with
      | false => rfl
      | true =>
        rw [hb] at c11
        have := dg_eq (by have := dgV_lt hA hp (dg_t hb).1; omega) c11
        cases this
    refine jv_iconst (nI 0) h dX2_readsHigh_14 (by decide) ?_
    exact jv_zret h hr dX2_readsHigh_15 rfl ⟨_, rfl, rfl, by rw [hb]; rfl, rfl, fun a h1 _ => e2.1 a h1, e2.2, fun q _ => by rw [e2.1 _ (by omega)], e3, fun z => by rw [hb] at z; cases z⟩
set_option maxHeartbeats 4000000 in
set_option maxRecDepth 100000 in
theorem c_readsDays {g : GT} {T : TT} {Mi : MI} {Ml : ML} {R Z ln p : Nat} {t : Nat → Nat} (hD : RdS g T R) (hZ : TapS g T Z) (hR9 : TapR Mi Z t ln p) (hA : TA t ln) (hp : p ≤ ln) (hne : Z + 2 ≤ R) {hh : Nat} {D : Nat → Nat} (hh0 : Mi (R + 1) 0 = nI hh) (hh6 : hh ≤ 6) : Ct g yX2_readsDays cX2_readsDays 4 (some .boolean) 3 0 0 [.ref R, .ref Z] T Mi Ml (Gi T (fun rv Mi' Ml' => rv = bI (dyP t ln (2 * hh) 0 p D).1 ∧ Ml' = Ml ∧ (∀ a, a ≠ Z → a ≠ R + 2 → Mi' a = Mi a) ∧ (∀ q, q ≠ 2 → Mi' Z q = Mi Z q) ∧ Mi' Z 2 = nI (dyP t ln (2 * hh) 0 p D).2.1 ∧ (dyP t ln (2 * hh) 0 p D).2.1 ≤ ln ∧ ((dyP t ln (2 * hh) 0 p D).1 = true → ∀ k, k < 2 * hh → Mi' (R + 2) k = nI ((dyP t ln (2 * hh) 0 p D).2.2 k)))) := by
  refine Ct.of' (plainFor_of_name (by decide +kernel)) (by exact Nat.le_of_ble_eq_true rfl) ?_
  intro x hg hR h hr hnm hnl
  subst hg
  obtain ⟨d1, d2, d3, d4, d5⟩ := id hD
  obtain ⟨b1, b2, b3⟩ := id d4
  obtain ⟨s1, s2, s3, s4, s5⟩ := id d5
  obtain ⟨z1, z2, z3⟩ := id hZ
  obtain ⟨r1, r2, r3⟩ := id hR9
  obtain ⟨a1, a2⟩ := id hA
  refine jv_iconst (nI 0) h dX2_readsDays_0 (by decide) ?_
  refine jv_istore_n h dX2_readsDays_1 (lt_nl hnl (by decide)) ?_
  have hl2 : ∀ (n : Nat) (i p1 : Nat) (D1 : Nat → Nat) (M1 : MI) (oj : Option Value), 2 * hh - i < n → i ≤ 2 * hh → p1 ≤ ln → dyP t ln (2 * hh - i) i p1 D1 = dyP t ln (2 * hh) 0 p D → (∀ a, a ≠ Z → a ≠ R + 2 → M1 a = Mi a) → (∀ q, q ≠ 2 → M1 Z q = Mi Z q) → M1 Z 2 = nI p1 → (∀ k, k < i → M1 (R + 2) k = nI (D1 k)) → V x 0 0 T M1 Ml 2 [some (.ref R), some (.ref Z), some (.int (nI i)), oj] [] := by
    intro n
    induction n with
    | zero => intro i p1 D1 M1 oj hN9 hi hp1 f1 f2 f3 f4 f5; exact absurd hN9 (by omega)
    | succ n ih =>
      intro i p1 D1 M1 oj hN9 hi hp1 f1 f2 f3 f4 f5
      have f6 : M1 (R + 1) 0 = nI hh := by rw [f2 _ (by omega) (by omega)]; exact hh0
      have f7 : TapR M1 Z t ln p1 := ⟨by rw [f3 1 (by decide)]; exact r1, f4, fun k hk => by rw [f2 _ (by omega) (by omega)]; exact r3 k hk⟩
      refine jv_iload_n h dX2_readsDays_2 rfl ?_
      refine jv_aload_n h dX2_readsDays_3 rfl ?_
      refine jv_gr 0 h dX2_readsDays_4 cf_2 (by decide) gw_204 (by assumption) (by assumption) ?_
      refine jv_VRi [] h dX2_readsDays_7 cw_X2_49 cf_1 (by assumption) (c_cars b1 f6) (by decide) rfl rfl (Nat.le_of_ble_eq_true rfl) ⟨Nat.zero_le _, Nat.zero_le _⟩ ?_
      refine jv_nge 45 h dX2_readsDays_10 (by decide) (by repeat (with_reducible first | exact NF_nI _ | assumption | refine NF_add ?_ ?_ | refine NF_mul ?_ ?_)) (by repeat (with_reducible first | exact NF_nI _ | assumption | refine NF_add ?_ ?_ | refine NF_mul ?_ ?_)) ⟨by omega, by omega⟩ (fun c10 => ?_) (fun c10 => ?_)
      · refine jv_iconst (nI 1) h dX2_readsDays_45 (by decide) ?_
        exact jv_zret h hr dX2_readsDays_46 rfl ⟨_, rfl, rfl, by
    rw [show 2 * hh - i = 0 by omega] at f1
    rw [← f1]
    exact ⟨rfl, rfl, f2, f3, f4, hp1, fun _ k hk => f5 k (by omega)⟩⟩
      · refine jv_aload_n h dX2_readsDays_13 rfl ?_
        refine jv_iconst (nI 0) h dX2_readsDays_14 (by decide) ?_
        refine jv_bipush (nI 6) h dX2_readsDays_15 (by decide) ?_
        refine jv_VGi [_, _] h dX2_readsDays_17 cw_X2_41 cf_7 (by assumption) (c_takeDigit hZ f7 hA hp1 (lo := 0) (hi := 7) (by decide) (by decide)) (by decide) rfl rfl (Nat.le_of_ble_eq_true rfl) ⟨Nat.zero_le _, Nat.zero_le _⟩ (fun v_17 Mi17 Ml17 hp17 => ?_)
        have hm9 := hp17.2.1
        subst Ml17
        obtain ⟨v9, -, e2, e3⟩ := hp17
        subst v_17
        refine jv_istore_n h dX2_readsDays_20 (lt_nl hnl (by decide)) ?_
        refine jv_iload_n h dX2_readsDays_21 rfl ?_
        refine jv_bipush (-4) h dX2_readsDays_22 (by decide) ?_
        refine jv_icmp_ne 29 h dX2_readsDays_24 (by decide) (fun c24 => ?_) (fun c24 => ?_)
        · have hb := dg_ne c24
          rw [if_pos hb]
          have hbt := dg_t hb
          refine jv_aload_n h dX2_readsDays_29 rfl ?_
          refine jv_gr 0 h dX2_readsDays_30 cf_2 (by decide) gw_204 (by assumption) (by assumption) ?_
          refine jv_gr 3 h dX2_readsDays_33 cf_1 (by decide) gw_54 (by assumption) (by assumption) ?_
          refine jv_iload_n h dX2_readsDays_36 rfl ?_
          refine jv_iload_n h dX2_readsDays_37 rfl ?_
          refine jv_iast h dX2_readsDays_38 (by assumption) (by repeat (with_reducible first | exact NF_nI _ | assumption | refine NF_add ?_ ?_ | refine NF_mul ?_ ?_)) ⟨by omega, by decide⟩ ?_
          refine jv_iinc (nI (i + 1)) h dX2_readsDays_39 rfl (lt_nl hnl (by decide)) (nI_inc i) ?_
          refine jv_goto 2 h dX2_readsDays_42 (by decide) ?_
          rw [show 2 * hh - i = (2 * hh - (i + 1)) + 1 by omega, dyP_t hb] at f1
          exact ih (i + 1) _ _ _ _ (by omega) (by omega) (by omega) f1 (fun a h1 h2 => by rw [upd2_row _ _ h2, e2.1 a h1]; exact f2 a h1 h2) (fun q hq => by rw [upd2_row _ _ (by omega), e2.2 q hq]; exact f3 q hq) (by rw [upd2_row _ _ (by omega), e3, dg_p hb]) (fun k hk => by
            by_cases hki : k = i
            · rw [hki, upd2_same, setS_s]
            · rw [upd2_ne _ _ (by omega), setS_o hki, e2.1 _ (by omega)]; exact f5 k (by omega))
        · have hb : dgB t ln 0 7 p1 = false := by
            cases hb : dgB t ln 0 7 p1 with
            | false => rfl
            | true =>
              rw [hb] at c24
              have := dg_eq (by have := dgV_lt hA hp1 (dg_t hb).1; omega) c24
              cases this
          refine jv_iconst (nI 0) h dX2_readsDays_27 (by decide) ?_
          exact jv_zret h hr dX2_readsDays_28 rfl ⟨_, rfl, rfl, by
    rw [show 2 * hh - i = (2 * hh - (i + 1)) + 1 by omega, dyP_f hb] at f1
    rw [← f1]
    exact ⟨rfl, rfl, fun a h1 h2 => by rw [e2.1 a h1]; exact f2 a h1 h2, fun q hq => by rw [e2.2 q hq]; exact f3 q hq, by rw [e3, dg_q hb], (sk_c hp1).2.1, fun z => by cases z⟩⟩
  exact hl2 (2 * hh + 1) 0 p D _ _ (by omega) (by omega) hp rfl (fun _ _ _ => rfl) (fun _ _ => rfl) r2 (fun k hk => absurd hk (by omega))
