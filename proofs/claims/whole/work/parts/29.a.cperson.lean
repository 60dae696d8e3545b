set_option maxHeartbeats 4000000 in
set_option maxRecDepth 100000 in
theorem c_readsPerson {g : GT} {T : TT} {Mi : MI} {Ml : ML} {R Z ln p : Nat} {t : Nat → Nat} (hD : RdS g T R) (hZ : TapS g T Z) (hR9 : TapR Mi Z t ln p) (hA : TA t ln) (hp : p ≤ ln) (hne : Z + 2 ≤ R) {hh : Nat} {Q : Nat → Nat} (hh0 : Mi (R + 1) 0 = nI hh) (hh6 : 2 ≤ hh ∧ hh ≤ 6) (hS : ScnR Mi (R + 3) Q) (h6 : Q 0 < 6) : Ct g yX2_readsPerson cX2_readsPerson 6 (some .boolean) 9 0 0 [.ref R, .ref Z] T Mi Ml (Gi T (fun rv Mi' Ml' => rv = bI (peP t ln hh p).1 ∧ Ml' = Ml ∧ (∀ a, a ≠ Z → (a < R + 3 ∨ R + 11 ≤ a) → Mi' a = Mi a) ∧ (∀ q, q ≠ 2 → Mi' Z q = Mi Z q) ∧ Mi' Z 2 = nI (peP t ln hh p).2.1 ∧ (peP t ln hh p).2.1 ≤ ln ∧ ((peP t ln hh p).1 = true → ScnR Mi' (R + 3) (addS Q (peP t ln hh p).2.2.1 (peP t ln hh p).2.2.2.1 (peP t ln hh p).2.2.2.2.1 (peP t ln hh p).2.2.2.2.2)) ∧ ((peP t ln hh p).1 = false → ScnR Mi' (R + 3) Q))) := by
  refine Ct.of' (plainFor_of_name (by decide +kernel)) (by exact Nat.le_of_ble_eq_true rfl) ?_
  intro x hg hR h hr hnm hnl
  subst hg
  obtain ⟨d1, d2, d3, d4, d5⟩ := id hD
  obtain ⟨b1, b2, b3⟩ := id d4
  obtain ⟨s1, s2, s3, s4, s5⟩ := id d5
  obtain ⟨z1, z2, z3⟩ := id hZ
  obtain ⟨r1, r2, r3⟩ := id hR9
  obtain ⟨a1, a2⟩ := id hA
  refine jv_aload_n h dX2_readsPerson_0 rfl ?_
  refine jv_VGi [] h dX2_readsPerson_1 cw_X2_67 cf_7 (by assumption) (c_takeKind hZ hR9 hA hp) (by decide) rfl rfl (Nat.le_of_ble_eq_true rfl) ⟨Nat.zero_le _, Nat.zero_le _⟩ (fun v_1 Mi1 Ml1 hp1 => ?_)
  have hm9 := hp1.2.1
  subst Ml1
  obtain ⟨v91, -, e21, e31⟩ := hp1
  subst v_1
  refine jv_istore_n h dX2_readsPerson_4 (lt_nl hnl (by decide)) ?_
  refine jv_iload_n h dX2_readsPerson_5 rfl ?_
  refine jv_bipush (-4) h dX2_readsPerson_6 (by decide) ?_
  refine jv_icmp_ne 13 h dX2_readsPerson_8 (by decide) (fun c8 => ?_) (fun c8 => ?_)
  · have hk1 := dg_ne c8
    rw [if_pos hk1]
    have hki := of_decide_eq_true hk1
    have R1 := hR9.fr e21 (p' := sk t ln p + 1) (by rw [e31, dg_p hk1])
    have q1 : sk t ln p + 1 ≤ ln := by omega
    refine jv_aload_n h dX2_readsPerson_13 rfl ?_
    refine jv_iconst (nI 1) h dX2_readsPerson_14 (by decide) ?_
    refine jv_bipush (nI 9) h dX2_readsPerson_15 (by decide) ?_
    refine jv_VGi [_, _] h dX2_readsPerson_17 cw_X2_41 cf_7 (by assumption) (c_takeDigit hZ R1 hA q1 (lo := 1) (hi := 10) (by decide) (by decide)) (by decide) rfl rfl (Nat.le_of_ble_eq_true rfl) ⟨Nat.zero_le _, Nat.zero_le _⟩ (fun v_17 Mi17 Ml17 hp17 => ?_)
    have hm9 := hp17.2.1
    subst Ml17
    obtain ⟨v92, -, e22, e32⟩ := hp17
    subst v_17
    have F2 := e21.tr e22
    refine jv_istore_n h dX2_readsPerson_20 (lt_nl hnl (by decide)) ?_
    refine jv_iload_n h dX2_readsPerson_21 rfl ?_
    refine jv_bipush (-4) h dX2_readsPerson_22 (by decide) ?_
    refine jv_icmp_ne 29 h dX2_readsPerson_24 (by decide) (fun c24 => ?_) (fun c24 => ?_)
    · have hb1 := dg_ne c24
      rw [if_pos hb1]
      have ht1 := dg_t hb1
      have R2 := R1.fr e22 (p' := (sk t ln (sk t ln p + 1) + 1)) (by rw [e32, dg_p hb1])
      have q2 : (sk t ln (sk t ln p + 1) + 1) ≤ ln := by omega
      have hH2 : Mi17 (R + 1) 0 = nI hh := by rw [F2.1 _ (by omega)]; exact hh0
      refine jv_aload_n h dX2_readsPerson_29 rfl ?_
      refine jv_iconst (nI 0) h dX2_readsPerson_30 (by decide) ?_
      refine jv_aload_n h dX2_readsPerson_31 rfl ?_
      refine jv_gr 0 h dX2_readsPerson_32 cf_2 (by decide) gw_204 (by assumption) (by assumption) ?_
      refine jv_gv 0 h dX2_readsPerson_35 cf_1 (by decide) gw_44 (by assumption) (by assumption) ?_
      refine jv_iconst (nI 1) h dX2_readsPerson_38 (by decide) ?_
      first | refine jv_isubN h dX2_readsPerson_39 (by repeat (with_reducible first | exact NF_nI _ | assumption | refine NF_add ?_ ?_ | refine NF_mul ?_ ?_)) (by repeat (with_reducible first | exact NF_nI _ | assumption | refine NF_add ?_ ?_ | refine NF_mul ?_ ?_)) (by omega) ?_ | refine jv_isub h dX2_readsPerson_39 ?_
      refine jv_VGi [_, _] h dX2_readsPerson_40 cw_X2_41 cf_7 (by assumption) (c_takeDigit hZ R2 hA q2 (lo := 0) (hi := hh) (by decide) (b_pr' (by omega) (by omega))) (by decide) rfl rfl (Nat.le_of_ble_eq_true rfl) ⟨Nat.zero_le _, Nat.zero_le _⟩ (fun v_40 Mi40 Ml40 hp40 => ?_)
      have hm9 := hp40.2.1
      subst Ml40
      obtain ⟨v93, -, e23, e33⟩ := hp40
      subst v_40
      have F3 := F2.tr e23
      refine jv_istore h dX2_readsPerson_43 (lt_nl hnl (by decide)) ?_
      refine jv_iload h dX2_readsPerson_45 rfl ?_
      refine jv_bipush (-4) h dX2_readsPerson_47 (by decide) ?_
      refine jv_icmp_ne 54 h dX2_readsPerson_49 (by decide) (fun c49 => ?_) (fun c49 => ?_)
      · have hb2 := dg_ne c49
        rw [if_pos hb2]
        have ht2 := dg_t hb2
        have R3 := R2.fr e23 (p' := (sk t ln (sk t ln (sk t ln p + 1) + 1) + 1)) (by rw [e33, dg_p hb2])
        have q3 : (sk t ln (sk t ln (sk t ln p + 1) + 1) + 1) ≤ ln := by omega
        refine jv_aload_n h dX2_readsPerson_54 rfl ?_
        refine jv_iconst (nI 0) h dX2_readsPerson_55 (by decide) ?_
        refine jv_bipush (nI 6) h dX2_readsPerson_56 (by decide) ?_
        refine jv_VGi [_, _] h dX2_readsPerson_58 cw_X2_41 cf_7 (by assumption) (c_takeDigit hZ R3 hA q3 (lo := 0) (hi := 7) (by decide) (by decide)) (by decide) rfl rfl (Nat.le_of_ble_eq_true rfl) ⟨Nat.zero_le _, Nat.zero_le _⟩ (fun v_58 Mi58 Ml58 hp58 => ?_)
        have hm9 := hp58.2.1
        subst Ml58
        obtain ⟨v94, -, e24, e34⟩ := hp58
        subst v_58
        have F4 := F3.tr e24
        refine jv_istore h dX2_readsPerson_61 (lt_nl hnl (by decide)) ?_
        refine jv_iload h dX2_readsPerson_63 rfl ?_
        refine jv_bipush (-4) h dX2_readsPerson_65 (by decide) ?_
        refine jv_icmp_ne 72 h dX2_readsPerson_67 (by decide) (fun c67 => ?_) (fun c67 => ?_)
        · have hb3 := dg_ne c67
          rw [if_pos hb3]
          have ht3 := dg_t hb3
          have S4 : ScnR Mi58 (R + 3) Q := hS.fr (by omega) (fun a h1 h2 => F4.1 a (by omega))
          refine jv_aload_n h dX2_readsPerson_72 rfl ?_
          refine jv_gr 1 h dX2_readsPerson_73 cf_2 (by decide) gw_206 (by assumption) (by assumption) ?_
          refine jv_kindsN h dX2_readsPerson_76 (List.mem_of_getElem? (i := 10) rfl) ?_
          refine jv_iload_n h dX2_readsPerson_79 rfl ?_
          refine jv_kald h dX2_readsPerson_80 (by repeat (with_reducible first | exact NF_nI _ | assumption | refine NF_add ?_ ?_ | refine NF_mul ?_ ?_)) (by omega) ?_
          refine jv_iload_n h dX2_readsPerson_81 rfl ?_
          refine jv_iload h dX2_readsPerson_82 rfl ?_
          refine jv_iload h dX2_readsPerson_84 rfl ?_
          refine jv_VGv [_, _, _, _] h dX2_readsPerson_86 cw_X2_74 cf_5 (by assumption) (c_sadd d5 S4 h6 hki.2 (NF_nI _) (NF_nI _) (NF_nI _)) (by decide) rfl rfl (Nat.le_of_ble_eq_true rfl) ⟨Nat.zero_le _, Nat.zero_le _⟩ (fun Mi86 Ml86 hp86 => ?_)
          refine jv_iconst (nI 1) h dX2_readsPerson_89 (by decide) ?_
          exact jv_zret h hr dX2_readsPerson_90 rfl ⟨_, rfl, rfl, by
    have e : peP t ln hh p = (true, sk t ln (sk t ln (sk t ln (sk t ln p + 1) + 1) + 1) + 1, kiN (t (sk t ln p)), dgV t ln (sk t ln p + 1), dgV t ln (sk t ln (sk t ln p + 1) + 1), dgV t ln (sk t ln (sk t ln (sk t ln p + 1) + 1) + 1)) := (by unfold peP; rw [if_pos hk1, if_pos hb1, if_pos hb2, if_pos hb3])
    rw [e]
    obtain ⟨u1, u2, u3⟩ := hp86
    exact ⟨rfl, u1, fun a h1 h2 => by rw [u2 a (by omega)]; exact F4.1 a h1, fun q hq => by rw [u2 Z (by omega)]; exact F4.2 q hq, by rw [u2 Z (by omega), e34, dg_p hb3], (by show sk t ln (sk t ln (sk t ln (sk t ln p + 1) + 1) + 1) + 1 ≤ ln; omega), (fun _ => u3), (fun z => by cases z)⟩⟩
        · have hb : dgB t ln 0 7 (sk t ln (sk t ln (sk t ln p + 1) + 1) + 1) = false := by
            cases hb : dgB t ln 0 7 (sk t ln (sk t ln (sk t ln p + 1) + 1) + 1) with
            | false => rfl
            | true =>
              rw [hb] at c67
              have := dg_eq (by have := dgV_lt hA q3 (dg_t hb).1; omega) c67
              cases this
          refine jv_iconst (nI 0) h dX2_readsPerson_70 (by decide) ?_
          exact jv_zret h hr dX2_readsPerson_71 rfl ⟨_, rfl, rfl, by
    have e : peP t ln hh p = (false, sk t ln (sk t ln (sk t ln (sk t ln p + 1) + 1) + 1), 0, 0, 0, 0) := (by unfold peP; rw [if_pos hk1, if_pos hb1, if_pos hb2, if_neg (by rw [hb]; decide)])
    rw [e]
    exact ⟨rfl, rfl, fun a h1 _ => F4.1 a h1, F4.2, by rw [e34, dg_q hb], (sk_c q3).2.1, (fun z => by cases z), fun _ => hS.fr (by omega) (fun a h1 h2 => F4.1 a (by omega))⟩⟩
      · have hb : dgB t ln 0 hh (sk t ln (sk t ln p + 1) + 1) = false := by
          cases hb : dgB t ln 0 hh (sk t ln (sk t ln p + 1) + 1) with
          | false => rfl
          | true =>
            rw [hb] at c49
            have := dg_eq (by have := dgV_lt hA q2 (dg_t hb).1; omega) c49
            cases this
        refine jv_iconst (nI 0) h dX2_readsPerson_52 (by decide) ?_
        exact jv_zret h hr dX2_readsPerson_53 rfl ⟨_, rfl, rfl, by
    have e : peP t ln hh p = (false, sk t ln (sk t ln (sk t ln p + 1) + 1), 0, 0, 0, 0) := (by unfold peP; rw [if_pos hk1, if_pos hb1, if_neg (by rw [hb]; decide)])
    rw [e]
    exact ⟨rfl, rfl, fun a h1 _ => F3.1 a h1, F3.2, by rw [e33, dg_q hb], (sk_c q2).2.1, (fun z => by cases z), fun _ => hS.fr (by omega) (fun a h1 h2 => F3.1 a (by omega))⟩⟩
    · have hb : dgB t ln 1 10 (sk t ln p + 1) = false := by
        cases hb : dgB t ln 1 10 (sk t ln p + 1) with
        | false => rfl
        | true =>
          rw [hb] at c24
          have := dg_eq (by have := dgV_lt hA q1 (dg_t hb).1; omega) c24
          cases this
      refine jv_iconst (nI 0) h dX2_readsPerson_27 (by decide) ?_
      exact jv_zret h hr dX2_readsPerson_28 rfl ⟨_, rfl, rfl, by
    have e : peP t ln hh p = (false, sk t ln (sk t ln p + 1), 0, 0, 0, 0) := (by unfold peP; rw [if_pos hk1, if_neg (by rw [hb]; decide)])
    rw [e]
    exact ⟨rfl, rfl, fun a h1 _ => F2.1 a h1, F2.2, by rw [e32, dg_q hb], (sk_c q1).2.1, (fun z => by cases z), fun _ => hS.fr (by omega) (fun a h1 h2 => F2.1 a (by omega))⟩⟩
  · have hb : kiB t ln p = false := by
      cases hb : kiB t ln p with
      | false => rfl
      | true =>
        rw [hb] at c8
        have hk2 := (of_decide_eq_true hb).2
        have := dg_eq (by omega) c8
        cases this
    refine jv_iconst (nI 0) h dX2_readsPerson_11 (by decide) ?_
    exact jv_zret h hr dX2_readsPerson_12 rfl ⟨_, rfl, rfl, by
    have e : peP t ln hh p = (false, sk t ln p, 0, 0, 0, 0) := (by unfold peP; rw [if_neg (by rw [hb]; decide)])
    rw [e]
    exact ⟨rfl, rfl, fun a h1 _ => e21.1 a h1, e21.2, by rw [e31, dg_q hb], (sk_c hp).2.1, (fun z => by cases z), fun _ => hS.fr (by omega) (fun a h1 h2 => e21.1 a (by omega))⟩⟩
