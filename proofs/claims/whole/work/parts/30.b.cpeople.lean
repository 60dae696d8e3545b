set_option maxHeartbeats 4000000 in
set_option maxRecDepth 100000 in
theorem c_readsPeople {g : GT} {T : TT} {Mi : MI} {Ml : ML} {R Z ln p : Nat} {t : Nat → Nat} (hD : RdS g T R) (hZ : TapS g T Z) (hR9 : TapR Mi Z t ln p) (hA : TA t ln) (hp : p ≤ ln) (hne : Z + 2 ≤ R) {hh : Nat} {Q : Nat → Nat} (hh0 : Mi (R + 1) 0 = nI hh) (hh6 : 2 ≤ hh ∧ hh ≤ 6) (hq0 : Q 0 = 0) (hq1 : Mi (R + 3) 2 = nI (Q 1)) (hq5 : Mi (R + 3) 3 = nI (Q 5)) : Ct g yX2_readsPeople cX2_readsPeople 3 (some .boolean) 10 0 0 [.ref R, .ref Z] T Mi Ml (Gi T (fun rv Mi' Ml' => rv = bI (ppP t ln hh 6 Q p).1 ∧ Ml' = Ml ∧ (∀ a, a ≠ Z → (a < R + 3 ∨ R + 11 ≤ a) → Mi' a = Mi a) ∧ (∀ q, q ≠ 2 → Mi' Z q = Mi Z q) ∧ Mi' Z 2 = nI (ppP t ln hh 6 Q p).2.1 ∧ (ppP t ln hh 6 Q p).2.1 ≤ ln ∧ ((ppP t ln hh 6 Q p).1 = true → ScnR Mi' (R + 3) (ppP t ln hh 6 Q p).2.2) ∧ Mi' (R + 3) 2 = nI (Q 1) ∧ Mi' (R + 3) 3 = nI (Q 5))) := by
  refine Ct.of' (plainFor_of_name (by decide +kernel)) (by exact Nat.le_of_ble_eq_true rfl) ?_
  intro x hg hR h hr hnm hnl
  subst hg
  obtain ⟨d1, d2, d3, d4, d5⟩ := id hD
  obtain ⟨b1, b2, b3⟩ := id d4
  obtain ⟨s1, s2, s3, s4, s5⟩ := id d5
  obtain ⟨z1, z2, z3⟩ := id hZ
  obtain ⟨r1, r2, r3⟩ := id hR9
  obtain ⟨a1, a2⟩ := id hA
  refine jv_aload_n h dX2_readsPeople_0 rfl ?_
  refine jv_gr 1 h dX2_readsPeople_1 cf_2 (by decide) gw_206 (by assumption) (by assumption) ?_
  refine jv_iconst (nI 0) h dX2_readsPeople_4 (by decide) ?_
  refine jv_pi 1 h dX2_readsPeople_5 cf_5 (by decide) gw_124 (by assumption) rfl rfl rfl ?_
  refine jv_iconst (nI 0) h dX2_readsPeople_8 (by decide) ?_
  refine jv_istore_n h dX2_readsPeople_9 (lt_nl hnl (by decide)) ?_
  have hl10 : ∀ (n : Nat) (i p1 : Nat) (Q1 : Nat → Nat) (M1 : MI), 7 - i < n → i ≤ 6 → p1 ≤ ln → Q1 0 = i → (i = 0 → ppP t ln hh 6 Q1 p1 = (ppP t ln hh 6 Q p)) → (i ≠ 0 → (if 6 - i ≠ 0 ∧ tkB t ln 44 p1 = true then ppP t ln hh (6 - i) Q1 (sk t ln p1 + 1) else (decide (ln ≤ sk t ln p1), sk t ln p1, Q1)) = (ppP t ln hh 6 Q p)) → (∀ a, a ≠ Z → (a < R + 3 ∨ R + 11 ≤ a) → M1 a = Mi a) → (∀ q, q ≠ 2 → M1 Z q = Mi Z q) → M1 Z 2 = nI p1 → ScnR M1 (R + 3) Q1 → (Q1 1 = Q 1 ∧ Q1 5 = Q 5) → V x 0 0 T M1 Ml 10 [some (.ref R), some (.ref Z), some (.int (nI i))] [] := by
    intro n
    induction n with
    | zero => intro i p1 Q1 M1 hN9 hi hp1 f8 f0 f1 f2 f3 f4 f5 fq; exact absurd hN9 (by omega)
    | succ n ih =>
      intro i p1 Q1 M1 hN9 hi hp1 f8 f0 f1 f2 f3 f4 f5 fq
      have f7 : TapR M1 Z t ln p1 := ⟨by rw [f3 1 (by decide)]; exact r1, f4, fun k hk => by rw [f2 _ (by omega) (by omega)]; exact r3 k hk⟩
      have hj48 : ∀ (p2 : Nat) (M2 : MI), p2 ≤ ln → (decide (ln ≤ sk t ln p2), sk t ln p2, Q1) = (ppP t ln hh 6 Q p) → (∀ a, a ≠ Z → (a < R + 3 ∨ R + 11 ≤ a) → M2 a = Mi a) → (∀ q, q ≠ 2 → M2 Z q = Mi Z q) → M2 Z 2 = nI p2 → ScnR M2 (R + 3) Q1 → V x 0 0 T M2 Ml 48 [some (.ref R), some (.ref Z), some (.int (nI i))] [] := by
        intro p2 M2 hp2 g2 k2 k3 k4 k5
        have R3 : TapR M2 Z t ln p2 := ⟨by rw [k3 1 (by decide)]; exact r1, k4, fun k hk => by rw [k2 _ (by omega) (by omega)]; exact r3 k hk⟩
        refine jv_aload_n h dX2_readsPeople_48 rfl ?_
        refine jv_VGi [] h dX2_readsPeople_49 cw_X2_63 cf_7 (by assumption) (c_ends hZ R3 hA hp2) (by decide) rfl rfl (Nat.le_of_ble_eq_true rfl) ⟨Nat.zero_le _, Nat.zero_le _⟩ (fun v_49 Mi49 Ml49 hp49 => ?_)
        have hm9 := hp49.2.1
        subst Ml49
        obtain ⟨v7, -, w2, w3⟩ := hp49
        subst v_49
        exact jv_zret h hr dX2_readsPeople_52 (by first | rfl | exact bI_nar _) ⟨_, rfl, rfl, by
    rw [← g2]
    exact ⟨rfl, rfl, fun a h1 h2 => by rw [w2.1 a h1]; exact k2 a h1 h2, fun q hq => by rw [w2.2 q hq]; exact k3 q hq, w3, (sk_c hp2).2.1, (fun _ => k5.fr (by omega) (fun a h1 h2 => w2.1 a (by omega))), by rw [w2.1 _ (by omega), k5.2.1, fq.1], by rw [w2.1 _ (by omega), k5.2.2.1, fq.2]⟩⟩
      have hj32 : ∀ (p2 : Nat) (M2 : MI), p2 ≤ ln → i < 6 → ppP t ln hh (6 - i) Q1 p2 = (ppP t ln hh 6 Q p) → (∀ a, a ≠ Z → (a < R + 3 ∨ R + 11 ≤ a) → M2 a = Mi a) → (∀ q, q ≠ 2 → M2 Z q = Mi Z q) → M2 Z 2 = nI p2 → ScnR M2 (R + 3) Q1 → V x 0 0 T M2 Ml 32 [some (.ref R), some (.ref Z), some (.int (nI i))] [] := by
        intro p2 M2 hp2 hi6 g0 k2 k3 k4 k5
        have R2 : TapR M2 Z t ln p2 := ⟨by rw [k3 1 (by decide)]; exact r1, k4, fun k hk => by rw [k2 _ (by omega) (by omega)]; exact r3 k hk⟩
        have k6 : M2 (R + 1) 0 = nI hh := by rw [k2 _ (by omega) (by omega)]; exact hh0
        refine jv_aload_n h dX2_readsPeople_32 rfl ?_
        refine jv_aload_n h dX2_readsPeople_33 rfl ?_
        refine jv_VGi [_] h dX2_readsPeople_34 cw_X2_60 cf_2 (by assumption) (c_readsPerson hD hZ R2 hA hp2 hne k6 hh6 k5 (by omega)) (by decide) rfl rfl (Nat.le_of_ble_eq_true rfl) ⟨Nat.zero_le _, Nat.zero_le _⟩ (fun v_34 Mi34 Ml34 hp34 => ?_)
        have hm9 := hp34.2.1
        subst Ml34
        obtain ⟨v9, -, u2, u3, u4, u5, u6, u7⟩ := hp34
        subst v_34
        refine jv_bne 42 h dX2_readsPeople_37 (by decide) (fun c37 => ?_) (fun c37 => ?_)
        · have G5 : ScnR Mi34 (R + 3) (adP Q1 (peP t ln hh p2).2.2) := u6 c37
          have g1 := g0
          rw [show 6 - i = (6 - (i + 1)) + 1 by omega, ppP_s, if_pos c37] at g1
          have gq : adP Q1 (peP t ln hh p2).2.2 1 = Q 1 ∧ adP Q1 (peP t ln hh p2).2.2 5 = Q 5 := ⟨(addS_o (by decide) (by omega)).trans fq.1, (addS_o (by decide) (by omega)).trans fq.2⟩
          refine jv_iinc (nI (i + 1)) h dX2_readsPeople_42 rfl (lt_nl hnl (by decide)) (nI_inc i) ?_
          refine jv_goto 10 h dX2_readsPeople_45 (by decide) ?_
          exact ih (i + 1) (peP t ln hh p2).2.1 (adP Q1 (peP t ln hh p2).2.2) Mi34 (by omega) (by omega) u5 (by show Q1 0 + 1 = i + 1; omega) (fun z => absurd z (by omega)) (fun _ => g1) (fun a h1 h2 => by rw [u2 a h1 h2]; exact k2 a h1 h2) (fun q hq => by rw [u3 q hq]; exact k3 q hq) u4 G5 gq
        · refine jv_iconst (nI 0) h dX2_readsPeople_40 (by decide) ?_
          exact jv_zret h hr dX2_readsPeople_41 (by first | rfl | exact bI_nar _) ⟨_, rfl, rfl, by
    have g1 := g0
    rw [show 6 - i = (6 - (i + 1)) + 1 by omega, ppP_s, if_neg (by rw [c37]; decide)] at g1
    rw [← g1]
    exact ⟨rfl, rfl, fun a h1 h2 => by rw [u2 a h1 h2]; exact k2 a h1 h2, fun q hq => by rw [u3 q hq]; exact k3 q hq, u4, u5, (fun z => by cases z), (u7 c37).2.1.trans (by rw [fq.1]), (u7 c37).2.2.1.trans (by rw [fq.2])⟩⟩
      refine jv_iload_n h dX2_readsPeople_10 rfl ?_
      refine jv_bipush (nI 6) h dX2_readsPeople_11 (by decide) ?_
      refine jv_nge 48 h dX2_readsPeople_13 (by decide) (by repeat (with_reducible first | exact NF_nI _ | assumption | refine NF_add ?_ ?_ | refine NF_mul ?_ ?_)) (by repeat (with_reducible first | exact NF_nI _ | assumption | refine NF_add ?_ ?_ | refine NF_mul ?_ ?_)) ⟨by omega, by omega⟩ (fun c13 => ?_) (fun c13 => ?_)
      · have z1 := f1 (by omega)
        rw [if_neg (fun q => q.1 (by omega))] at z1
        have U48 := hj48 p1 M1 hp1 z1 f2 f3 f4 f5
        exact U48
      · refine jv_iload_n h dX2_readsPeople_16 rfl ?_
        refine jv_zle 32 h dX2_readsPeople_17 (by decide) (by repeat (with_reducible first | exact NF_nI _ | assumption | refine NF_add ?_ ?_ | refine NF_mul ?_ ?_)) (by omega) (fun c17 => ?_) (fun c17 => ?_)
        · have z1 := f0 (by omega)
          have e6 : 6 - i = 6 := by omega
          have U32 := hj32 p1 M1 hp1 (by omega) (by rw [e6]; exact z1) f2 f3 f4 f5
          exact U32
        · refine jv_aload_n h dX2_readsPeople_20 rfl ?_
          refine jv_bipush (nI 44) h dX2_readsPeople_21 (by decide) ?_
          refine jv_VGi [_] h dX2_readsPeople_23 cw_X2_29 cf_7 (by assumption) (c_takes hZ f7 hA hp1 (NF_nI _) (by decide)) (by decide) rfl rfl (Nat.le_of_ble_eq_true rfl) ⟨Nat.zero_le _, Nat.zero_le _⟩ (fun v_23 Mi23 Ml23 hp23 => ?_)
          have hm9 := hp23.2.1
          subst Ml23
          obtain ⟨v8, -, e2, e3⟩ := hp23
          subst v_23
          refine jv_bne 32 h dX2_readsPeople_26 (by decide) (fun c26 => ?_) (fun c26 => ?_)
          · have z1 := f1 (by omega)
            have z6 : 6 - i ≠ 0 := by omega
            rw [if_pos (And.intro z6 c26)] at z1
            have z2 := tk_t c26
            have U32 := hj32 (sk t ln p1 + 1) Mi23 (by omega) (by omega) z1 (fun a h1 h2 => by rw [e2.1 a h1]; exact f2 a h1 h2) (fun q hq => by rw [e2.2 q hq]; exact f3 q hq) (by rw [e3, dg_p c26]) (f5.fr (by omega) (fun a h1 h2 => e2.1 a (by omega)))
            exact U32
          · have z1 := f1 (by omega)
            rw [if_neg (fun q => by rw [c26] at q; cases q.2)] at z1
            have U48 := hj48 (sk t ln p1) Mi23 (sk_c hp1).2.1 (by rw [sk_i hp1]; exact z1) (fun a h1 h2 => by rw [e2.1 a h1]; exact f2 a h1 h2) (fun q hq => by rw [e2.2 q hq]; exact f3 q hq) (by rw [e3, dg_q c26]) (f5.fr (by omega) (fun a h1 h2 => e2.1 a (by omega)))
            refine jv_goto 48 h dX2_readsPeople_29 (by decide) ?_
            exact U48
  exact hl10 8 0 p Q _ (by omega) (by omega) hp hq0 (fun _ => rfl) (fun z => absurd rfl z) (fun a h1 h2 => upd2_row _ _ (by omega)) (fun q hq => by rw [upd2_row _ _ (by omega)]) (by rw [upd2_row _ _ (by omega)]; exact r2) ⟨by rw [upd2_same, hq0], by rw [upd2_ne _ _ (by omega)]; exact hq1, by rw [upd2_ne _ _ (by omega)]; exact hq5, fun p hp => absurd hp (by omega)⟩ ⟨rfl, rfl⟩
set_option maxHeartbeats 4000000 in
set_option maxRecDepth 100000 in
theorem c_reads {g : GT} {T : TT} {Mi : MI} {Ml : ML} {R Z ln : Nat} {t : Nat → Nat} (hD : RdS g T R) (hZ : TapS g T Z) (hR9 : TapR Mi Z t ln 0) (hA : TA t ln) (hne : Z + 2 ≤ R) {D Q : Nat → Nat} (hq0 : Q 0 = 0) (hq1 : Mi (R + 3) 2 = nI (Q 1)) (hq5 : Mi (R + 3) 3 = nI (Q 5)) : Ct g yX2_reads cX2_reads 2 (some .boolean) 11 0 0 [.ref R, .ref Z] T Mi Ml (Gi T (fun rv Mi' Ml' => rv = bI (blP t ln D Q).1 ∧ Ml' = Ml ∧ (∀ a, a ≠ Z → (a ≤ R ∨ R + 11 ≤ a) → Mi' a = Mi a) ∧ (∀ q, q ≠ 2 → Mi' Z q = Mi Z q) ∧ Mi' Z 2 = nI (blP t ln D Q).2.1 ∧ (blP t ln D Q).2.1 ≤ ln ∧ ((blP t ln D Q).1 = true → Mi' (R + 1) 0 = nI (blP t ln D Q).2.2.1 ∧ (∀ k, k < 2 * (blP t ln D Q).2.2.1 → Mi' (R + 2) k = nI ((blP t ln D Q).2.2.2.1 k)) ∧ ScnR Mi' (R + 3) (blP t ln D Q).2.2.2.2) ∧ Mi' (R + 3) 2 = nI (Q 1) ∧ Mi' (R + 3) 3 = nI (Q 5))) := by
  refine Ct.of' (plainFor_of_name (by decide +kernel)) (by exact Nat.le_of_ble_eq_true rfl) ?_
  intro x hg hR h hr hnm hnl
  subst hg
  obtain ⟨d1, d2, d3, d4, d5⟩ := id hD
  obtain ⟨b1, b2, b3⟩ := id d4
  obtain ⟨s1, s2, s3, s4, s5⟩ := id d5
  obtain ⟨z1, z2, z3⟩ := id hZ
  obtain ⟨r1, r2, r3⟩ := id hR9
  obtain ⟨a1, a2⟩ := id hA
  refine jv_aload_n h dX2_reads_0 rfl ?_
  refine jv_aload_n h dX2_reads_1 rfl ?_
  refine jv_VGi [_] h dX2_reads_2 cw_X2_25 cf_2 (by assumption) (c_readsHigh hD hZ hR9 hA (Nat.zero_le _) hne) (by decide) rfl rfl (Nat.le_of_ble_eq_true rfl) ⟨Nat.zero_le _, Nat.zero_le _⟩ (fun v_2 Mi2 Ml2 hp2 => ?_)
  have hm9 := hp2.2.1
  subst Ml2
  obtain ⟨v9, -, i1, i2, i3, i4, i5⟩ := hp2
  subst v_2
  refine jv_beq 46 h dX2_reads_5 (by decide) (fun c5 => ?_) (fun c5 => ?_)
  · refine jv_iconst (nI 0) h dX2_reads_46 (by decide) ?_
    exact jv_zret h hr dX2_reads_47 rfl ⟨_, rfl, rfl, by
    have e : blP t ln D Q = (false, sk t ln 0, 0, D, Q) := (by unfold blP; rw [if_neg (by rw [c5]; decide)])
    rw [e]
    exact ⟨rfl, rfl, fun a h1 h2 => i1 a h1 (by omega), i2, by rw [i4, dg_q c5], (sk_c (Nat.zero_le _)).2.1, (fun z => by cases z), by rw [i1 _ (by omega) (by omega)]; exact hq1, by rw [i1 _ (by omega) (by omega)]; exact hq5⟩⟩
  · have hd0 := dg_t c5
    have R1 : TapR Mi2 Z t ln (sk t ln 0 + 1) := ⟨by rw [i2 1 (by decide)]; exact r1, by rw [i4, dg_p c5], fun k hk => by rw [i1 _ (by omega) (by omega)]; exact r3 k hk⟩
    have q1 : sk t ln 0 + 1 ≤ ln := by omega
    refine jv_aload_n h dX2_reads_8 rfl ?_
    refine jv_bipush (nI 59) h dX2_reads_9 (by decide) ?_
    refine jv_VGi [_] h dX2_reads_11 cw_X2_29 cf_7 (by assumption) (c_takes hZ R1 hA q1 (NF_nI _) (by decide)) (by decide) rfl rfl (Nat.le_of_ble_eq_true rfl) ⟨Nat.zero_le _, Nat.zero_le _⟩ (fun v_11 Mi11 Ml11 hp11 => ?_)
    have hm9 := hp11.2.1
    subst Ml11
    obtain ⟨v9, -, e2, e3⟩ := hp11
    subst v_11
    have F2 : ∀ a, a ≠ Z → a ≠ R + 1 → Mi11 a = Mi a := fun a h1 h2 => (e2.1 a h1).trans (i1 a h1 h2)
    have G2 : ∀ q, q ≠ 2 → Mi11 Z q = Mi Z q := fun q hq => (e2.2 q hq).trans (i2 q hq)
    refine jv_beq 46 h dX2_reads_14 (by decide) (fun c14 => ?_) (fun c14 => ?_)
    · refine jv_iconst (nI 0) h dX2_reads_46 (by decide) ?_
      exact jv_zret h hr dX2_reads_47 rfl ⟨_, rfl, rfl, by
    have e : blP t ln D Q = (false, sk t ln (sk t ln 0 + 1), 0, D, Q) := (by unfold blP; rw [if_pos c5, if_neg (by rw [c14]; decide)])
    rw [e]
    exact ⟨rfl, rfl, fun a h1 h2 => F2 a h1 (by omega), G2, by rw [e3, dg_q c14], (sk_c q1).2.1, (fun z => by cases z), by rw [F2 _ (by omega) (by omega)]; exact hq1, by rw [F2 _ (by omega) (by omega)]; exact hq5⟩⟩
    · have q2 : sk t ln (sk t ln 0 + 1) + 1 ≤ ln := by have := tk_t c14; omega
      have R2 : TapR Mi11 Z t ln (sk t ln (sk t ln 0 + 1) + 1) := R1.fr e2 (by rw [e3, dg_p c14])
      have H2 : Mi11 (R + 1) 0 = nI (dgV t ln 0) := by rw [e2.1 _ (by omega)]; exact i5 c5
      refine jv_aload_n h dX2_reads_17 rfl ?_
      refine jv_aload_n h dX2_reads_18 rfl ?_
      refine jv_VGi [_] h dX2_reads_19 cw_X2_35 cf_2 (by assumption) (c_readsDays hD hZ R2 hA q2 hne (D := D) H2 (by omega)) (by decide) rfl rfl (Nat.le_of_ble_eq_true rfl) ⟨Nat.zero_le _, Nat.zero_le _⟩ (fun v_19 Mi19 Ml19 hp19 => ?_)
      have hm9 := hp19.2.1
      subst Ml19
      obtain ⟨v9, -, j1, j2, j3, j4, j5⟩ := hp19
      subst v_19
      have F3 : ∀ a, a ≠ Z → (a ≤ R ∨ R + 3 ≤ a) → Mi19 a = Mi a := fun a h1 h2 => (j1 a h1 (by omega)).trans (F2 a h1 (by omega))
      have G3 : ∀ q, q ≠ 2 → Mi19 Z q = Mi Z q := fun q hq => (j2 q hq).trans (G2 q hq)
      refine jv_beq 46 h dX2_reads_22 (by decide) (fun c22 => ?_) (fun c22 => ?_)
      · refine jv_iconst (nI 0) h dX2_reads_46 (by decide) ?_
        exact jv_zret h hr dX2_reads_47 rfl ⟨_, rfl, rfl, by
    have e : blP t ln D Q = (false, (dyP t ln (2 * dgV t ln 0) 0 (sk t ln (sk t ln 0 + 1) + 1) D).2.1, 0, D, Q) := (by unfold blP; rw [if_pos c5, if_pos c14, if_neg (by rw [c22]; decide)])
    rw [e]
    exact ⟨rfl, rfl, fun a h1 h2 => F3 a h1 (by omega), G3, j3, j4, (fun z => by cases z), by rw [F3 _ (by omega) (by omega)]; exact hq1, by rw [F3 _ (by omega) (by omega)]; exact hq5⟩⟩
      · have R3 : TapR Mi19 Z t ln (dyP t ln (2 * dgV t ln 0) 0 (sk t ln (sk t ln 0 + 1) + 1) D).2.1 := ⟨by rw [G3 1 (by decide)]; exact r1, j3, fun k hk => by rw [F3 _ (by omega) (by omega)]; exact r3 k hk⟩
        have q3 := j4
        refine jv_aload_n h dX2_reads_25 rfl ?_
        refine jv_bipush (nI 59) h dX2_reads_26 (by decide) ?_
        refine jv_VGi [_] h dX2_reads_28 cw_X2_29 cf_7 (by assumption) (c_takes hZ R3 hA q3 (NF_nI _) (by decide)) (by decide) rfl rfl (Nat.le_of_ble_eq_true rfl) ⟨Nat.zero_le _, Nat.zero_le _⟩ (fun v_28 Mi28 Ml28 hp28 => ?_)
        have hm9 := hp28.2.1
        subst Ml28
        obtain ⟨v9, -, n2, n3⟩ := hp28
        subst v_28
        have F4 : ∀ a, a ≠ Z → (a ≤ R ∨ R + 3 ≤ a) → Mi28 a = Mi a := fun a h1 h2 => (n2.1 a h1).trans (F3 a h1 h2)
        have G4 : ∀ q, q ≠ 2 → Mi28 Z q = Mi Z q := fun q hq => (n2.2 q hq).trans (G3 q hq)
        refine jv_beq 46 h dX2_reads_31 (by decide) (fun c31 => ?_) (fun c31 => ?_)
        · refine jv_iconst (nI 0) h dX2_reads_46 (by decide) ?_
          exact jv_zret h hr dX2_reads_47 rfl ⟨_, rfl, rfl, by
    have e : blP t ln D Q = (false, sk t ln (dyP t ln (2 * dgV t ln 0) 0 (sk t ln (sk t ln 0 + 1) + 1) D).2.1, 0, D, Q) := (by unfold blP; rw [if_pos c5, if_pos c14, if_pos c22, if_neg (by rw [c31]; decide)])
    rw [e]
    exact ⟨rfl, rfl, fun a h1 h2 => F4 a h1 (by omega), G4, by rw [n3, dg_q c31], (sk_c q3).2.1, (fun z => by cases z), by rw [F4 _ (by omega) (by omega)]; exact hq1, by rw [F4 _ (by omega) (by omega)]; exact hq5⟩⟩
        · have q4 : sk t ln (dyP t ln (2 * dgV t ln 0) 0 (sk t ln (sk t ln 0 + 1) + 1) D).2.1 + 1 ≤ ln := by have := tk_t c31; omega
          have R4 : TapR Mi28 Z t ln (sk t ln (dyP t ln (2 * dgV t ln 0) 0 (sk t ln (sk t ln 0 + 1) + 1) D).2.1 + 1) := R3.fr n2 (by rw [n3, dg_p c31])
          have H4 : Mi28 (R + 1) 0 = nI (dgV t ln 0) := by rw [n2.1 _ (by omega), j1 _ (by omega) (by omega)]; exact H2
          have Q41 : Mi28 (R + 3) 2 = nI (Q 1) := by rw [F4 _ (by omega) (by omega)]; exact hq1
          have Q45 : Mi28 (R + 3) 3 = nI (Q 5) := by rw [F4 _ (by omega) (by omega)]; exact hq5
          refine jv_aload_n h dX2_reads_34 rfl ?_
          refine jv_aload_n h dX2_reads_35 rfl ?_
          refine jv_VGi [_] h dX2_reads_36 cw_X2_38 cf_2 (by assumption) (c_readsPeople hD hZ R4 hA q4 hne H4 ⟨by omega, by omega⟩ hq0 Q41 Q45) (by decide) rfl rfl (Nat.le_of_ble_eq_true rfl) ⟨Nat.zero_le _, Nat.zero_le _⟩ (fun v_36 Mi36 Ml36 hp36 => ?_)
          have hm9 := hp36.2.1
          subst Ml36
          obtain ⟨v9, -, m1, m2, m3, m4, m5, m6⟩ := hp36
          subst v_36
          have hbl : blP t ln D Q = ((ppP t ln (dgV t ln 0) 6 Q (sk t ln (dyP t ln (2 * dgV t ln 0) 0 (sk t ln (sk t ln 0 + 1) + 1) D).2.1 + 1)).1, (ppP t ln (dgV t ln 0) 6 Q (sk t ln (dyP t ln (2 * dgV t ln 0) 0 (sk t ln (sk t ln 0 + 1) + 1) D).2.1 + 1)).2.1, dgV t ln 0, (dyP t ln (2 * dgV t ln 0) 0 (sk t ln (sk t ln 0 + 1) + 1) D).2.2, (ppP t ln (dgV t ln 0) 6 Q (sk t ln (dyP t ln (2 * dgV t ln 0) 0 (sk t ln (sk t ln 0 + 1) + 1) D).2.1 + 1)).2.2) := (by unfold blP; rw [if_pos c5, if_pos c14, if_pos c22, if_pos c31])
          refine jv_beq 46 h dX2_reads_39 (by decide) (fun c39 => ?_) (fun c39 => ?_)
          · refine jv_iconst (nI 0) h dX2_reads_46 (by decide) ?_
            exact jv_zret h hr dX2_reads_47 rfl ⟨_, rfl, rfl, by
    rw [hbl]
    exact ⟨by rw [c39]; rfl, rfl, fun a h1 h2 => (m1 a h1 (by omega)).trans (F4 a h1 (by omega)), fun q hq => (m2 q hq).trans (G4 q hq), m3, m4, (fun z => absurd z (by show ¬ _ = true; rw [c39]; decide)), m6⟩⟩
          · refine jv_iconst (nI 1) h dX2_reads_42 (by decide) ?_
            refine jv_goto 47 h dX2_reads_43 (by decide) ?_
            exact jv_zret h hr dX2_reads_47 rfl ⟨_, rfl, rfl, by
    rw [hbl]
    exact ⟨by rw [c39]; rfl, rfl, fun a h1 h2 => (m1 a h1 (by omega)).trans (F4 a h1 (by omega)), fun q hq => (m2 q hq).trans (G4 q hq), m3, m4, (fun z => ⟨by rw [m1 _ (by omega) (by omega)]; exact H4, fun k hk => by rw [m1 _ (by omega) (by omega), n2.1 _ (by omega)]; exact j5 c22 k hk, m5 z⟩), m6⟩⟩
