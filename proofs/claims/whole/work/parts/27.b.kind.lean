set_option maxHeartbeats 4000000 in
set_option maxRecDepth 100000 in
theorem c_scoder {g : GT} {T : TT} {Mi : MI} {Ml : ML}  : Ct g yJ0_coder_7d493 cJ0_coder_7d493 1 (some .byte) 1 0 0 [.ref (gS g)] T Mi Ml (Ri T Mi Ml 0) := by
  refine Ct.of' (by decide +kernel) (by exact Nat.le_of_ble_eq_true rfl) ?_
  intro x hg hR h hr hnm hnl
  subst hg
  refine jv_comp h dJ0_coder_7d493_0 gw_477 ?_
  refine jv_if_eq 13 h dJ0_coder_7d493_3 (by decide) (fun c3 => ?_) (fun c3 => ?_)
  · exact absurd c3 (by decide)
  · refine jv_aload_n h dJ0_coder_7d493_6 rfl ?_
    refine jv_scod h dJ0_coder_7d493_7 gw_1236 ?_
    refine jv_goto 14 h dJ0_coder_7d493_10 (by decide) ?_
    exact jv_zret h hr dJ0_coder_7d493_14 rfl ⟨rfl, rfl, rfl, rfl⟩
set_option maxHeartbeats 4000000 in
set_option maxRecDepth 100000 in
theorem c_isLatin1 {g : GT} {T : TT} {Mi : MI} {Ml : ML}  : Ct g yJ0_isLatin1_aae02 cJ0_isLatin1_aae02 1 (some .boolean) 1 0 0 [.ref (gS g)] T Mi Ml (Ri T Mi Ml (nI 1)) := by
  refine Ct.of' (by decide +kernel) (by exact Nat.le_of_ble_eq_true rfl) ?_
  intro x hg hR h hr hnm hnl
  subst hg
  refine jv_comp h dJ0_isLatin1_aae02_0 gw_477 ?_
  refine jv_if_eq 17 h dJ0_isLatin1_aae02_3 (by decide) (fun c3 => ?_) (fun c3 => ?_)
  · exact absurd c3 (by decide)
  · refine jv_aload_n h dJ0_isLatin1_aae02_6 rfl ?_
    refine jv_scod h dJ0_isLatin1_aae02_7 gw_1236 ?_
    refine jv_if_ne 17 h dJ0_isLatin1_aae02_10 (by decide) (fun c10 => ?_) (fun c10 => ?_)
    · exact absurd rfl c10
    · refine jv_iconst (nI 1) h dJ0_isLatin1_aae02_13 (by decide) ?_
      refine jv_goto 18 h dJ0_isLatin1_aae02_14 (by decide) ?_
      exact jv_zret h hr dJ0_isLatin1_aae02_18 rfl ⟨rfl, rfl, rfl, rfl⟩
set_option maxHeartbeats 4000000 in
set_option maxRecDepth 100000 in
theorem c_slength {g : GT} {T : TT} {Mi : MI} {Ml : ML}  : Ct g yJ0_length_8abf5 cJ0_length_8abf5 1 (some .int) 2 0 0 [.ref (gS g)] T Mi Ml (Ri T Mi Ml (nI 5)) := by
  refine Ct.of' (by decide +kernel) (by exact Nat.le_of_ble_eq_true rfl) ?_
  intro x hg hR h hr hnm hnl
  subst hg
  refine jv_aload_n h dJ0_length_8abf5_0 rfl ?_
  refine jv_sval h dJ0_length_8abf5_1 gw_1237 ?_
  refine jv_blen h dJ0_length_8abf5_4 ?_
  refine jv_aload_n h dJ0_length_8abf5_5 rfl ?_
  refine jv_VSRi [] h dJ0_length_8abf5_6 cw_J0_335 rfl c_scoder (by decide) rfl rfl (Nat.le_of_ble_eq_true rfl) ⟨Nat.zero_le _, Nat.zero_le _⟩ ?_
  refine jv_ishr h dJ0_length_8abf5_9 ?_
  exact jv_iret h hr dJ0_length_8abf5_10 ⟨by rw [show nI 5 >>> ((0 : Int32) &&& 31) = nI 5 from by decide], rfl, rfl, rfl⟩
set_option maxHeartbeats 4000000 in
set_option maxRecDepth 100000 in
theorem c_canEnc {g : GT} {T : TT} {Mi : MI} {Ml : ML} {v : Int32} {k : Nat} (hv : NF v k) (hk : k < 128) : Ct g yJ1_canEncode_9a6ad cJ1_canEncode_9a6ad 1 (some .boolean) 1 0 0 [.int v] T Mi Ml (Ri T Mi Ml (nI 1)) := by
  refine Ct.of' (by decide +kernel) (by exact Nat.le_of_ble_eq_true rfl) ?_
  intro x hg hR h hr hnm hnl
  subst hg
  obtain rfl : v = nI k := hv
  refine jv_iload_n h dJ1_canEncode_9a6ad_0 rfl ?_
  refine jv_if_lt 15 h dJ1_canEncode_9a6ad_1 (by decide) (fun c1 => ?_) (fun c1 => ?_)
  · exact absurd c1 (nI_pos (by omega))
  · refine jv_iload_n h dJ1_canEncode_9a6ad_4 rfl ?_
    refine jv_sipush (nI 255) h dJ1_canEncode_9a6ad_5 (by decide) ?_
    refine jv_ngt 15 h dJ1_canEncode_9a6ad_8 (by decide) (by repeat (with_reducible first | exact NF_nI _ | assumption | refine NF_add ?_ ?_ | refine NF_mul ?_ ?_)) (by repeat (with_reducible first | exact NF_nI _ | assumption | refine NF_add ?_ ?_ | refine NF_mul ?_ ?_)) ⟨by omega, by omega⟩ (fun c8 => ?_) (fun c8 => ?_)
    · exact absurd c8 (by omega)
    · refine jv_iconst (nI 1) h dJ1_canEncode_9a6ad_11 (by decide) ?_
      refine jv_goto 16 h dJ1_canEncode_9a6ad_12 (by decide) ?_
      exact jv_zret h hr dJ1_canEncode_9a6ad_16 rfl ⟨rfl, rfl, rfl, rfl⟩
set_option maxHeartbeats 4000000 in
set_option maxRecDepth 100000 in
theorem c_max {g : GT} {T : TT} {Mi : MI} {Ml : ML} {u v : Int32} {m n : Nat} (hu : NF u m) (hv : NF v n) (hm : m < 2 ^ 31) (hn : n < 2 ^ 31) : Ct g yJ9_max_7cf53 cJ9_max_7cf53 2 (some .int) 1 0 0 [.int u, .int v] T Mi Ml (Ri T Mi Ml (nI (max m n))) := by
  refine Ct.of' (by decide +kernel) (by exact Nat.le_of_ble_eq_true rfl) ?_
  intro x hg hR h hr hnm hnl
  subst hg
  refine jv_iload_n h dJ9_max_7cf53_0 rfl ?_
  refine jv_iload_n h dJ9_max_7cf53_1 rfl ?_
  refine jv_nlt 9 h dJ9_max_7cf53_2 (by decide) (by repeat (with_reducible first | exact NF_nI _ | assumption | refine NF_add ?_ ?_ | refine NF_mul ?_ ?_)) (by repeat (with_reducible first | exact NF_nI _ | assumption | refine NF_add ?_ ?_ | refine NF_mul ?_ ?_)) ⟨by omega, by omega⟩ (fun c2 => ?_) (fun c2 => ?_)
  · refine jv_iload_n h dJ9_max_7cf53_9 rfl ?_
    exact jv_iret h hr dJ9_max_7cf53_10 ⟨by rw [hu, hv] at *; congr 3; omega, rfl, rfl, rfl⟩
  · refine jv_iload_n h dJ9_max_7cf53_5 rfl ?_
    refine jv_goto 10 h dJ9_max_7cf53_6 (by decide) ?_
    exact jv_iret h hr dJ9_max_7cf53_10 ⟨by rw [hu, hv] at *; congr 3; omega, rfl, rfl, rfl⟩
set_option maxHeartbeats 4000000 in
set_option maxRecDepth 100000 in
theorem c_ixc {g : GT} {T : TT} {Mi : MI} {Ml : ML} {v : Int32} {k : Nat} (hv : NF v k) (hk : k < 128) : Ct g yJ1_indexOfChar_4cfef cJ1_indexOfChar_4cfef 6 (some .int) 1 0 0 [.ref (gB g), .int v, .int (nI 0), .int (nI 5)] T Mi Ml (Ri T Mi Ml (if kiN k < 5 then nI (kiN k) else -1)) := by
  refine Ct.of' (by decide +kernel) (by exact Nat.le_of_ble_eq_true rfl) ?_
  intro x hg hR h hr hnm hnl
  subst hg
  obtain rfl : v = nI k := hv
  refine jv_iload_n h dJ1_indexOfChar_4cfef_0 rfl ?_
  refine jv_i2b h dJ1_indexOfChar_4cfef_1 ?_
  rw [i2b_id hk]
  refine jv_istore h dJ1_indexOfChar_4cfef_2 (lt_nl hnl (by decide)) ?_
  refine jv_iload_n h dJ1_indexOfChar_4cfef_4 rfl ?_
  refine jv_istore h dJ1_indexOfChar_4cfef_5 (lt_nl hnl (by decide)) ?_
  have hl7 : ∀ (n : Nat) (j : Nat), 5 - j < n → j ≤ 5 → (∀ i, i < j → kb i ≠ k) → V x 0 0 T Mi Ml 7 [some (.ref (gB x.1)), some (.int (nI k)), some (.int (nI 0)), some (.int (nI 5)), some (.int (nI k)), some (.int (nI j))] [] := by
    intro n
    induction n with
    | zero => intro j hN9 hj f1; exact absurd hN9 (by omega)
    | succ n ih =>
      intro j hN9 hj f1
      refine jv_iload h dJ1_indexOfChar_4cfef_7 rfl ?_
      refine jv_iload_n h dJ1_indexOfChar_4cfef_9 rfl ?_
      refine jv_nge 31 h dJ1_indexOfChar_4cfef_10 (by decide) (by repeat (with_reducible first | exact NF_nI _ | assumption | refine NF_add ?_ ?_ | refine NF_mul ?_ ?_)) (by repeat (with_reducible first | exact NF_nI _ | assumption | refine NF_add ?_ ?_ | refine NF_mul ?_ ?_)) ⟨by omega, by omega⟩ (fun c10 => ?_) (fun c10 => ?_)
      · refine jv_iconst (-1) h dJ1_indexOfChar_4cfef_31 (by decide) ?_
        exact jv_iret h hr dJ1_indexOfChar_4cfef_32 ⟨by rw [kb_no (fun i hi => f1 i (by omega)), if_neg (by omega)], rfl, rfl, rfl⟩
      · refine jv_aload_n h dJ1_indexOfChar_4cfef_13 rfl ?_
        refine jv_iload h dJ1_indexOfChar_4cfef_14 rfl ?_
        have hkb : kb j < 2 ^ 31 := by unfold kb; split; omega; split; omega; split; omega; split <;> omega
        refine jv_bald h dJ1_indexOfChar_4cfef_16 (NF_nI _) (by omega) ?_
        refine jv_iload h dJ1_indexOfChar_4cfef_17 rfl ?_
        refine jv_nne 25 h dJ1_indexOfChar_4cfef_19 (by decide) (by repeat (with_reducible first | exact NF_nI _ | assumption | refine NF_add ?_ ?_ | refine NF_mul ?_ ?_)) (by repeat (with_reducible first | exact NF_nI _ | assumption | refine NF_add ?_ ?_ | refine NF_mul ?_ ?_)) ⟨by omega, by omega⟩ (fun c19 => ?_) (fun c19 => ?_)
        · refine jv_iinc (nI (j + 1)) h dJ1_indexOfChar_4cfef_25 rfl (lt_nl hnl (by decide)) (nI_inc j) ?_
          refine jv_goto 7 h dJ1_indexOfChar_4cfef_28 (by decide) ?_
          exact ih (j + 1) (by omega) (by omega) (fun i hi => by
            by_cases hij : i = j
            · rw [hij]; exact c19
            · exact f1 i (by omega))
        · refine jv_iload h dJ1_indexOfChar_4cfef_22 rfl ?_
          exact jv_iret h hr dJ1_indexOfChar_4cfef_24 ⟨by rw [kb_ki (by omega) c19, if_pos (by omega)], rfl, rfl, rfl⟩
  exact hl7 6 0 (by omega) (by omega) (fun i hi => absurd hi (by omega))
set_option maxHeartbeats 4000000 in
set_option maxRecDepth 100000 in
theorem c_lix {g : GT} {T : TT} {Mi : MI} {Ml : ML} {v : Int32} {k : Nat} (hv : NF v k) (hk : k < 128) : Ct g yJ1_indexOf_4cfef cJ1_indexOf_4cfef 4 (some .int) 2 0 0 [.ref (gB g), .int v, .int (nI 0), .int (nI 5)] T Mi Ml (Ri T Mi Ml (if kiN k < 5 then nI (kiN k) else -1)) := by
  refine Ct.of' (by decide +kernel) (by exact Nat.le_of_ble_eq_true rfl) ?_
  intro x hg hR h hr hnm hnl
  subst hg
  refine jv_iload_n h dJ1_indexOf_4cfef_0 rfl ?_
  refine jv_SRi [_] h dJ1_indexOf_4cfef_1 cw_J1_88 (c_canEnc hv hk) (by decide) rfl rfl (Nat.le_of_ble_eq_true rfl) ⟨Nat.zero_le _, Nat.zero_le _⟩ ?_
  refine jv_if_ne 9 h dJ1_indexOf_4cfef_4 (by decide) (fun c4 => ?_) (fun c4 => ?_)
  · refine jv_iload_n h dJ1_indexOf_4cfef_9 rfl ?_
    refine jv_iconst (nI 0) h dJ1_indexOf_4cfef_10 (by decide) ?_
    refine jv_SRi [_, _] h dJ1_indexOf_4cfef_11 cw_J1_92 (c_max (NF_nI _) (NF_nI _) (by decide) (by decide)) (by decide) rfl rfl (Nat.le_of_ble_eq_true rfl) ⟨Nat.zero_le _, Nat.zero_le _⟩ ?_
    rw [show max 0 0 = 0 from rfl]
    refine jv_istore_n h dJ1_indexOf_4cfef_14 (lt_nl hnl (by decide)) ?_
    refine jv_iload_n h dJ1_indexOf_4cfef_15 rfl ?_
    refine jv_aload_n h dJ1_indexOf_4cfef_16 rfl ?_
    refine jv_blen h dJ1_indexOf_4cfef_17 ?_
    refine jv_SRi [_, _] h dJ1_indexOf_4cfef_18 cw_J1_38 (c_min (NF_nI _) (NF_nI _) (by decide) (by decide)) (by decide) rfl rfl (Nat.le_of_ble_eq_true rfl) ⟨Nat.zero_le _, Nat.zero_le _⟩ ?_
    rw [show min 5 5 = 5 from rfl]
    refine jv_istore_n h dJ1_indexOf_4cfef_21 (lt_nl hnl (by decide)) ?_
    refine jv_iload_n h dJ1_indexOf_4cfef_22 rfl ?_
    refine jv_iload_n h dJ1_indexOf_4cfef_23 rfl ?_
    refine jv_nlt 29 h dJ1_indexOf_4cfef_24 (by decide) (by repeat (with_reducible first | exact NF_nI _ | assumption | refine NF_add ?_ ?_ | refine NF_mul ?_ ?_)) (by repeat (with_reducible first | exact NF_nI _ | assumption | refine NF_add ?_ ?_ | refine NF_mul ?_ ?_)) ⟨by omega, by omega⟩ (fun c24 => ?_) (fun c24 => ?_)
    · refine jv_aload_n h dJ1_indexOf_4cfef_29 rfl ?_
      refine jv_iload_n h dJ1_indexOf_4cfef_30 rfl ?_
      refine jv_iload_n h dJ1_indexOf_4cfef_31 rfl ?_
      refine jv_iload_n h dJ1_indexOf_4cfef_32 rfl ?_
      refine jv_SRi [_, _, _, _] h dJ1_indexOf_4cfef_33 cw_J1_95 (c_ixc hv hk) (by decide) rfl rfl (Nat.le_of_ble_eq_true rfl) ⟨Nat.zero_le _, Nat.zero_le _⟩ ?_
      exact jv_iret h hr dJ1_indexOf_4cfef_36 ⟨rfl, rfl, rfl, rfl⟩
    · exact absurd c24 (by decide)
  · exact absurd c4 (by decide)
set_option maxHeartbeats 4000000 in
set_option maxRecDepth 100000 in
theorem c_six2 {g : GT} {T : TT} {Mi : MI} {Ml : ML} {v : Int32} {k : Nat} (hv : NF v k) (hk : k < 128) : Ct g yJ0_indexOf_7cf53 cJ0_indexOf_7cf53 3 (some .int) 6 0 0 [.ref (gS g), .int v, .int (nI 0)] T Mi Ml (Ri T Mi Ml (if kiN k < 5 then nI (kiN k) else -1)) := by
  refine Ct.of' (by decide +kernel) (by exact Nat.le_of_ble_eq_true rfl) ?_
  intro x hg hR h hr hnm hnl
  subst hg
  refine jv_aload_n h dJ0_indexOf_7cf53_0 rfl ?_
  refine jv_VSRi [] h dJ0_indexOf_7cf53_1 cw_J0_492 rfl c_isLatin1 (by decide) rfl rfl (Nat.le_of_ble_eq_true rfl) ⟨Nat.zero_le _, Nat.zero_le _⟩ ?_
  refine jv_if_eq 23 h dJ0_indexOf_7cf53_4 (by decide) (fun c4 => ?_) (fun c4 => ?_)
  · exact absurd c4 (by decide)
  · refine jv_aload_n h dJ0_indexOf_7cf53_7 rfl ?_
    refine jv_sval h dJ0_indexOf_7cf53_8 gw_1237 ?_
    refine jv_iload_n h dJ0_indexOf_7cf53_11 rfl ?_
    refine jv_iload_n h dJ0_indexOf_7cf53_12 rfl ?_
    refine jv_aload_n h dJ0_indexOf_7cf53_13 rfl ?_
    refine jv_VSRi [] h dJ0_indexOf_7cf53_14 cw_J0_505 rfl c_slength (by decide) rfl rfl (Nat.le_of_ble_eq_true rfl) ⟨Nat.zero_le _, Nat.zero_le _⟩ ?_
    refine jv_SRi [_, _, _, _] h dJ0_indexOf_7cf53_17 cw_J0_637 (c_lix hv hk) (by decide) rfl rfl (Nat.le_of_ble_eq_true rfl) ⟨Nat.zero_le _, Nat.zero_le _⟩ ?_
    refine jv_goto 36 h dJ0_indexOf_7cf53_20 (by decide) ?_
    exact jv_iret h hr dJ0_indexOf_7cf53_36 ⟨rfl, rfl, rfl, rfl⟩
set_option maxHeartbeats 4000000 in
set_option maxRecDepth 100000 in
theorem c_six1 {g : GT} {T : TT} {Mi : MI} {Ml : ML} {v : Int32} {k : Nat} (hv : NF v k) (hk : k < 128) : Ct g yJ0_indexOf_0f7a4 cJ0_indexOf_0f7a4 2 (some .int) 7 0 0 [.ref (gS g), .int v] T Mi Ml (Ri T Mi Ml (if kiN k < 5 then nI (kiN k) else -1)) := by
  refine Ct.of' (by decide +kernel) (by exact Nat.le_of_ble_eq_true rfl) ?_
  intro x hg hR h hr hnm hnl
  subst hg
  refine jv_aload_n h dJ0_indexOf_0f7a4_0 rfl ?_
  refine jv_iload_n h dJ0_indexOf_0f7a4_1 rfl ?_
  refine jv_iconst (nI 0) h dJ0_indexOf_0f7a4_2 (by decide) ?_
  refine jv_VSRi [_, _] h dJ0_indexOf_0f7a4_3 cw_J0_633 rfl (c_six2 hv hk) (by decide) rfl rfl (Nat.le_of_ble_eq_true rfl) ⟨Nat.zero_le _, Nat.zero_le _⟩ ?_
  exact jv_iret h hr dJ0_indexOf_0f7a4_6 ⟨rfl, rfl, rfl, rfl⟩
def kiB (t : Nat → Nat) (ln p : Nat) : Bool := decide (sk t ln p < ln ∧ kiN (t (sk t ln p)) < 5)
theorem ki_le {t : Nat → Nat} {ln p : Nat} (hp : p ≤ ln) : poB t ln p (kiB t ln p) ≤ ln := poB_le hp (fun h => by unfold kiB at h; exact (of_decide_eq_true h).1)

set_option maxHeartbeats 4000000 in
set_option maxRecDepth 100000 in
theorem c_takeKind {g : GT} {T : TT} {Mi : MI} {Ml : ML} {Z ln p : Nat} {t : Nat → Nat} (hZ : TapS g T Z) (hR9 : TapR Mi Z t ln p) (hA : TA t ln) (hp : p ≤ ln)  : Ct g yX8_takeKind cX8_takeKind 2 (some .int) 8 0 0 [.ref Z] T Mi Ml (Gi T (fun rv Mi' Ml' => rv = (if kiB t ln p = true then nI (kiN (t (sk t ln p))) else -4) ∧ Ml' = Ml ∧ TapF Mi Mi' Z ∧ Mi' Z 2 = nI (poB t ln p (kiB t ln p)))) := by
  refine Ct.of' (plainFor_of_name (by decide +kernel)) (by exact Nat.le_of_ble_eq_true rfl) ?_
  intro x hg hR h hr hnm hnl
  subst hg
  obtain ⟨z1, z2, z3⟩ := id hZ
  obtain ⟨r1, r2, r3⟩ := id hR9
  obtain ⟨a1, a2⟩ := id hA
  refine jv_aload_n h dX8_takeKind_0 rfl ?_
  refine jv_VGi [] h dX8_takeKind_1 cw_X8_22 cf_7 (by assumption) (c_ends hZ hR9 hA hp) (by decide) rfl rfl (Nat.le_of_ble_eq_true rfl) ⟨Nat.zero_le _, Nat.zero_le _⟩ (fun v_1 Mi1 Ml1 hp1 => ?_)
  have hm9 := hp1.2.1
  subst Ml1
  obtain ⟨e1, -, e2, e3⟩ := hp1
  subst v_1
  obtain ⟨s1, s2, s3⟩ := sk_c (t := t) hp
  have e4 : sk t ln p < ln → Mi1 (Z + 1) (sk t ln p) = nI (t (sk t ln p)) := fun h => by rw [e2.1 _ (by omega)]; exact r3 _ h
  refine jv_beq 11 h dX8_takeKind_4 (by decide) (fun c4 => ?_) (fun c4 => ?_)
  · have c4b := of_decide_eq_false c4
    have e5 := e4 (by omega)
    have a3 := a2 (sk t ln p) (by omega)
    refine jv_ldcS h dX8_takeKind_11 ?_
    refine jv_aload_n h dX8_takeKind_13 rfl ?_
    refine jv_gr 0 h dX8_takeKind_14 cf_7 (by decide) gw_182 (by assumption) (by assumption) ?_
    refine jv_aload_n h dX8_takeKind_17 rfl ?_
    refine jv_gv 2 h dX8_takeKind_18 cf_7 (by decide) gw_185 (by assumption) (by assumption) ?_
    refine jv_iav h dX8_takeKind_21 (by assumption) (by repeat (with_reducible first | exact NF_nI _ | assumption | refine NF_add ?_ ?_ | refine NF_mul ?_ ?_)) ⟨by omega, by decide⟩ (by assumption) ?_
    refine jv_i2c h dX8_takeKind_22 ?_
    rw [i2c_id (by omega)]
    refine jv_VSRi [_] h dX8_takeKind_23 cw_X8_32 rfl (c_six1 (NF_nI _) (by omega)) (by decide) rfl rfl (Nat.le_of_ble_eq_true rfl) ⟨Nat.zero_le _, Nat.zero_le _⟩ ?_
    refine jv_istore_n h dX8_takeKind_26 (lt_nl hnl (by decide)) ?_
    refine jv_iload_n h dX8_takeKind_27 rfl ?_
    refine jv_iconst (nI 0) h dX8_takeKind_28 (by decide) ?_
    refine jv_kindsN h dX8_takeKind_29 (List.mem_of_getElem? (i := 9) rfl) ?_
    refine jv_klen h dX8_takeKind_32 ?_
    refine jv_iconst (nI 1) h dX8_takeKind_33 (by decide) ?_
    first | refine jv_isubN h dX8_takeKind_34 (by repeat (with_reducible first | exact NF_nI _ | assumption | refine NF_add ?_ ?_ | refine NF_mul ?_ ?_)) (by repeat (with_reducible first | exact NF_nI _ | assumption | refine NF_add ?_ ?_ | refine NF_mul ?_ ?_)) (by omega) ?_ | refine jv_isub h dX8_takeKind_34 ?_
    refine jv_SNRi [_, _, _] h dX8_takeKind_35 cw_X8_26 (c_within (m := 0) (n := 5) _ (by decide) (by decide)) (by decide) rfl rfl (Nat.le_of_ble_eq_true rfl) ⟨Nat.zero_le _, Nat.zero_le _⟩ ?_
    refine jv_bne 44 h dX8_takeKind_38 (by decide) (fun c38 => ?_) (fun c38 => ?_)
    · refine jv_aload_n h dX8_takeKind_44 rfl ?_
      refine jv_dup h dX8_takeKind_45 rfl ?_
      refine jv_gv 2 h dX8_takeKind_46 cf_7 (by decide) gw_185 (by assumption) (by assumption) ?_
      refine jv_iconst (nI 1) h dX8_takeKind_49 (by decide) ?_
      first | refine jv_iaddN h dX8_takeKind_50 (by repeat (with_reducible first | exact NF_nI _ | assumption | refine NF_add ?_ ?_ | refine NF_mul ?_ ?_)) (by repeat (with_reducible first | exact NF_nI _ | assumption | refine NF_add ?_ ?_ | refine NF_mul ?_ ?_)) ?_ | refine jv_iadd h dX8_takeKind_50 ?_
      refine jv_pi 2 h dX8_takeKind_51 cf_7 (by decide) gw_185 (by assumption) rfl rfl rfl ?_
      refine jv_iload_n h dX8_takeKind_54 rfl ?_
      exact jv_iret h hr dX8_takeKind_55 ⟨_, rfl, rfl, by
    first
    | exact absurd c38 (by decide)
    | (have hk5 : kiN (t (sk t ln p)) < 5 := (by
         by_cases hk : kiN (t (sk t ln p)) < 5
         · exact hk
         · rw [if_neg hk] at c38; exact absurd c38 (by decide))
       have e : kiB t ln p = true := (by unfold kiB; rw [decide_eq_true_iff]; omega)
       rw [e, if_pos hk5]
       exact ⟨rfl, rfl, e2.put, upd2_same _ _ _ _⟩)⟩
    · refine jv_bipush (-4) h dX8_takeKind_41 (by decide) ?_
      exact jv_iret h hr dX8_takeKind_43 ⟨_, rfl, rfl, by
    have e : kiB t ln p = false := (by
      unfold kiB
      rw [decide_eq_false_iff_not]
      intro z
      first
      | omega
      | (rw [if_pos z.2, isB_nI (by omega)] at c38
         have := of_decide_eq_false c38
         omega))
    rw [e]
    exact ⟨rfl, rfl, e2, e3⟩⟩
  · have c4b := of_decide_eq_true c4
    refine jv_iconst (-1) h dX8_takeKind_7 (by decide) ?_
    refine jv_goto 26 h dX8_takeKind_8 (by decide) ?_
    refine jv_istore_n h dX8_takeKind_26 (lt_nl hnl (by decide)) ?_
    refine jv_iload_n h dX8_takeKind_27 rfl ?_
    refine jv_iconst (nI 0) h dX8_takeKind_28 (by decide) ?_
    refine jv_kindsN h dX8_takeKind_29 (List.mem_of_getElem? (i := 9) rfl) ?_
    refine jv_klen h dX8_takeKind_32 ?_
    refine jv_iconst (nI 1) h dX8_takeKind_33 (by decide) ?_
    first | refine jv_isubN h dX8_takeKind_34 (by repeat (with_reducible first | exact NF_nI _ | assumption | refine NF_add ?_ ?_ | refine NF_mul ?_ ?_)) (by repeat (with_reducible first | exact NF_nI _ | assumption | refine NF_add ?_ ?_ | refine NF_mul ?_ ?_)) (by omega) ?_ | refine jv_isub h dX8_takeKind_34 ?_
    refine jv_SNRi [_, _, _] h dX8_takeKind_35 cw_X8_26 (c_within (m := 0) (n := 5) _ (by decide) (by decide)) (by decide) rfl rfl (Nat.le_of_ble_eq_true rfl) ⟨Nat.zero_le _, Nat.zero_le _⟩ ?_
    refine jv_bne 44 h dX8_takeKind_38 (by decide) (fun c38 => ?_) (fun c38 => ?_)
    · refine jv_aload_n h dX8_takeKind_44 rfl ?_
      refine jv_dup h dX8_takeKind_45 rfl ?_
      refine jv_gv 2 h dX8_takeKind_46 cf_7 (by decide) gw_185 (by assumption) (by assumption) ?_
      refine jv_iconst (nI 1) h dX8_takeKind_49 (by decide) ?_
      first | refine jv_iaddN h dX8_takeKind_50 (by repeat (with_reducible first | exact NF_nI _ | assumption | refine NF_add ?_ ?_ | refine NF_mul ?_ ?_)) (by repeat (with_reducible first | exact NF_nI _ | assumption | refine NF_add ?_ ?_ | refine NF_mul ?_ ?_)) ?_ | refine jv_iadd h dX8_takeKind_50 ?_
      refine jv_pi 2 h dX8_takeKind_51 cf_7 (by decide) gw_185 (by assumption) rfl rfl rfl ?_
      refine jv_iload_n h dX8_takeKind_54 rfl ?_
      exact jv_iret h hr dX8_takeKind_55 ⟨_, rfl, rfl, by
    first
    | exact absurd c38 (by decide)
    | (have hk5 : kiN (t (sk t ln p)) < 5 := (by
         by_cases hk : kiN (t (sk t ln p)) < 5
         · exact hk
         · rw [if_neg hk] at c38; exact absurd c38 (by decide))
       have e : kiB t ln p = true := (by unfold kiB; rw [decide_eq_true_iff]; omega)
       rw [e, if_pos hk5]
       exact ⟨rfl, rfl, e2.put, upd2_same _ _ _ _⟩)⟩
    · refine jv_bipush (-4) h dX8_takeKind_41 (by decide) ?_
      exact jv_iret h hr dX8_takeKind_43 ⟨_, rfl, rfl, by
    have e : kiB t ln p = false := (by
      unfold kiB
      rw [decide_eq_false_iff_not]
      intro z
      first
      | omega
      | (rw [if_pos z.2, isB_nI (by omega)] at c38
         have := of_decide_eq_false c38
         omega))
    rw [e]
    exact ⟨rfl, rfl, e2, e3⟩⟩
