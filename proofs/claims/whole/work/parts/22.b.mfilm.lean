set_option maxHeartbeats 4000000 in
set_option maxRecDepth 100000 in
theorem cm_film {g : GT} {T : TT} {Mi : MI} {Ml : ML} {Y : Nat} {S : Nat → Nat} (hM : ModS g T Y) (hN : NowR Mi (Y + 1) S) (hW : WF S) {q : SH} (hC : ShM Mi Ml Y q) (h19 : S 1 ≤ 9999) (f s n sh l i : Int32) : Ct g yX12_film cX12_film 9 (some .int) 5 0 0 [.ref Y, .int f, .int s, .int n, .int sh, .int l, .int i] T Mi Ml (Gi T (fun rv Mi' Ml' => rv = (sp_film S q f s n sh l i).1 ∧ (∀ a, a ≠ Y + 1 → a ≠ Y + 11 → Mi' a = Mi a) ∧ (∀ a, a ≠ Y + 9 → Ml' a = Ml a) ∧ NowR Mi' (Y + 1) S ∧ ShM Mi' Ml' Y (sp_film S q f s n sh l i).2)) := by
  refine Ct.of' (plainFor_of_name (by decide +kernel)) (by exact Nat.le_of_ble_eq_true rfl) ?_
  intro x hg hR h hr hnm hnl
  subst hg
  obtain ⟨hY, ⟨r0, a0⟩, ⟨r1, a1⟩, ⟨r5, a5⟩, ⟨r6, a6⟩, ⟨r7, a7⟩, ⟨r9, a9⟩, ⟨r12, a12⟩, ⟨r13, a13⟩, ⟨r14, a14⟩, ⟨r15, a15⟩, r16, a16⟩ := id hM
  obtain ⟨w0, w1, w2, w3, w4, w5, w6, w7⟩ := id hW
  refine jv_aload_n h dX12_film_0 rfl ?_
  refine jv_iload_n h dX12_film_1 rfl ?_
  refine jv_VRi [_] h dX12_film_2 cw_X12_70 cf_11 (by assumption) (cm_isFloor (by assumption) (by assumption) (by assumption) _) (by decide) rfl rfl (Nat.le_of_ble_eq_true rfl) ⟨Nat.zero_le _, Nat.zero_le _⟩ ?_
  refine jv_beq 46 h dX12_film_5 (by decide) (fun c5 => ?_) (fun c5 => ?_)
  · refine jv_iconst (-1) h dX12_film_46 (by decide) ?_
    exact jv_iret h hr dX12_film_47 ⟨_, rfl, rfl, by
    have e : sp_film S q f s n sh l i = (-1, q) := (by unfold sp_film; rw [if_neg (by simp_all)])
    rw [e]
    exact ⟨rfl, fun _ _ _ => rfl, fun _ _ => rfl, hN, hC⟩⟩
  · refine jv_iload_n h dX12_film_8 rfl ?_
    refine jv_i2l h dX12_film_9 ?_
    refine jv_lconst (lN 0) h dX12_film_10 (by decide) ?_
    refine jv_lconst (lN 1) h dX12_film_11 (by decide) ?_
    refine jv_SRi [_, _, _] h dX12_film_12 cw_X12_44 (c_mwithin (m := 0) (n := 2) _ (by decide) (by decide)) (by decide) rfl rfl (Nat.le_of_ble_eq_true rfl) ⟨Nat.zero_le _, Nat.zero_le _⟩ ?_
    refine jv_beq 46 h dX12_film_15 (by decide) (fun c15 => ?_) (fun c15 => ?_)
    · refine jv_iconst (-1) h dX12_film_46 (by decide) ?_
      exact jv_iret h hr dX12_film_47 ⟨_, rfl, rfl, by
    have e : sp_film S q f s n sh l i = (-1, q) := (by unfold sp_film; rw [if_neg (by simp_all)])
    rw [e]
    exact ⟨rfl, fun _ _ _ => rfl, fun _ _ => rfl, hN, hC⟩⟩
    · refine jv_iload_n h dX12_film_18 rfl ?_
      refine jv_i2l h dX12_film_19 ?_
      refine jv_lconst (lN 1) h dX12_film_20 (by decide) ?_
      refine jv_ldc2 h dX12_film_21 gw_1028 ?_
      refine jv_SRi [_, _, _] h dX12_film_24 cw_X12_44 (c_mwithin (m := 1) (n := 25) _ (by decide) (by decide)) (by decide) rfl rfl (Nat.le_of_ble_eq_true rfl) ⟨Nat.zero_le _, Nat.zero_le _⟩ ?_
      refine jv_beq 46 h dX12_film_27 (by decide) (fun c27 => ?_) (fun c27 => ?_)
      · refine jv_iconst (-1) h dX12_film_46 (by decide) ?_
        exact jv_iret h hr dX12_film_47 ⟨_, rfl, rfl, by
    have e : sp_film S q f s n sh l i = (-1, q) := (by unfold sp_film; rw [if_neg (by simp_all)])
    rw [e]
    exact ⟨rfl, fun _ _ _ => rfl, fun _ _ => rfl, hN, hC⟩⟩
      · refine jv_iload h dX12_film_30 rfl ?_
        refine jv_SRi [_] h dX12_film_32 cw_X12_214 (cm_isSheet _) (by decide) rfl rfl (Nat.le_of_ble_eq_true rfl) ⟨Nat.zero_le _, Nat.zero_le _⟩ ?_
        refine jv_beq 46 h dX12_film_35 (by decide) (fun c35 => ?_) (fun c35 => ?_)
        · refine jv_iconst (-1) h dX12_film_46 (by decide) ?_
          exact jv_iret h hr dX12_film_47 ⟨_, rfl, rfl, by
    have e : sp_film S q f s n sh l i = (-1, q) := (by unfold sp_film; rw [if_neg (by simp_all)])
    rw [e]
    exact ⟨rfl, fun _ _ _ => rfl, fun _ _ => rfl, hN, hC⟩⟩
        · refine jv_iload h dX12_film_38 rfl ?_
          refine jv_SRi [_] h dX12_film_40 cw_X12_217 (cm_isLane _) (by decide) rfl rfl (Nat.le_of_ble_eq_true rfl) ⟨Nat.zero_le _, Nat.zero_le _⟩ ?_
          refine jv_bne 48 h dX12_film_43 (by decide) (fun c43 => ?_) (fun c43 => ?_)
          · obtain ⟨f9, rfl, -, hf9⟩ := isB_t c5
            obtain ⟨s9, rfl, -, hs9⟩ := isB_t c15
            obtain ⟨n9, rfl, hn1, hn2⟩ := isB_t c27
            obtain ⟨h9, rfl, -, hh9⟩ := isB_t c35
            obtain ⟨l9, rfl, -, hl9⟩ := isB_t c43
            obtain ⟨t1, t2, t3⟩ := hC h9 hh9
            have hsp : sp_film S q (nI f9) (nI s9) (nI n9) (nI h9) (nI l9) i = (if rfN (q.1 h9) l9 i (nI n9) (q.2.1 h9) = 0 then (nI n9, shSet q h9 (q.1 h9) (q.2.1 h9) (fiI S f9 s9 (q.2.2 h9) (pn i) n9)) else (rfN (q.1 h9) l9 i (nI n9) (q.2.1 h9), q)) := (by unfold sp_film; rw [if_pos ⟨by assumption, by assumption, by assumption, by assumption, by assumption⟩, pn_nI (by omega), pn_nI (by omega), pn_nI (by omega), pn_nI (by omega), pn_nI (by omega)])
            refine jv_aload_n h dX12_film_48 rfl ?_
            refine jv_iload h dX12_film_49 rfl ?_
            refine jv_iload h dX12_film_51 rfl ?_
            refine jv_iload h dX12_film_53 rfl ?_
            refine jv_iload_n h dX12_film_55 rfl ?_
            refine jv_VRi [_, _, _, _] h dX12_film_56 cw_X12_220 cf_11 (by assumption) (cm_why hM hC (NF_nI _) hh9 (NF_nI _) hl9 _ _) (by decide) rfl rfl (Nat.le_of_ble_eq_true rfl) ⟨Nat.zero_le _, Nat.zero_le _⟩ ?_
            refine jv_istore h dX12_film_59 (lt_nl hnl (by decide)) ?_
            refine jv_iload h dX12_film_61 rfl ?_
            refine jv_if_ge 69 h dX12_film_63 (by decide) (fun c63 => ?_) (fun c63 => ?_)
            · have c63' := rfN_ge c63
              obtain ⟨k1, k2⟩ := rfN_0 c63'
              obtain ⟨t4, t5, t6⟩ := t3 (by omega)
              obtain ⟨a9, b9, rfl, hb9, hab⟩ := hoB_t k2
              obtain rfl : n9 = b9 := NF_inj hb9 (by omega) (by omega)
              rw [pn_nI (by omega)] at hsp
              refine jv_iconst (nI 0) h dX12_film_69 (by decide) ?_
              refine jv_istore h dX12_film_70 (lt_nl hnl (by decide)) ?_
              have hl72 : ∀ (n : Nat) (k : Nat) (M0 : MI), 54 - k < n → k ≤ 54 → (∀ a, a ≠ Y + 11 → M0 a = Mi a) → (∀ j, j < k → M0 (Y + 11) j = eN j (S j)) → V x 0 0 T M0 Ml 72 [some (.ref Y), some (.int (nI f9)), some (.int (nI s9)), some (.int (nI n9)), some (.int (nI h9)), some (.int (nI l9)), some (.int (nI a9)), some (.int 0), some (.int (nI k))] [] := by
                intro n
                induction n with
                | zero => intro k M0 hN9 hk e1 e2; exact absurd hN9 (by omega)
                | succ n ih =>
                  intro k M0 hN9 hk e1 e2
                  have hN0 : NowR M0 (Y + 1) S := hN.fr (e1 _ (by omega))
                  refine jv_iload h dX12_film_72 rfl ?_
                  refine jv_bipush (nI 54) h dX12_film_74 (by decide) ?_
                  refine jv_nge 99 h dX12_film_76 (by decide) (by repeat (with_reducible first | exact NF_nI _ | assumption | refine NF_add ?_ ?_ | refine NF_mul ?_ ?_)) (by repeat (with_reducible first | exact NF_nI _ | assumption | refine NF_add ?_ ?_ | refine NF_mul ?_ ?_)) ⟨by omega, by omega⟩ (fun c76 => ?_) (fun c76 => ?_)
                  · refine jv_iconst (nI 0) h dX12_film_99 (by decide) ?_
                    refine jv_istore h dX12_film_100 (lt_nl hnl (by decide)) ?_
                    have hl102 : ∀ (n : Nat) (k : Nat) (M1 : MI) (L1 : ML), n9 - k < n → k ≤ n9 → (∀ a, a ≠ Y + 1 → a ≠ Y + 11 → M1 a = Mi a) → (∀ j, j < 54 → M1 (Y + 11) j = eN j (S j)) → NowR M1 (Y + 1) (goT S k) → (∀ a, a ≠ Y + 9 → L1 a = Ml a) → (∀ j, (j < 24 * h9 ∨ 24 * h9 + 24 ≤ j) → L1 (Y + 9) j = Ml (Y + 9) j) → (∀ j, j < 24 → L1 (Y + 9) (24 * h9 + j) = fiI S f9 s9 (q.2.2 h9) a9 k j) → V x 0 0 T M1 L1 102 [some (.ref Y), some (.int (nI f9)), some (.int (nI s9)), some (.int (nI n9)), some (.int (nI h9)), some (.int (nI l9)), some (.int (nI a9)), some (.int 0), some (.int (nI k))] [] := by
                      intro n
                      induction n with
                      | zero => intro k M1 L1 hN9 hk f1 f2 f3 f4 f5 f6; exact absurd hN9 (by omega)
                      | succ n ih =>
                        intro k M1 L1 hN9 hk f1 f2 f3 f4 f5 f6
                        refine jv_iload h dX12_film_102 rfl ?_
                        refine jv_iload_n h dX12_film_104 rfl ?_
                        refine jv_nge 155 h dX12_film_105 (by decide) (by repeat (with_reducible first | exact NF_nI _ | assumption | refine NF_add ?_ ?_ | refine NF_mul ?_ ?_)) (by repeat (with_reducible first | exact NF_nI _ | assumption | refine NF_add ?_ ?_ | refine NF_mul ?_ ?_)) ⟨by omega, by omega⟩ (fun c105 => ?_) (fun c105 => ?_)
                        · refine jv_iconst (nI 0) h dX12_film_155 (by decide) ?_
                          refine jv_istore h dX12_film_156 (lt_nl hnl (by decide)) ?_
                          have hkn : k = n9 := by omega
                          have hF6 := f6
                          rw [hkn] at hF6
                          have hl158 : ∀ (n : Nat) (k : Nat) (M2 : MI), 54 - k < n → k ≤ 54 → (∀ a, a ≠ Y + 1 → a ≠ Y + 11 → M2 a = Mi a) → (∀ j, j < 54 → M2 (Y + 11) j = eN j (S j)) → (∀ j, j < k → M2 (Y + 1) j = eN j (S j)) → V x 0 0 T M2 L1 158 [some (.ref Y), some (.int (nI f9)), some (.int (nI s9)), some (.int (nI n9)), some (.int (nI h9)), some (.int (nI l9)), some (.int (nI a9)), some (.int 0), some (.int (nI k))] [] := by
                            intro n
                            induction n with
                            | zero => intro k M2 hN9 hk g1 g2 g3; exact absurd hN9 (by omega)
                            | succ n ih =>
                              intro k M2 hN9 hk g1 g2 g3
                              refine jv_iload h dX12_film_158 rfl ?_
                              refine jv_bipush (nI 54) h dX12_film_160 (by decide) ?_
                              refine jv_nge 185 h dX12_film_162 (by decide) (by repeat (with_reducible first | exact NF_nI _ | assumption | refine NF_add ?_ ?_ | refine NF_mul ?_ ?_)) (by repeat (with_reducible first | exact NF_nI _ | assumption | refine NF_add ?_ ?_ | refine NF_mul ?_ ?_)) ⟨by omega, by omega⟩ (fun c162 => ?_) (fun c162 => ?_)
                              · refine jv_iload_n h dX12_film_185 rfl ?_
                                exact jv_iret h hr dX12_film_186 ⟨_, rfl, rfl, by
    rw [hsp, if_pos c63']
    exact ⟨rfl, g1, f4, fun j hj => g3 j (by omega), hC.upd hh9 (fun j _ => by rw [g1 _ (by omega) (by omega)]) (fun j _ => by rw [g1 _ (by omega) (by omega)]) f5 (by rw [g1 _ (by omega) (by omega)]; exact t1) t2 (fun _ => ⟨by rw [g1 _ (by omega) (by omega)]; exact t4, t5, hF6⟩)⟩⟩
                              · refine jv_aload_n h dX12_film_165 rfl ?_
                                refine jv_gr 0 h dX12_film_166 cf_11 (by decide) gw_900 (by assumption) (by assumption) ?_
                                refine jv_iload h dX12_film_169 rfl ?_
                                refine jv_aload_n h dX12_film_171 rfl ?_
                                refine jv_gr 16 h dX12_film_172 cf_11 (by decide) gw_916 (by assumption) (by assumption) ?_
                                refine jv_iload h dX12_film_175 rfl ?_
                                refine jv_iav h dX12_film_177 (by assumption) (by repeat (with_reducible first | exact NF_nI _ | assumption | refine NF_add ?_ ?_ | refine NF_mul ?_ ?_)) ⟨by omega, by decide⟩ (by exact g2 _ (by omega)) ?_
                                refine jv_iast h dX12_film_178 (by assumption) (by repeat (with_reducible first | exact NF_nI _ | assumption | refine NF_add ?_ ?_ | refine NF_mul ?_ ?_)) ⟨by omega, by decide⟩ ?_
                                refine jv_iinc (nI (k + 1)) h dX12_film_179 rfl (lt_nl hnl (by decide)) (nI_inc k) ?_
                                refine jv_goto 158 h dX12_film_182 (by decide) ?_
                                exact ih (k + 1) _ (by omega) (by omega) (fun a h1 h2 => by rw [upd2_row _ _ h1]; exact g1 a h1 h2) (fun j hj => by rw [upd2_row _ _ (by omega)]; exact g2 j hj) (fun j hj => by
                                  by_cases hjk : j = k
                                  · rw [hjk, upd2_same]
                                  · rw [upd2_ne _ _ (by omega)]; exact g3 j (by omega))
                          exact hl158 55 0 _ (by omega) (by omega) f1 f2 (fun j hj => absurd hj (by omega))
                        · obtain ⟨hWk, hk1, hk0, hk2⟩ := goT_WF hW h19 k (by omega)
                          obtain ⟨hWk', hk1', hk0', hk2'⟩ := goT_WF hW h19 (k + 1) (by omega)
                          rw [goT_s] at hWk' hk1' hk0' hk2'
                          have hpb := pbN_lt (h := S 2) (f := f9) (s := s9) (by omega)
                          have hci := ciN_lt (h := S 2) (c := pbN (S 2) f9 s9) (s := S 1 + (k + 1)) (by omega)
                          refine jv_aload_n h dX12_film_108 rfl ?_
                          refine jv_VGv [] h dX12_film_109 cw_X12_158 cf_11 (by assumption) (cm_goesOn hM f3 hWk (by omega)) (by decide) rfl rfl (Nat.le_of_ble_eq_true rfl) ⟨Nat.zero_le _, Nat.zero_le _⟩ (fun Mi109 Ml109 hp109 => ?_)
                          have hm9 := hp109.1
                          subst Ml109
                          obtain ⟨-, j1, j2⟩ := hp109
                          refine jv_aload_n h dX12_film_112 rfl ?_
                          refine jv_gr 14 h dX12_film_113 cf_11 (by decide) gw_914 (by assumption) (by assumption) ?_
                          refine jv_bipush (nI 24) h dX12_film_116 (by decide) ?_
                          refine jv_iload h dX12_film_118 rfl ?_
                          first | refine jv_imulN h dX12_film_120 (by repeat (with_reducible first | exact NF_nI _ | assumption | refine NF_add ?_ ?_ | refine NF_mul ?_ ?_)) (by repeat (with_reducible first | exact NF_nI _ | assumption | refine NF_add ?_ ?_ | refine NF_mul ?_ ?_)) ?_ | refine jv_imul h dX12_film_120 ?_
                          refine jv_iload h dX12_film_121 rfl ?_
                          first | refine jv_iaddN h dX12_film_123 (by repeat (with_reducible first | exact NF_nI _ | assumption | refine NF_add ?_ ?_ | refine NF_mul ?_ ?_)) (by repeat (with_reducible first | exact NF_nI _ | assumption | refine NF_add ?_ ?_ | refine NF_mul ?_ ?_)) ?_ | refine jv_iadd h dX12_film_123 ?_
                          refine jv_iload h dX12_film_124 rfl ?_
                          first | refine jv_iaddN h dX12_film_126 (by repeat (with_reducible first | exact NF_nI _ | assumption | refine NF_add ?_ ?_ | refine NF_mul ?_ ?_)) (by repeat (with_reducible first | exact NF_nI _ | assumption | refine NF_add ?_ ?_ | refine NF_mul ?_ ?_)) ?_ | refine jv_iadd h dX12_film_126 ?_
                          refine jv_aload_n h dX12_film_127 rfl ?_
                          refine jv_aload_n h dX12_film_128 rfl ?_
                          refine jv_aload_n h dX12_film_129 rfl ?_
                          refine jv_iload_n h dX12_film_130 rfl ?_
                          refine jv_iload_n h dX12_film_131 rfl ?_
                          refine jv_VRi [_, _] h dX12_film_132 cw_X12_142 cf_11 (by assumption) (cm_placeAt hM j2 hWk' (NF_nI _) (NF_nI _) ⟨by omega, hs9⟩) (by decide) rfl rfl (Nat.le_of_ble_eq_true rfl) ⟨Nat.zero_le _, Nat.zero_le _⟩ ?_
                          rw [hk2']
                          refine jv_aload_n h dX12_film_135 rfl ?_
                          refine jv_gr 0 h dX12_film_136 cf_11 (by decide) gw_900 (by assumption) (by assumption) ?_
                          refine jv_iconst (nI 1) h dX12_film_139 (by decide) ?_
                          refine jv_iav h dX12_film_140 (by assumption) (by repeat (with_reducible first | exact NF_nI _ | assumption | refine NF_add ?_ ?_ | refine NF_mul ?_ ?_)) ⟨by omega, by decide⟩ (by exact j2.n1) ?_
                          rw [hk1']
                          refine jv_VRi [_, _] h dX12_film_141 cw_X12_145 cf_11 (by assumption) (cm_carIn hM j2 hWk' (NF_nI _) (NF_nI _) ⟨by omega, by omega⟩) (by decide) rfl rfl (Nat.le_of_ble_eq_true rfl) ⟨Nat.zero_le _, Nat.zero_le _⟩ ?_
                          rw [hk2']
                          refine jv_VRi [_] h dX12_film_144 cw_X12_95 cf_11 (by assumption) (cm_loadOf hM j2 hWk' (NF_nI _) (by omega)) (by decide) rfl rfl (Nat.le_of_ble_eq_true rfl) ⟨Nat.zero_le _, Nat.zero_le _⟩ ?_
                          rw [hk0']
                          refine jv_i2l h dX12_film_147 ?_
                          refine jv_last h dX12_film_148 (by assumption) (by repeat (with_reducible first | exact NF_nI _ | assumption | refine NF_add ?_ ?_ | refine NF_mul ?_ ?_)) ⟨by omega, by decide⟩ ?_
                          refine jv_iinc (nI (k + 1)) h dX12_film_149 rfl (lt_nl hnl (by decide)) (nI_inc k) ?_
                          refine jv_goto 102 h dX12_film_152 (by decide) ?_
                          exact ih (k + 1) _ _ (by omega) (by omega) (fun a h1 h2 => (j1 a h1).trans (f1 a h1 h2)) (fun j hj => by rw [j1 _ (by omega)]; exact f2 j hj) j2 (fun a ha => by rw [upd2_row _ _ ha]; exact f4 a ha) (fun j hj => by rw [upd2_ne _ _ (by omega)]; exact f5 j hj) (fun j hj => by
                            by_cases hjk : j = a9 + k
                            · rw [hjk, Nat.add_assoc, upd2_same, fiI_s]
                              unfold fiN
                              rw [goT_s]
                            · rw [upd2_ne _ _ (by omega), fiI_o hjk]; exact f6 j hj)
                    obtain rfl : k = 54 := by omega
                    exact hl102 (n9 + 1) 0 _ _ (by omega) (by omega) (fun a _ ha => e1 a ha) e2 hN0 (fun _ _ => rfl) (fun _ _ => rfl) (fun j hj => by rw [fiI_0]; exact t6 j hj)
                  · refine jv_aload_n h dX12_film_79 rfl ?_
                    refine jv_gr 16 h dX12_film_80 cf_11 (by decide) gw_916 (by assumption) (by assumption) ?_
                    refine jv_iload h dX12_film_83 rfl ?_
                    refine jv_aload_n h dX12_film_85 rfl ?_
                    refine jv_gr 0 h dX12_film_86 cf_11 (by decide) gw_900 (by assumption) (by assumption) ?_
                    refine jv_iload h dX12_film_89 rfl ?_
                    refine jv_iav h dX12_film_91 (by assumption) (by repeat (with_reducible first | exact NF_nI _ | assumption | refine NF_add ?_ ?_ | refine NF_mul ?_ ?_)) ⟨by omega, by decide⟩ (by exact hN0 _ (by omega)) ?_
                    refine jv_iast h dX12_film_92 (by assumption) (by repeat (with_reducible first | exact NF_nI _ | assumption | refine NF_add ?_ ?_ | refine NF_mul ?_ ?_)) ⟨by omega, by decide⟩ ?_
                    refine jv_iinc (nI (k + 1)) h dX12_film_93 rfl (lt_nl hnl (by decide)) (nI_inc k) ?_
                    refine jv_goto 72 h dX12_film_96 (by decide) ?_
                    exact ih (k + 1) _ (by omega) (by omega) (fun a ha => by rw [upd2_row _ _ ha, e1 a ha]) (fun j hj => by
                      by_cases hjk : j = k
                      · rw [hjk, upd2_same]
                      · rw [upd2_ne _ _ (by omega)]; exact e2 j (by omega))
              rw [c63']
              exact hl72 55 0 _ (by omega) (by omega) (fun _ _ => rfl) (fun j hj => absurd hj (by omega))
            · have c63' : ¬ rfN (q.1 h9) l9 i (nI n9) (q.2.1 h9) = 0 := fun z => c63 (by rw [z]; decide)
              refine jv_iload h dX12_film_66 rfl ?_
              exact jv_iret h hr dX12_film_68 ⟨_, rfl, rfl, by
    rw [hsp, if_neg c63']
    exact ⟨rfl, fun _ _ _ => rfl, fun _ _ => rfl, hN, hC⟩⟩
          · refine jv_iconst (-1) h dX12_film_46 (by decide) ?_
            exact jv_iret h hr dX12_film_47 ⟨_, rfl, rfl, by
    have e : sp_film S q f s n sh l i = (-1, q) := (by unfold sp_film; rw [if_neg (by simp_all)])
    rw [e]
    exact ⟨rfl, fun _ _ _ => rfl, fun _ _ => rfl, hN, hC⟩⟩
