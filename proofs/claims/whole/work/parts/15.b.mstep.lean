/-- what may be undone, in the reference -/
def UndR (Mi : MI) (Y : Nat) (U : Nat → Nat → Nat) (u : Nat) : Prop := Mi Y 8 = nI u ∧ u ≤ 8 ∧ ∀ j, j < u → ∀ k, k < 54 → Mi (Y + 5) (54 * j + k) = eN k (U j k)
theorem UndR.fr {Mi Mi' : MI} {Y u : Nat} {U : Nat → Nat → Nat} (h : UndR Mi Y U u) (e : Mi' Y = Mi Y) (e5 : Mi' (Y + 5) = Mi (Y + 5)) : UndR Mi' Y U u := by unfold UndR; rw [e, e5]; exact h
theorem eN_per1 {p v : Nat} : eN (18 + 6 * p + 1) v = nI v := eN_per (by omega) (by omega)
theorem eN_k0 {p v : Nat} : eN (18 + 6 * p) v = nI v := by have := eN_per (p := p) (j := 0) (v := v) (by omega) (by omega); exact this
theorem eN_at {p t v : Nat} (ht : t < 6) (h3 : t ≠ 3) {j : Nat} (hj : j = 18 + 6 * p + t) : eN j v = nI v := by subst hj; exact eN_per ht h3
theorem eN_c {p v j : Nat} (hj : j = 18 + 6 * p + 3) : eN j v = carI v := by subst hj; exact eN_car

set_option maxHeartbeats 4000000 in
set_option maxRecDepth 100000 in
theorem cm_isTurned {g : GT} {T : TT} {Mi : MI} {Ml : ML} {Y : Nat} {S : Nat → Nat} (hM : ModS g T Y) (hN : NowR Mi (Y + 1) S) (hW : WF S) {u v : Int32} {k pl : Nat} (hu : NF u k) (hv : NF v pl) (hb : k < 5 ∧ pl < 12) : Ct g yX12_isTurnedOut cX12_isTurnedOut 3 (some .boolean) 1 0 0 [.ref Y, .int u, .int v] T Mi Ml (Ri T Mi Ml (bI (trN (S 2) k pl))) := by
  refine Ct.of' (plainFor_of_name (by decide +kernel)) (by exact Nat.le_of_ble_eq_true rfl) ?_
  intro x hg hR h hr hnm hnl
  subst hg
  obtain ⟨hY, ⟨r0, a0⟩, ⟨r1, a1⟩, ⟨r5, a5⟩, ⟨r6, a6⟩, ⟨r7, a7⟩, ⟨r9, a9⟩, ⟨r12, a12⟩, ⟨r13, a13⟩, ⟨r14, a14⟩, ⟨r15, a15⟩, r16, a16⟩ := id hM
  obtain ⟨w0, w1, w2, w3, w4, w5, w6, w7⟩ := id hW
  refine jv_iload_n h dX12_isTurnedOut_0 rfl ?_
  refine jv_zne 14 h dX12_isTurnedOut_1 (by decide) (by repeat (with_reducible first | exact NF_nI _ | assumption | refine NF_add ?_ ?_ | refine NF_mul ?_ ?_)) (by omega) (fun c1 => ?_) (fun c1 => ?_)
  · refine jv_iload_n h dX12_isTurnedOut_14 rfl ?_
    refine jv_aload_n h dX12_isTurnedOut_15 rfl ?_
    refine jv_gr 0 h dX12_isTurnedOut_16 cf_11 (by decide) gw_900 (by assumption) (by assumption) ?_
    refine jv_iconst (nI 2) h dX12_isTurnedOut_19 (by decide) ?_
    refine jv_iav h dX12_isTurnedOut_20 (by assumption) (by repeat (with_reducible first | exact NF_nI _ | assumption | refine NF_add ?_ ?_ | refine NF_mul ?_ ?_)) ⟨by omega, by decide⟩ (by first | assumption | exact hN.n0 | exact hN.n1 | exact hN.n2 | exact hN.n3 | exact hN.n4 | exact hN.n5 | exact hN.dy (by omega) | exact hN.p3 (by omega) | exact hN.p0 (by omega) | exact hN.p1 (by omega) | exact hN.p2 (by omega) | exact hN.p4 (by omega) | exact hN.p5 (by omega)) ?_
    refine jv_nne 33 h dX12_isTurnedOut_21 (by decide) (by repeat (with_reducible first | exact NF_nI _ | assumption | refine NF_add ?_ ?_ | refine NF_mul ?_ ?_)) (by repeat (with_reducible first | exact NF_nI _ | assumption | refine NF_add ?_ ?_ | refine NF_mul ?_ ?_)) ⟨by omega, by omega⟩ (fun c21 => ?_) (fun c21 => ?_)
    · refine jv_iconst (nI 0) h dX12_isTurnedOut_33 (by decide) ?_
      exact jv_zret h hr dX12_isTurnedOut_34 rfl ⟨by first | exact bI_t (by omega) | exact bI_f (by omega), rfl, rfl, rfl⟩
    · refine jv_iload_n h dX12_isTurnedOut_24 rfl ?_
      refine jv_iconst (nI 1) h dX12_isTurnedOut_25 (by decide) ?_
      refine jv_nne 33 h dX12_isTurnedOut_26 (by decide) (by repeat (with_reducible first | exact NF_nI _ | assumption | refine NF_add ?_ ?_ | refine NF_mul ?_ ?_)) (by repeat (with_reducible first | exact NF_nI _ | assumption | refine NF_add ?_ ?_ | refine NF_mul ?_ ?_)) ⟨by omega, by omega⟩ (fun c26 => ?_) (fun c26 => ?_)
      · refine jv_iconst (nI 0) h dX12_isTurnedOut_33 (by decide) ?_
        exact jv_zret h hr dX12_isTurnedOut_34 rfl ⟨by first | exact bI_t (by omega) | exact bI_f (by omega), rfl, rfl, rfl⟩
      · refine jv_iconst (nI 1) h dX12_isTurnedOut_29 (by decide) ?_
        refine jv_goto 34 h dX12_isTurnedOut_30 (by decide) ?_
        exact jv_zret h hr dX12_isTurnedOut_34 rfl ⟨by first | exact bI_t (by omega) | exact bI_f (by omega), rfl, rfl, rfl⟩
  · refine jv_iload_n h dX12_isTurnedOut_4 rfl ?_
    refine jv_iconst (nI 1) h dX12_isTurnedOut_5 (by decide) ?_
    refine jv_neq 29 h dX12_isTurnedOut_6 (by decide) (by repeat (with_reducible first | exact NF_nI _ | assumption | refine NF_add ?_ ?_ | refine NF_mul ?_ ?_)) (by repeat (with_reducible first | exact NF_nI _ | assumption | refine NF_add ?_ ?_ | refine NF_mul ?_ ?_)) ⟨by omega, by omega⟩ (fun c6 => ?_) (fun c6 => ?_)
    · refine jv_iconst (nI 1) h dX12_isTurnedOut_29 (by decide) ?_
      refine jv_goto 34 h dX12_isTurnedOut_30 (by decide) ?_
      exact jv_zret h hr dX12_isTurnedOut_34 rfl ⟨by first | exact bI_t (by omega) | exact bI_f (by omega), rfl, rfl, rfl⟩
    · refine jv_iload_n h dX12_isTurnedOut_9 rfl ?_
      refine jv_iconst (nI 4) h dX12_isTurnedOut_10 (by decide) ?_
      refine jv_neq 29 h dX12_isTurnedOut_11 (by decide) (by repeat (with_reducible first | exact NF_nI _ | assumption | refine NF_add ?_ ?_ | refine NF_mul ?_ ?_)) (by repeat (with_reducible first | exact NF_nI _ | assumption | refine NF_add ?_ ?_ | refine NF_mul ?_ ?_)) ⟨by omega, by omega⟩ (fun c11 => ?_) (fun c11 => ?_)
      · refine jv_iconst (nI 1) h dX12_isTurnedOut_29 (by decide) ?_
        refine jv_goto 34 h dX12_isTurnedOut_30 (by decide) ?_
        exact jv_zret h hr dX12_isTurnedOut_34 rfl ⟨by first | exact bI_t (by omega) | exact bI_f (by omega), rfl, rfl, rfl⟩
      · refine jv_iload_n h dX12_isTurnedOut_14 rfl ?_
        refine jv_aload_n h dX12_isTurnedOut_15 rfl ?_
        refine jv_gr 0 h dX12_isTurnedOut_16 cf_11 (by decide) gw_900 (by assumption) (by assumption) ?_
        refine jv_iconst (nI 2) h dX12_isTurnedOut_19 (by decide) ?_
        refine jv_iav h dX12_isTurnedOut_20 (by assumption) (by repeat (with_reducible first | exact NF_nI _ | assumption | refine NF_add ?_ ?_ | refine NF_mul ?_ ?_)) ⟨by omega, by decide⟩ (by first | assumption | exact hN.n0 | exact hN.n1 | exact hN.n2 | exact hN.n3 | exact hN.n4 | exact hN.n5 | exact hN.dy (by omega) | exact hN.p3 (by omega) | exact hN.p0 (by omega) | exact hN.p1 (by omega) | exact hN.p2 (by omega) | exact hN.p4 (by omega) | exact hN.p5 (by omega)) ?_
        refine jv_nne 33 h dX12_isTurnedOut_21 (by decide) (by repeat (with_reducible first | exact NF_nI _ | assumption | refine NF_add ?_ ?_ | refine NF_mul ?_ ?_)) (by repeat (with_reducible first | exact NF_nI _ | assumption | refine NF_add ?_ ?_ | refine NF_mul ?_ ?_)) ⟨by omega, by omega⟩ (fun c21 => ?_) (fun c21 => ?_)
        · refine jv_iconst (nI 0) h dX12_isTurnedOut_33 (by decide) ?_
          exact jv_zret h hr dX12_isTurnedOut_34 rfl ⟨by first | exact bI_t (by omega) | exact bI_f (by omega), rfl, rfl, rfl⟩
        · refine jv_iload_n h dX12_isTurnedOut_24 rfl ?_
          refine jv_iconst (nI 1) h dX12_isTurnedOut_25 (by decide) ?_
          refine jv_nne 33 h dX12_isTurnedOut_26 (by decide) (by repeat (with_reducible first | exact NF_nI _ | assumption | refine NF_add ?_ ?_ | refine NF_mul ?_ ?_)) (by repeat (with_reducible first | exact NF_nI _ | assumption | refine NF_add ?_ ?_ | refine NF_mul ?_ ?_)) ⟨by omega, by omega⟩ (fun c26 => ?_) (fun c26 => ?_)
          · refine jv_iconst (nI 0) h dX12_isTurnedOut_33 (by decide) ?_
            exact jv_zret h hr dX12_isTurnedOut_34 rfl ⟨by first | exact bI_t (by omega) | exact bI_f (by omega), rfl, rfl, rfl⟩
          · refine jv_iconst (nI 1) h dX12_isTurnedOut_29 (by decide) ?_
            refine jv_goto 34 h dX12_isTurnedOut_30 (by decide) ?_
            exact jv_zret h hr dX12_isTurnedOut_34 rfl ⟨by first | exact bI_t (by omega) | exact bI_f (by omega), rfl, rfl, rfl⟩
set_option maxHeartbeats 4000000 in
set_option maxRecDepth 100000 in
theorem cm_getsOut {g : GT} {T : TT} {Mi : MI} {Ml : ML} {Y : Nat} {S : Nat → Nat} (hM : ModS g T Y) (hN : NowR Mi (Y + 1) S) (hW : WF S) {u : Int32} {p : Nat} (hu : NF u p) (hp : p < S 0) (hc : S (21 + 6 * p) ≠ 0) : Ct g yX12_getsOut cX12_getsOut 4 none 3 0 0 [.ref Y, .int u] T Mi Ml (Gv T (fun Mi' Ml' => Ml' = Ml ∧ (∀ a, a ≠ Y + 1 → Mi' a = Mi a) ∧ NowR Mi' (Y + 1) (ouS S p))) := by
  refine Ct.of' (plainFor_of_name (by decide +kernel)) (by exact Nat.le_of_ble_eq_true rfl) ?_
  intro x hg hR h hr hnm hnl
  subst hg
  obtain ⟨hY, ⟨r0, a0⟩, ⟨r1, a1⟩, ⟨r5, a5⟩, ⟨r6, a6⟩, ⟨r7, a7⟩, ⟨r9, a9⟩, ⟨r12, a12⟩, ⟨r13, a13⟩, ⟨r14, a14⟩, ⟨r15, a15⟩, r16, a16⟩ := id hM
  obtain ⟨w0, w1, w2, w3, w4, w5, w6, w7⟩ := id hW
  have w7p := w7 p hp
  have hcN : NF (carI (S (21 + 6 * p))) (S (21 + 6 * p) - 1) := by unfold NF carI; rw [if_neg hc]
  have hpl := plN_lt (h := S 2) (c := S (21 + 6 * p) - 1) (s := S 1) (by omega)
  refine jv_bipush (nI 18) h dX12_getsOut_0 (by decide) ?_
  refine jv_bipush (nI 6) h dX12_getsOut_2 (by decide) ?_
  refine jv_iload_n h dX12_getsOut_4 rfl ?_
  first | refine jv_imulN h dX12_getsOut_5 (by repeat (with_reducible first | exact NF_nI _ | assumption | refine NF_add ?_ ?_ | refine NF_mul ?_ ?_)) (by repeat (with_reducible first | exact NF_nI _ | assumption | refine NF_add ?_ ?_ | refine NF_mul ?_ ?_)) ?_ | refine jv_imul h dX12_getsOut_5 ?_
  first | refine jv_iaddN h dX12_getsOut_6 (by repeat (with_reducible first | exact NF_nI _ | assumption | refine NF_add ?_ ?_ | refine NF_mul ?_ ?_)) (by repeat (with_reducible first | exact NF_nI _ | assumption | refine NF_add ?_ ?_ | refine NF_mul ?_ ?_)) ?_ | refine jv_iadd h dX12_getsOut_6 ?_
  refine jv_istore_n h dX12_getsOut_7 (lt_nl hnl (by decide)) ?_
  refine jv_aload_n h dX12_getsOut_8 rfl ?_
  refine jv_gr 0 h dX12_getsOut_9 cf_11 (by decide) gw_900 (by assumption) (by assumption) ?_
  refine jv_iload_n h dX12_getsOut_12 rfl ?_
  refine jv_iconst (nI 3) h dX12_getsOut_13 (by decide) ?_
  first | refine jv_iaddN h dX12_getsOut_14 (by repeat (with_reducible first | exact NF_nI _ | assumption | refine NF_add ?_ ?_ | refine NF_mul ?_ ?_)) (by repeat (with_reducible first | exact NF_nI _ | assumption | refine NF_add ?_ ?_ | refine NF_mul ?_ ?_)) ?_ | refine jv_iadd h dX12_getsOut_14 ?_
  refine jv_iav h dX12_getsOut_15 (by assumption) (by repeat (with_reducible first | exact NF_nI _ | assumption | refine NF_add ?_ ?_ | refine NF_mul ?_ ?_)) ⟨by omega, by decide⟩ (by first | assumption | exact hN.n0 | exact hN.n1 | exact hN.n2 | exact hN.n3 | exact hN.n4 | exact hN.n5 | exact hN.dy (by omega) | exact hN.p3 (by omega) | exact hN.p0 (by omega) | exact hN.p1 (by omega) | exact hN.p2 (by omega) | exact hN.p4 (by omega) | exact hN.p5 (by omega)) ?_
  refine jv_istore_n h dX12_getsOut_16 (lt_nl hnl (by decide)) ?_
  refine jv_aload_n h dX12_getsOut_17 rfl ?_
  refine jv_gr 0 h dX12_getsOut_18 cf_11 (by decide) gw_900 (by assumption) (by assumption) ?_
  refine jv_iload_n h dX12_getsOut_21 rfl ?_
  refine jv_iconst (nI 2) h dX12_getsOut_22 (by decide) ?_
  first | refine jv_iaddN h dX12_getsOut_23 (by repeat (with_reducible first | exact NF_nI _ | assumption | refine NF_add ?_ ?_ | refine NF_mul ?_ ?_)) (by repeat (with_reducible first | exact NF_nI _ | assumption | refine NF_add ?_ ?_ | refine NF_mul ?_ ?_)) ?_ | refine jv_iadd h dX12_getsOut_23 ?_
  refine jv_aload_n h dX12_getsOut_24 rfl ?_
  refine jv_aload_n h dX12_getsOut_25 rfl ?_
  refine jv_iload_n h dX12_getsOut_26 rfl ?_
  refine jv_aload_n h dX12_getsOut_27 rfl ?_
  refine jv_gr 0 h dX12_getsOut_28 cf_11 (by decide) gw_900 (by assumption) (by assumption) ?_
  refine jv_iconst (nI 1) h dX12_getsOut_31 (by decide) ?_
  refine jv_iav h dX12_getsOut_32 (by assumption) (by repeat (with_reducible first | exact NF_nI _ | assumption | refine NF_add ?_ ?_ | refine NF_mul ?_ ?_)) ⟨by omega, by decide⟩ (by first | assumption | exact hN.n0 | exact hN.n1 | exact hN.n2 | exact hN.n3 | exact hN.n4 | exact hN.n5 | exact hN.dy (by omega) | exact hN.p3 (by omega) | exact hN.p0 (by omega) | exact hN.p1 (by omega) | exact hN.p2 (by omega) | exact hN.p4 (by omega) | exact hN.p5 (by omega)) ?_
  refine jv_VRi [_, _] h dX12_getsOut_33 cw_X12_86 cf_11 (by assumption) (cm_placeOf (by assumption) (by assumption) (by assumption) (by repeat (with_reducible first | exact NF_nI _ | assumption | refine NF_add ?_ ?_ | refine NF_mul ?_ ?_)) (by repeat (with_reducible first | exact NF_nI _ | assumption | refine NF_add ?_ ?_ | refine NF_mul ?_ ?_)) (by omega)) (by decide) rfl rfl (Nat.le_of_ble_eq_true rfl) ⟨Nat.zero_le _, Nat.zero_le _⟩ ?_
  refine jv_VRi [_] h dX12_getsOut_36 cw_X12_89 cf_11 (by assumption) (cm_floorOf (by assumption) (by assumption) (by assumption) (by repeat (with_reducible first | exact NF_nI _ | assumption | refine NF_add ?_ ?_ | refine NF_mul ?_ ?_)) (by omega)) (by decide) rfl rfl (Nat.le_of_ble_eq_true rfl) ⟨Nat.zero_le _, Nat.zero_le _⟩ ?_
  refine jv_iast h dX12_getsOut_39 (by assumption) (by repeat (with_reducible first | exact NF_nI _ | assumption | refine NF_add ?_ ?_ | refine NF_mul ?_ ?_)) ⟨by omega, by decide⟩ ?_
  have n1 := hN.set (j := 18 + 6 * p + 2) (w := flN (S 2) (plN (S 2) (S (21 + 6 * p) - 1) (S 1))) (eN_per (by omega) (by omega)).symm
  refine jv_aload_n h dX12_getsOut_40 rfl ?_
  refine jv_gr 0 h dX12_getsOut_41 cf_11 (by decide) gw_900 (by assumption) (by assumption) ?_
  refine jv_iload_n h dX12_getsOut_44 rfl ?_
  refine jv_iconst (nI 3) h dX12_getsOut_45 (by decide) ?_
  first | refine jv_iaddN h dX12_getsOut_46 (by repeat (with_reducible first | exact NF_nI _ | assumption | refine NF_add ?_ ?_ | refine NF_mul ?_ ?_)) (by repeat (with_reducible first | exact NF_nI _ | assumption | refine NF_add ?_ ?_ | refine NF_mul ?_ ?_)) ?_ | refine jv_iadd h dX12_getsOut_46 ?_
  refine jv_iconst (-1) h dX12_getsOut_47 (by decide) ?_
  refine jv_iast h dX12_getsOut_48 (by assumption) (by repeat (with_reducible first | exact NF_nI _ | assumption | refine NF_add ?_ ?_ | refine NF_mul ?_ ?_)) ⟨by omega, by decide⟩ ?_
  have n2 := n1.set (j := 18 + 6 * p + 3) (w := 0) (v := -1) (by rw [eN_car]; rfl)
  refine jv_aload_n h dX12_getsOut_49 rfl ?_
  refine jv_gr 0 h dX12_getsOut_50 cf_11 (by decide) gw_900 (by assumption) (by assumption) ?_
  refine jv_iload_n h dX12_getsOut_53 rfl ?_
  refine jv_iconst (nI 4) h dX12_getsOut_54 (by decide) ?_
  first | refine jv_iaddN h dX12_getsOut_55 (by repeat (with_reducible first | exact NF_nI _ | assumption | refine NF_add ?_ ?_ | refine NF_mul ?_ ?_)) (by repeat (with_reducible first | exact NF_nI _ | assumption | refine NF_add ?_ ?_ | refine NF_mul ?_ ?_)) ?_ | refine jv_iadd h dX12_getsOut_55 ?_
  refine jv_aload_n h dX12_getsOut_56 rfl ?_
  refine jv_gr 0 h dX12_getsOut_57 cf_11 (by decide) gw_900 (by assumption) (by assumption) ?_
  refine jv_bipush (nI 6) h dX12_getsOut_60 (by decide) ?_
  refine jv_iload_n h dX12_getsOut_62 rfl ?_
  first | refine jv_iaddN h dX12_getsOut_63 (by repeat (with_reducible first | exact NF_nI _ | assumption | refine NF_add ?_ ?_ | refine NF_mul ?_ ?_)) (by repeat (with_reducible first | exact NF_nI _ | assumption | refine NF_add ?_ ?_ | refine NF_mul ?_ ?_)) ?_ | refine jv_iadd h dX12_getsOut_63 ?_
  refine jv_iav h dX12_getsOut_64 (by assumption) (by repeat (with_reducible first | exact NF_nI _ | assumption | refine NF_add ?_ ?_ | refine NF_mul ?_ ?_)) ⟨by omega, by decide⟩ (by exact (upd2_ne _ _ (by omega)).trans ((upd2_ne _ _ (by omega)).trans (hN.dy (by omega)))) ?_
  refine jv_iast h dX12_getsOut_65 (by assumption) (by repeat (with_reducible first | exact NF_nI _ | assumption | refine NF_add ?_ ?_ | refine NF_mul ?_ ?_)) ⟨by omega, by decide⟩ ?_
  have n3 := n2.set (j := 18 + 6 * p + 4) (w := S (6 + (S (21 + 6 * p) - 1))) (eN_per (by omega) (by omega)).symm
  exact jv_vret h hr dX12_getsOut_66 ⟨rfl, rfl, rfl, fun a ha => (by have e : ∀ (M : MI) (k : Nat) (v : Int32), upd2 M (Y + 1) k v a = M a := (fun M k v => upd2_row M v ha); simp only [e]), n3.cg (fun k hk => by unfold ouS; rw [show 18 + 6 * p + 2 = 20 + 6 * p by omega, show 18 + 6 * p + 3 = 21 + 6 * p by omega, show 18 + 6 * p + 4 = 22 + 6 * p by omega])⟩
set_option maxHeartbeats 4000000 in
set_option maxRecDepth 100000 in
theorem cm_comesIn {g : GT} {T : TT} {Mi : MI} {Ml : ML} {Y : Nat} {S : Nat → Nat} (hM : ModS g T Y) (hN : NowR Mi (Y + 1) S) (hW : WF S) {u1 u2 u3 u4 : Int32} {k w f d : Nat} (hu1 : NF u1 k) (hu2 : NF u2 w) (hu3 : NF u3 f) (hu4 : NF u4 d) (h6 : S 0 < 6) : Ct g yX12_comesIn cX12_comesIn 6 none 1 0 0 [.ref Y, .int u1, .int u2, .int u3, .int u4] T Mi Ml (Gv T (fun Mi' Ml' => Ml' = Ml ∧ (∀ a, a ≠ Y + 1 → a ≠ Y → Mi' a = Mi a) ∧ (∀ q, q ≠ 8 → Mi' Y q = Mi Y q) ∧ Mi' Y 8 = nI 0 ∧ NowR Mi' (Y + 1) (addS S k w f d))) := by
  refine Ct.of' (plainFor_of_name (by decide +kernel)) (by exact Nat.le_of_ble_eq_true rfl) ?_
  intro x hg hR h hr hnm hnl
  subst hg
  obtain ⟨hY, ⟨r0, a0⟩, ⟨r1, a1⟩, ⟨r5, a5⟩, ⟨r6, a6⟩, ⟨r7, a7⟩, ⟨r9, a9⟩, ⟨r12, a12⟩, ⟨r13, a13⟩, ⟨r14, a14⟩, ⟨r15, a15⟩, r16, a16⟩ := id hM
  obtain ⟨w0, w1, w2, w3, w4, w5, w6, w7⟩ := id hW
  refine jv_bipush (nI 18) h dX12_comesIn_0 (by decide) ?_
  refine jv_bipush (nI 6) h dX12_comesIn_2 (by decide) ?_
  refine jv_aload_n h dX12_comesIn_4 rfl ?_
  refine jv_gr 0 h dX12_comesIn_5 cf_11 (by decide) gw_900 (by assumption) (by assumption) ?_
  refine jv_iconst (nI 0) h dX12_comesIn_8 (by decide) ?_
  refine jv_iav h dX12_comesIn_9 (by assumption) (by repeat (with_reducible first | exact NF_nI _ | assumption | refine NF_add ?_ ?_ | refine NF_mul ?_ ?_)) ⟨by omega, by decide⟩ (by first | assumption | exact hN.n0 | exact hN.n1 | exact hN.n2 | exact hN.n3 | exact hN.n4 | exact hN.n5 | exact hN.dy (by omega) | exact hN.p3 (by omega) | exact hN.p0 (by omega) | exact hN.p1 (by omega) | exact hN.p2 (by omega) | exact hN.p4 (by omega) | exact hN.p5 (by omega)) ?_
  first | refine jv_imulN h dX12_comesIn_10 (by repeat (with_reducible first | exact NF_nI _ | assumption | refine NF_add ?_ ?_ | refine NF_mul ?_ ?_)) (by repeat (with_reducible first | exact NF_nI _ | assumption | refine NF_add ?_ ?_ | refine NF_mul ?_ ?_)) ?_ | refine jv_imul h dX12_comesIn_10 ?_
  first | refine jv_iaddN h dX12_comesIn_11 (by repeat (with_reducible first | exact NF_nI _ | assumption | refine NF_add ?_ ?_ | refine NF_mul ?_ ?_)) (by repeat (with_reducible first | exact NF_nI _ | assumption | refine NF_add ?_ ?_ | refine NF_mul ?_ ?_)) ?_ | refine jv_iadd h dX12_comesIn_11 ?_
  refine jv_istore h dX12_comesIn_12 (lt_nl hnl (by decide)) ?_
  refine jv_aload_n h dX12_comesIn_14 rfl ?_
  refine jv_gr 0 h dX12_comesIn_15 cf_11 (by decide) gw_900 (by assumption) (by assumption) ?_
  refine jv_iload h dX12_comesIn_18 rfl ?_
  refine jv_iload_n h dX12_comesIn_20 rfl ?_
  refine jv_iast h dX12_comesIn_21 (by assumption) (by repeat (with_reducible first | exact NF_nI _ | assumption | refine NF_add ?_ ?_ | refine NF_mul ?_ ?_)) ⟨by omega, by decide⟩ ?_
  have n0 := hN.set (j := 18 + 6 * S 0) (w := k) (v := u1) (by rw [eN_k0]; exact hu1)
  refine jv_aload_n h dX12_comesIn_22 rfl ?_
  refine jv_gr 0 h dX12_comesIn_23 cf_11 (by decide) gw_900 (by assumption) (by assumption) ?_
  refine jv_iload h dX12_comesIn_26 rfl ?_
  refine jv_iconst (nI 1) h dX12_comesIn_28 (by decide) ?_
  first | refine jv_iaddN h dX12_comesIn_29 (by repeat (with_reducible first | exact NF_nI _ | assumption | refine NF_add ?_ ?_ | refine NF_mul ?_ ?_)) (by repeat (with_reducible first | exact NF_nI _ | assumption | refine NF_add ?_ ?_ | refine NF_mul ?_ ?_)) ?_ | refine jv_iadd h dX12_comesIn_29 ?_
  refine jv_iload_n h dX12_comesIn_30 rfl ?_
  refine jv_iast h dX12_comesIn_31 (by assumption) (by repeat (with_reducible first | exact NF_nI _ | assumption | refine NF_add ?_ ?_ | refine NF_mul ?_ ?_)) ⟨by omega, by decide⟩ ?_
  have n1 := n0.set (j := 18 + 6 * S 0 + 1) (w := w) (v := u2) (by rw [eN_per (by omega) (by omega)]; exact hu2)
  refine jv_aload_n h dX12_comesIn_32 rfl ?_
  refine jv_gr 0 h dX12_comesIn_33 cf_11 (by decide) gw_900 (by assumption) (by assumption) ?_
  refine jv_iload h dX12_comesIn_36 rfl ?_
  refine jv_iconst (nI 2) h dX12_comesIn_38 (by decide) ?_
  first | refine jv_iaddN h dX12_comesIn_39 (by repeat (with_reducible first | exact NF_nI _ | assumption | refine NF_add ?_ ?_ | refine NF_mul ?_ ?_)) (by repeat (with_reducible first | exact NF_nI _ | assumption | refine NF_add ?_ ?_ | refine NF_mul ?_ ?_)) ?_ | refine jv_iadd h dX12_comesIn_39 ?_
  refine jv_iload_n h dX12_comesIn_40 rfl ?_
  refine jv_iast h dX12_comesIn_41 (by assumption) (by repeat (with_reducible first | exact NF_nI _ | assumption | refine NF_add ?_ ?_ | refine NF_mul ?_ ?_)) ⟨by omega, by decide⟩ ?_
  have n2 := n1.set (j := 18 + 6 * S 0 + 2) (w := f) (v := u3) (by rw [eN_per (by omega) (by omega)]; exact hu3)
  refine jv_aload_n h dX12_comesIn_42 rfl ?_
  refine jv_gr 0 h dX12_comesIn_43 cf_11 (by decide) gw_900 (by assumption) (by assumption) ?_
  refine jv_iload h dX12_comesIn_46 rfl ?_
  refine jv_iconst (nI 3) h dX12_comesIn_48 (by decide) ?_
  first | refine jv_iaddN h dX12_comesIn_49 (by repeat (with_reducible first | exact NF_nI _ | assumption | refine NF_add ?_ ?_ | refine NF_mul ?_ ?_)) (by repeat (with_reducible first | exact NF_nI _ | assumption | refine NF_add ?_ ?_ | refine NF_mul ?_ ?_)) ?_ | refine jv_iadd h dX12_comesIn_49 ?_
  refine jv_iconst (-1) h dX12_comesIn_50 (by decide) ?_
  refine jv_iast h dX12_comesIn_51 (by assumption) (by repeat (with_reducible first | exact NF_nI _ | assumption | refine NF_add ?_ ?_ | refine NF_mul ?_ ?_)) ⟨by omega, by decide⟩ ?_
  have n3 := n2.set (j := 18 + 6 * S 0 + 3) (w := 0) (v := -1) (by rw [eN_car]; rfl)
  refine jv_aload_n h dX12_comesIn_52 rfl ?_
  refine jv_gr 0 h dX12_comesIn_53 cf_11 (by decide) gw_900 (by assumption) (by assumption) ?_
  refine jv_iload h dX12_comesIn_56 rfl ?_
  refine jv_iconst (nI 4) h dX12_comesIn_58 (by decide) ?_
  first | refine jv_iaddN h dX12_comesIn_59 (by repeat (with_reducible first | exact NF_nI _ | assumption | refine NF_add ?_ ?_ | refine NF_mul ?_ ?_)) (by repeat (with_reducible first | exact NF_nI _ | assumption | refine NF_add ?_ ?_ | refine NF_mul ?_ ?_)) ?_ | refine jv_iadd h dX12_comesIn_59 ?_
  refine jv_iload h dX12_comesIn_60 rfl ?_
  refine jv_iast h dX12_comesIn_62 (by assumption) (by repeat (with_reducible first | exact NF_nI _ | assumption | refine NF_add ?_ ?_ | refine NF_mul ?_ ?_)) ⟨by omega, by decide⟩ ?_
  have n4 := n3.set (j := 18 + 6 * S 0 + 4) (w := d) (v := u4) (by rw [eN_per (by omega) (by omega)]; exact hu4)
  refine jv_aload_n h dX12_comesIn_63 rfl ?_
  refine jv_gr 0 h dX12_comesIn_64 cf_11 (by decide) gw_900 (by assumption) (by assumption) ?_
  refine jv_iload h dX12_comesIn_67 rfl ?_
  refine jv_iconst (nI 5) h dX12_comesIn_69 (by decide) ?_
  first | refine jv_iaddN h dX12_comesIn_70 (by repeat (with_reducible first | exact NF_nI _ | assumption | refine NF_add ?_ ?_ | refine NF_mul ?_ ?_)) (by repeat (with_reducible first | exact NF_nI _ | assumption | refine NF_add ?_ ?_ | refine NF_mul ?_ ?_)) ?_ | refine jv_iadd h dX12_comesIn_70 ?_
  refine jv_iconst (nI 0) h dX12_comesIn_71 (by decide) ?_
  refine jv_iast h dX12_comesIn_72 (by assumption) (by repeat (with_reducible first | exact NF_nI _ | assumption | refine NF_add ?_ ?_ | refine NF_mul ?_ ?_)) ⟨by omega, by decide⟩ ?_
  have n5 := n4.set (j := 18 + 6 * S 0 + 5) (w := 0) (v := nI 0) (by rw [eN_per (by omega) (by omega)])
  refine jv_aload_n h dX12_comesIn_73 rfl ?_
  refine jv_gr 0 h dX12_comesIn_74 cf_11 (by decide) gw_900 (by assumption) (by assumption) ?_
  refine jv_iconst (nI 0) h dX12_comesIn_77 (by decide) ?_
  refine jv_dup2 h dX12_comesIn_78 rfl rfl ?_
  refine jv_iav h dX12_comesIn_79 (by assumption) (by repeat (with_reducible first | exact NF_nI _ | assumption | refine NF_add ?_ ?_ | refine NF_mul ?_ ?_)) ⟨by omega, by decide⟩ (by exact (upd2_ne _ _ (by omega)).trans ((upd2_ne _ _ (by omega)).trans ((upd2_ne _ _ (by omega)).trans ((upd2_ne _ _ (by omega)).trans ((upd2_ne _ _ (by omega)).trans ((upd2_ne _ _ (by omega)).trans hN.n0)))))) ?_
  refine jv_iconst (nI 1) h dX12_comesIn_80 (by decide) ?_
  first | refine jv_iaddN h dX12_comesIn_81 (by repeat (with_reducible first | exact NF_nI _ | assumption | refine NF_add ?_ ?_ | refine NF_mul ?_ ?_)) (by repeat (with_reducible first | exact NF_nI _ | assumption | refine NF_add ?_ ?_ | refine NF_mul ?_ ?_)) ?_ | refine jv_iadd h dX12_comesIn_81 ?_
  refine jv_iast h dX12_comesIn_82 (by assumption) (by repeat (with_reducible first | exact NF_nI _ | assumption | refine NF_add ?_ ?_ | refine NF_mul ?_ ?_)) ⟨by omega, by decide⟩ ?_
  have n6 := n5.set (j := 0) (w := S 0 + 1) (v := nI (S 0 + 1)) (by rw [eN_lo (by decide)])
  refine jv_aload_n h dX12_comesIn_83 rfl ?_
  refine jv_iconst (nI 0) h dX12_comesIn_84 (by decide) ?_
  refine jv_pi 8 h dX12_comesIn_85 cf_11 (by decide) gw_908 (by assumption) rfl rfl rfl ?_
  exact jv_vret h hr dX12_comesIn_88 ⟨rfl, rfl, rfl, fun a h1 h2 => by
    have e : ∀ (M : MI) (k : Nat) (v : Int32), upd2 M (Y + 1) k v a = M a := fun M k v => upd2_row M v h1
    rw [upd2_row _ _ h2]
    simp only [e], fun q hq => by
    have e : ∀ (M : MI) (k : Nat) (v : Int32), upd2 M (Y + 1) k v Y = M Y := fun M k v => upd2_row M v (by omega)
    rw [upd2_ne _ _ (by omega)]
    simp only [e], by rw [upd2_same], (n6.fr (upd2_row _ _ (by omega))).cg (fun j hj => by
    unfold addS setS
    by_cases h0 : j = 0
    · rw [if_pos h0, if_pos h0]
    · rw [if_neg h0, if_neg h0]
      by_cases a0 : j = 18 + 6 * S 0
      · rw [if_pos a0, if_neg (by omega), if_neg (by omega), if_neg (by omega), if_neg (by omega), if_neg (by omega), if_pos a0]
      · by_cases a1 : j = 19 + 6 * S 0
        · rw [if_neg a0, if_pos a1, if_neg (by omega), if_neg (by omega), if_neg (by omega), if_neg (by omega), if_pos (by omega)]
        · by_cases a2 : j = 20 + 6 * S 0
          · rw [if_neg a0, if_neg a1, if_pos a2, if_neg (by omega), if_neg (by omega), if_neg (by omega), if_pos (by omega)]
          · by_cases a3 : j = 21 + 6 * S 0
            · rw [if_neg a0, if_neg a1, if_neg a2, if_pos a3, if_neg (by omega), if_neg (by omega), if_pos (by omega)]
            · by_cases a4 : j = 22 + 6 * S 0
              · rw [if_neg a0, if_neg a1, if_neg a2, if_neg a3, if_pos a4, if_neg (by omega), if_pos (by omega)]
              · by_cases a5 : j = 23 + 6 * S 0
                · rw [if_neg a0, if_neg a1, if_neg a2, if_neg a3, if_neg a4, if_pos a5, if_pos (by omega)]
                · rw [if_neg a0, if_neg a1, if_neg a2, if_neg a3, if_neg a4, if_neg a5, if_neg (by omega), if_neg (by omega), if_neg (by omega), if_neg (by omega), if_neg (by omega), if_neg (by omega)])⟩
