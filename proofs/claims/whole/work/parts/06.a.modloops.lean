set_option maxHeartbeats 4000000 in
set_option maxRecDepth 100000 in
theorem cm_loadOf {g : GT} {T : TT} {Mi : MI} {Ml : ML} {Y : Nat} {S : Nat → Nat} (hM : ModS g T Y) (hN : NowR Mi (Y + 1) S) (hW : WF S) {v : Int32} {c : Nat} (hv : NF v c) (hc : c < 100) : Ct g yX12_loadOf cX12_loadOf 4 (some .int) 3 0 0 [.ref Y, .int v] T Mi Ml (Ri T Mi Ml (nI (ldN S c (S 0)))) := by
  refine Ct.of' (plainFor_of_name (by decide +kernel)) (by exact Nat.le_of_ble_eq_true rfl) ?_
  intro x hg hR h hr hnm hnl
  subst hg
  obtain ⟨hY, ⟨r0, a0⟩, ⟨r1, a1⟩, ⟨r5, a5⟩, ⟨r6, a6⟩, ⟨r7, a7⟩, ⟨r9, a9⟩, ⟨r12, a12⟩, ⟨r13, a13⟩, ⟨r14, a14⟩, ⟨r15, a15⟩, r16, a16⟩ := id hM
  obtain ⟨w0, w1, w2, w3, w4, w5, w6, w7⟩ := id hW
  refine jv_iconst (nI 0) h dX12_loadOf_0 (by decide) ?_
  refine jv_istore_n h dX12_loadOf_1 (lt_nl hnl (by decide)) ?_
  refine jv_iconst (nI 0) h dX12_loadOf_2 (by decide) ?_
  refine jv_istore_n h dX12_loadOf_3 (lt_nl hnl (by decide)) ?_
  have hl4 : ∀ (n : Nat) (i sm : Nat), S 0 - i < n → i ≤ S 0 → sm = ldN S c i → V x 0 0 T Mi Ml 4 [some (.ref Y), some (.int v), some (.int (nI sm)), some (.int (nI i))] [] := by
    intro n
    induction n with
    | zero => intro i sm hN9 hi hs; exact absurd hN9 (by omega)
    | succ n ih =>
      intro i sm hN9 hi hs
      refine jv_iload_n h dX12_loadOf_4 rfl ?_
      refine jv_aload_n h dX12_loadOf_5 rfl ?_
      refine jv_gr 0 h dX12_loadOf_6 cf_11 (by decide) gw_900 (by assumption) (by assumption) ?_
      refine jv_iconst (nI 0) h dX12_loadOf_9 (by decide) ?_
      refine jv_iav h dX12_loadOf_10 (by assumption) (by repeat (with_reducible first | exact NF_nI _ | assumption | refine NF_add ?_ ?_ | refine NF_mul ?_ ?_)) ⟨by omega, by decide⟩ (by first | assumption | exact hN.n0 | exact hN.n1 | exact hN.n2 | exact hN.n3 | exact hN.n4 | exact hN.n5 | exact hN.dy (by omega) | exact hN.p3 (by omega) | exact hN.p0 (by omega) | exact hN.p1 (by omega) | exact hN.p2 (by omega) | exact hN.p4 (by omega) | exact hN.p5 (by omega)) ?_
      refine jv_nge 42 h dX12_loadOf_11 (by decide) (by repeat (with_reducible first | exact NF_nI _ | assumption | refine NF_add ?_ ?_ | refine NF_mul ?_ ?_)) (by repeat (with_reducible first | exact NF_nI _ | assumption | refine NF_add ?_ ?_ | refine NF_mul ?_ ?_)) ⟨by omega, by omega⟩ (fun c11 => ?_) (fun c11 => ?_)
      · have hie : i = S 0 := by omega
        refine jv_iload_n h dX12_loadOf_42 rfl ?_
        exact jv_iret h hr dX12_loadOf_43 ⟨by rw [hs, hie], rfl, rfl, rfl⟩
      · have w7i := w7 i (by omega)
        refine jv_iload_n h dX12_loadOf_14 rfl ?_
        refine jv_aload_n h dX12_loadOf_15 rfl ?_
        refine jv_iload_n h dX12_loadOf_16 rfl ?_
        refine jv_iconst (nI 3) h dX12_loadOf_17 (by decide) ?_
        refine jv_VRi [_, _] h dX12_loadOf_18 cw_X12_54 cf_11 (by assumption) (cm_told (by assumption) (by repeat (with_reducible first | exact NF_nI _ | assumption | refine NF_add ?_ ?_ | refine NF_mul ?_ ?_)) (by repeat (with_reducible first | exact NF_nI _ | assumption | refine NF_add ?_ ?_ | refine NF_mul ?_ ?_)) (by omega) (by first | assumption | exact hN.n0 | exact hN.n1 | exact hN.n2 | exact hN.n3 | exact hN.n4 | exact hN.n5 | exact hN.dy (by omega) | exact hN.p3 (by omega) | exact hN.p0 (by omega) | exact hN.p1 (by omega) | exact hN.p2 (by omega) | exact hN.p4 (by omega) | exact hN.p5 (by omega))) (by decide) rfl rfl (Nat.le_of_ble_eq_true rfl) ⟨Nat.zero_le _, Nat.zero_le _⟩ ?_
        refine jv_iload_n h dX12_loadOf_21 rfl ?_
        refine jv_icmp_ne 33 h dX12_loadOf_22 (by decide) (fun c22 => ?_) (fun c22 => ?_)
        · rw [hv, carI_eq (by omega) (by omega)] at c22
          refine jv_iconst (nI 0) h dX12_loadOf_33 (by decide) ?_
          first | refine jv_iaddN h dX12_loadOf_34 (by repeat (with_reducible first | exact NF_nI _ | assumption | refine NF_add ?_ ?_ | refine NF_mul ?_ ?_)) (by repeat (with_reducible first | exact NF_nI _ | assumption | refine NF_add ?_ ?_ | refine NF_mul ?_ ?_)) ?_ | refine jv_iadd h dX12_loadOf_34 ?_
          refine jv_istore_n h dX12_loadOf_35 (lt_nl hnl (by decide)) ?_
          refine jv_iinc (nI (i + 1)) h dX12_loadOf_36 rfl (lt_nl hnl (by decide)) (nI_inc i) ?_
          refine jv_goto 4 h dX12_loadOf_39 (by decide) ?_
          exact ih (i + 1) _ (by omega) (by omega) (by simp [ldN, hs, c22])
        · rw [hv, carI_eq (by omega) (by omega)] at c22
          refine jv_aload_n h dX12_loadOf_25 rfl ?_
          refine jv_iload_n h dX12_loadOf_26 rfl ?_
          refine jv_VRi [_] h dX12_loadOf_27 cw_X12_58 cf_11 (by assumption) (cm_weighs (by assumption) (by assumption) (by assumption) (by repeat (with_reducible first | exact NF_nI _ | assumption | refine NF_add ?_ ?_ | refine NF_mul ?_ ?_)) (by omega)) (by decide) rfl rfl (Nat.le_of_ble_eq_true rfl) ⟨Nat.zero_le _, Nat.zero_le _⟩ ?_
          refine jv_goto 34 h dX12_loadOf_30 (by decide) ?_
          first | refine jv_iaddN h dX12_loadOf_34 (by repeat (with_reducible first | exact NF_nI _ | assumption | refine NF_add ?_ ?_ | refine NF_mul ?_ ?_)) (by repeat (with_reducible first | exact NF_nI _ | assumption | refine NF_add ?_ ?_ | refine NF_mul ?_ ?_)) ?_ | refine jv_iadd h dX12_loadOf_34 ?_
          refine jv_istore_n h dX12_loadOf_35 (lt_nl hnl (by decide)) ?_
          refine jv_iinc (nI (i + 1)) h dX12_loadOf_36 rfl (lt_nl hnl (by decide)) (nI_inc i) ?_
          refine jv_goto 4 h dX12_loadOf_39 (by decide) ?_
          exact ih (i + 1) _ (by omega) (by omega) (by simp [ldN, hs, c22])
  exact hl4 (S 0 + 1) 0 0 (by omega) (by omega) rfl
set_option maxHeartbeats 4000000 in
set_option maxRecDepth 100000 in
theorem cm_whoIn {g : GT} {T : TT} {Mi : MI} {Ml : ML} {Y : Nat} {S : Nat → Nat} (hM : ModS g T Y) (hN : NowR Mi (Y + 1) S) (hW : WF S) {v : Int32} {c : Nat} (hv : NF v c) (hc : c < 100) : Ct g yX12_whoIn cX12_whoIn 4 (some .int) 2 0 0 [.ref Y, .int v] T Mi Ml (Ri T Mi Ml (nI (stN (fun p => decide (S (21 + 6 * p) = c + 1)) (S 0)))) := by
  refine Ct.of' (plainFor_of_name (by decide +kernel)) (by exact Nat.le_of_ble_eq_true rfl) ?_
  intro x hg hR h hr hnm hnl
  subst hg
  obtain ⟨hY, ⟨r0, a0⟩, ⟨r1, a1⟩, ⟨r5, a5⟩, ⟨r6, a6⟩, ⟨r7, a7⟩, ⟨r9, a9⟩, ⟨r12, a12⟩, ⟨r13, a13⟩, ⟨r14, a14⟩, ⟨r15, a15⟩, r16, a16⟩ := id hM
  obtain ⟨w0, w1, w2, w3, w4, w5, w6, w7⟩ := id hW
  refine jv_iconst (nI 0) h dX12_whoIn_0 (by decide) ?_
  refine jv_istore_n h dX12_whoIn_1 (lt_nl hnl (by decide)) ?_
  refine jv_iconst (nI 0) h dX12_whoIn_2 (by decide) ?_
  refine jv_istore_n h dX12_whoIn_3 (lt_nl hnl (by decide)) ?_
  have hl4 : ∀ (n : Nat) (i st : Nat), S 0 - i < n → i ≤ S 0 → st = stN (fun p => decide (S (21 + 6 * p) = c + 1)) i → V x 0 0 T Mi Ml 4 [some (.ref Y), some (.int v), some (.int (nI st)), some (.int (nI i))] [] := by
    intro n
    induction n with
    | zero => intro i st hN9 hi hs; exact absurd hN9 (by omega)
    | succ n ih =>
      intro i st hN9 hi hs
      refine jv_iload_n h dX12_whoIn_4 rfl ?_
      refine jv_aload_n h dX12_whoIn_5 rfl ?_
      refine jv_gr 0 h dX12_whoIn_6 cf_11 (by decide) gw_900 (by assumption) (by assumption) ?_
      refine jv_iconst (nI 0) h dX12_whoIn_9 (by decide) ?_
      refine jv_iav h dX12_whoIn_10 (by assumption) (by repeat (with_reducible first | exact NF_nI _ | assumption | refine NF_add ?_ ?_ | refine NF_mul ?_ ?_)) ⟨by omega, by decide⟩ (by first | assumption | exact hN.n0 | exact hN.n1 | exact hN.n2 | exact hN.n3 | exact hN.n4 | exact hN.n5 | exact hN.dy (by omega) | exact hN.p3 (by omega) | exact hN.p0 (by omega) | exact hN.p1 (by omega) | exact hN.p2 (by omega) | exact hN.p4 (by omega) | exact hN.p5 (by omega)) ?_
      refine jv_nge 40 h dX12_whoIn_11 (by decide) (by repeat (with_reducible first | exact NF_nI _ | assumption | refine NF_add ?_ ?_ | refine NF_mul ?_ ?_)) (by repeat (with_reducible first | exact NF_nI _ | assumption | refine NF_add ?_ ?_ | refine NF_mul ?_ ?_)) ⟨by omega, by omega⟩ (fun c11 => ?_) (fun c11 => ?_)
      · have hie : i = S 0 := by omega
        refine jv_iload_n h dX12_whoIn_40 rfl ?_
        exact jv_iret h hr dX12_whoIn_41 ⟨by rw [hs, hie], rfl, rfl, rfl⟩
      · have w7i := w7 i (by omega)
        refine jv_iload_n h dX12_whoIn_14 rfl ?_
        refine jv_aload_n h dX12_whoIn_15 rfl ?_
        refine jv_iload_n h dX12_whoIn_16 rfl ?_
        refine jv_iconst (nI 3) h dX12_whoIn_17 (by decide) ?_
        refine jv_VRi [_, _] h dX12_whoIn_18 cw_X12_54 cf_11 (by assumption) (cm_told (by assumption) (by repeat (with_reducible first | exact NF_nI _ | assumption | refine NF_add ?_ ?_ | refine NF_mul ?_ ?_)) (by repeat (with_reducible first | exact NF_nI _ | assumption | refine NF_add ?_ ?_ | refine NF_mul ?_ ?_)) (by omega) (by first | assumption | exact hN.n0 | exact hN.n1 | exact hN.n2 | exact hN.n3 | exact hN.n4 | exact hN.n5 | exact hN.dy (by omega) | exact hN.p3 (by omega) | exact hN.p0 (by omega) | exact hN.p1 (by omega) | exact hN.p2 (by omega) | exact hN.p4 (by omega) | exact hN.p5 (by omega))) (by decide) rfl rfl (Nat.le_of_ble_eq_true rfl) ⟨Nat.zero_le _, Nat.zero_le _⟩ ?_
        refine jv_iload_n h dX12_whoIn_21 rfl ?_
        refine jv_icmp_ne 31 h dX12_whoIn_22 (by decide) (fun c22 => ?_) (fun c22 => ?_)
        · rw [hv, carI_eq (by omega) (by omega)] at c22
          refine jv_iconst (nI 0) h dX12_whoIn_31 (by decide) ?_
          refine jv_ior h dX12_whoIn_32 ?_
          first | rw [nI_or (by rw [hs]; exact stN_lt _ _) (by omega)] | rw [nI_or0]
          refine jv_istore_n h dX12_whoIn_33 (lt_nl hnl (by decide)) ?_
          refine jv_iinc (nI (i + 1)) h dX12_whoIn_34 rfl (lt_nl hnl (by decide)) (nI_inc i) ?_
          refine jv_goto 4 h dX12_whoIn_37 (by decide) ?_
          exact ih (i + 1) _ (by omega) (by omega) (by simp [stN, hs, c22])
        · rw [hv, carI_eq (by omega) (by omega)] at c22
          refine jv_iconst (nI 1) h dX12_whoIn_25 (by decide) ?_
          refine jv_iload_n h dX12_whoIn_26 rfl ?_
          refine jv_ishl h dX12_whoIn_27 ?_
          refine jv_goto 32 h dX12_whoIn_28 (by decide) ?_
          refine jv_ior h dX12_whoIn_32 ?_
          first | rw [nI_or (by rw [hs]; exact stN_lt _ _) (by omega)] | rw [nI_or0]
          refine jv_istore_n h dX12_whoIn_33 (lt_nl hnl (by decide)) ?_
          refine jv_iinc (nI (i + 1)) h dX12_whoIn_34 rfl (lt_nl hnl (by decide)) (nI_inc i) ?_
          refine jv_goto 4 h dX12_whoIn_37 (by decide) ?_
          exact ih (i + 1) _ (by omega) (by omega) (by simp [stN, hs, c22])
  exact hl4 (S 0 + 1) 0 0 (by omega) (by omega) rfl
set_option maxHeartbeats 4000000 in
set_option maxRecDepth 100000 in
theorem cm_riders {g : GT} {T : TT} {Mi : MI} {Ml : ML} {Y : Nat} {S : Nat → Nat} (hM : ModS g T Y) (hN : NowR Mi (Y + 1) S) (hW : WF S)  : Ct g yX12_riders cX12_riders 3 (some .int) 2 0 0 [.ref Y] T Mi Ml (Ri T Mi Ml (nI (stN (fun p => decide (S (21 + 6 * p) ≠ 0)) (S 0)))) := by
  refine Ct.of' (plainFor_of_name (by decide +kernel)) (by exact Nat.le_of_ble_eq_true rfl) ?_
  intro x hg hR h hr hnm hnl
  subst hg
  obtain ⟨hY, ⟨r0, a0⟩, ⟨r1, a1⟩, ⟨r5, a5⟩, ⟨r6, a6⟩, ⟨r7, a7⟩, ⟨r9, a9⟩, ⟨r12, a12⟩, ⟨r13, a13⟩, ⟨r14, a14⟩, ⟨r15, a15⟩, r16, a16⟩ := id hM
  obtain ⟨w0, w1, w2, w3, w4, w5, w6, w7⟩ := id hW
  refine jv_iconst (nI 0) h dX12_riders_0 (by decide) ?_
  refine jv_istore_n h dX12_riders_1 (lt_nl hnl (by decide)) ?_
  refine jv_iconst (nI 0) h dX12_riders_2 (by decide) ?_
  refine jv_istore_n h dX12_riders_3 (lt_nl hnl (by decide)) ?_
  have hl4 : ∀ (n : Nat) (i st : Nat), S 0 - i < n → i ≤ S 0 → st = stN (fun p => decide (S (21 + 6 * p) ≠ 0)) i → V x 0 0 T Mi Ml 4 [some (.ref Y), some (.int (nI st)), some (.int (nI i))] [] := by
    intro n
    induction n with
    | zero => intro i st hN9 hi hs; exact absurd hN9 (by omega)
    | succ n ih =>
      intro i st hN9 hi hs
      refine jv_iload_n h dX12_riders_4 rfl ?_
      refine jv_aload_n h dX12_riders_5 rfl ?_
      refine jv_gr 0 h dX12_riders_6 cf_11 (by decide) gw_900 (by assumption) (by assumption) ?_
      refine jv_iconst (nI 0) h dX12_riders_9 (by decide) ?_
      refine jv_iav h dX12_riders_10 (by assumption) (by repeat (with_reducible first | exact NF_nI _ | assumption | refine NF_add ?_ ?_ | refine NF_mul ?_ ?_)) ⟨by omega, by decide⟩ (by first | assumption | exact hN.n0 | exact hN.n1 | exact hN.n2 | exact hN.n3 | exact hN.n4 | exact hN.n5 | exact hN.dy (by omega) | exact hN.p3 (by omega) | exact hN.p0 (by omega) | exact hN.p1 (by omega) | exact hN.p2 (by omega) | exact hN.p4 (by omega) | exact hN.p5 (by omega)) ?_
      refine jv_nge 39 h dX12_riders_11 (by decide) (by repeat (with_reducible first | exact NF_nI _ | assumption | refine NF_add ?_ ?_ | refine NF_mul ?_ ?_)) (by repeat (with_reducible first | exact NF_nI _ | assumption | refine NF_add ?_ ?_ | refine NF_mul ?_ ?_)) ⟨by omega, by omega⟩ (fun c11 => ?_) (fun c11 => ?_)
      · have hie : i = S 0 := by omega
        refine jv_iload_n h dX12_riders_39 rfl ?_
        exact jv_iret h hr dX12_riders_40 ⟨by rw [hs, hie], rfl, rfl, rfl⟩
      · have w7i := w7 i (by omega)
        refine jv_iload_n h dX12_riders_14 rfl ?_
        refine jv_aload_n h dX12_riders_15 rfl ?_
        refine jv_iload_n h dX12_riders_16 rfl ?_
        refine jv_iconst (nI 3) h dX12_riders_17 (by decide) ?_
        refine jv_VRi [_, _] h dX12_riders_18 cw_X12_54 cf_11 (by assumption) (cm_told (by assumption) (by repeat (with_reducible first | exact NF_nI _ | assumption | refine NF_add ?_ ?_ | refine NF_mul ?_ ?_)) (by repeat (with_reducible first | exact NF_nI _ | assumption | refine NF_add ?_ ?_ | refine NF_mul ?_ ?_)) (by omega) (by first | assumption | exact hN.n0 | exact hN.n1 | exact hN.n2 | exact hN.n3 | exact hN.n4 | exact hN.n5 | exact hN.dy (by omega) | exact hN.p3 (by omega) | exact hN.p0 (by omega) | exact hN.p1 (by omega) | exact hN.p2 (by omega) | exact hN.p4 (by omega) | exact hN.p5 (by omega))) (by decide) rfl rfl (Nat.le_of_ble_eq_true rfl) ⟨Nat.zero_le _, Nat.zero_le _⟩ ?_
        refine jv_if_ge 28 h dX12_riders_21 (by decide) (fun c21 => ?_) (fun c21 => ?_)
        · rw [i32_le0, carI_neg (by omega)] at c21
          refine jv_iconst (nI 1) h dX12_riders_28 (by decide) ?_
          refine jv_iload_n h dX12_riders_29 rfl ?_
          refine jv_ishl h dX12_riders_30 ?_
          refine jv_ior h dX12_riders_31 ?_
          first | rw [nI_or (by rw [hs]; exact stN_lt _ _) (by omega)] | rw [nI_or0]
          refine jv_istore_n h dX12_riders_32 (lt_nl hnl (by decide)) ?_
          refine jv_iinc (nI (i + 1)) h dX12_riders_33 rfl (lt_nl hnl (by decide)) (nI_inc i) ?_
          refine jv_goto 4 h dX12_riders_36 (by decide) ?_
          exact ih (i + 1) _ (by omega) (by omega) (by first | (simp at c21; simp [stN, hs, c21]; done) | simp [stN, hs, c21])
        · rw [i32_le0, carI_neg (by omega)] at c21
          refine jv_iconst (nI 0) h dX12_riders_24 (by decide) ?_
          refine jv_goto 31 h dX12_riders_25 (by decide) ?_
          refine jv_ior h dX12_riders_31 ?_
          first | rw [nI_or (by rw [hs]; exact stN_lt _ _) (by omega)] | rw [nI_or0]
          refine jv_istore_n h dX12_riders_32 (lt_nl hnl (by decide)) ?_
          refine jv_iinc (nI (i + 1)) h dX12_riders_33 rfl (lt_nl hnl (by decide)) (nI_inc i) ?_
          refine jv_goto 4 h dX12_riders_36 (by decide) ?_
          exact ih (i + 1) _ (by omega) (by omega) (by first | (simp at c21; simp [stN, hs, c21]; done) | simp [stN, hs, c21])
  exact hl4 (S 0 + 1) 0 0 (by omega) (by omega) rfl
