set_option maxHeartbeats 4000000 in
set_option maxRecDepth 100000 in
theorem c_weighs {g : GT} {T : TT} {Mi : MI} {Ml : ML} {A w k : Nat} (hP : KD g T A 4) (hw : Mi A 1 = nI w) (hk : Mi A 0 = nI k) (hk5 : k < 5) : Ct g yX5_weighs cX5_weighs 1 (some .int) 1 0 0 [.ref A] T Mi Ml (Ri T Mi Ml (nI (w * tmN k))) := by
  refine Ct.of' (plainFor_of_name (by decide +kernel)) (by exact Nat.le_of_ble_eq_true rfl) ?_
  intro x hg hR h hr hnm hnl
  subst hg
  refine jv_aload_n h dX5_weighs_0 rfl ?_
  refine jv_gv 1 h dX5_weighs_1 cf_4 (by decide) gw_88 (by assumption) (by assumption) ?_
  refine jv_aload_n h dX5_weighs_4 rfl ?_
  refine jv_ge 0 h dX5_weighs_5 cf_4 (by decide) gw_84 (by assumption) (by assumption) (by assumption) ?_
  refine jv_gen (L := [1, 1, 2, 2, 1]) (List.mem_of_getElem? (i := 1) rfl) h dX5_weighs_8 (by assumption) gw_1235 (tmE (by assumption)) ?_
  first | refine jv_imulN h dX5_weighs_11 (by repeat (with_reducible first | exact NF_nI _ | assumption | refine NF_add ?_ ?_ | refine NF_mul ?_ ?_)) (by repeat (with_reducible first | exact NF_nI _ | assumption | refine NF_add ?_ ?_ | refine NF_mul ?_ ?_)) ?_ | refine jv_imul h dX5_weighs_11 ?_
  exact jv_iret h hr dX5_weighs_12 ⟨rfl, rfl, rfl, rfl⟩
set_option maxHeartbeats 4000000 in
set_option maxRecDepth 100000 in
theorem c_rides {g : GT} {T : TT} {Mi : MI} {Ml : ML} {A c : Nat} (hP : KD g T A 4) (hc : Mi A 4 = carI c) (hb : c < 1000) : Ct g yX5_rides cX5_rides 1 (some .boolean) 1 0 0 [.ref A] T Mi Ml (Ri T Mi Ml (bI (decide (c ≠ 0)))) := by
  refine Ct.of' (plainFor_of_name (by decide +kernel)) (by exact Nat.le_of_ble_eq_true rfl) ?_
  intro x hg hR h hr hnm hnl
  subst hg
  refine jv_aload_n h dX5_rides_0 rfl ?_
  refine jv_gv 4 h dX5_rides_1 cf_4 (by decide) gw_97 (by assumption) (by assumption) ?_
  refine jv_iconst (-1) h dX5_rides_4 (by decide) ?_
  refine jv_icmp_eq 12 h dX5_rides_5 (by decide) (fun c5 => ?_) (fun c5 => ?_)
  · rw [carI_m1 (by omega)] at c5
    refine jv_iconst (nI 0) h dX5_rides_12 (by decide) ?_
    exact jv_zret h hr dX5_rides_13 rfl ⟨by simp [c5, bI], rfl, rfl, rfl⟩
  · rw [carI_m1 (by omega)] at c5
    refine jv_iconst (nI 1) h dX5_rides_8 (by decide) ?_
    refine jv_goto 13 h dX5_rides_9 (by decide) ?_
    exact jv_zret h hr dX5_rides_13 rfl ⟨by simp [c5, bI], rfl, rfl, rfl⟩
set_option maxHeartbeats 4000000 in
set_option maxRecDepth 100000 in
theorem c_load {g : GT} {T : TT} {Mi : MI} {Ml : ML} {A : Nat} {S : Nat → Nat} (hA : ScnS g T A) (hR9 : ScnR Mi A S) (hW : WF S) {v : Int32} {c : Nat} (hv : NF v c) (hc : c < 100) : Ct g yX6_load cX6_load 4 (some .int) 2 0 0 [.ref A, .int v] T Mi Ml (Ri T Mi Ml (nI (ldN S c (S 0)))) := by
  refine Ct.of' (plainFor_of_name (by decide +kernel)) (by exact Nat.le_of_ble_eq_true rfl) ?_
  intro x hg hR h hr hnm hnl
  subst hg
  obtain ⟨s1, s2, s3, s4, s5⟩ := id hA
  obtain ⟨v1, v2, v3, v4⟩ := id hR9
  obtain ⟨w0, w1, w2, w3, w4, w5, w6, w7⟩ := id hW
  refine jv_iconst (nI 0) h dX6_load_0 (by decide) ?_
  refine jv_istore_n h dX6_load_1 (lt_nl hnl (by decide)) ?_
  refine jv_iconst (nI 0) h dX6_load_2 (by decide) ?_
  refine jv_istore_n h dX6_load_3 (lt_nl hnl (by decide)) ?_
  have hl4 : ∀ (n : Nat) (i sm : Nat), S 0 - i < n → i ≤ S 0 → sm = ldN S c i → V x 0 0 T Mi Ml 4 [some (.ref A), some (.int v), some (.int (nI sm)), some (.int (nI i))] [] := by
    intro n
    induction n with
    | zero => intro i sm hN9 hi hs; exact absurd hN9 (by omega)
    | succ n ih =>
      intro i sm hN9 hi hs
      refine jv_iload_n h dX6_load_4 rfl ?_
      refine jv_aload_n h dX6_load_5 rfl ?_
      refine jv_gv 1 h dX6_load_6 cf_5 (by decide) gw_123 (by first | assumption | exact s4 _ (by omega) | exact s5 _ (by omega)) (by assumption) ?_
      refine jv_nge 43 h dX6_load_9 (by decide) (by repeat (with_reducible first | exact NF_nI _ | assumption | refine NF_add ?_ ?_ | refine NF_mul ?_ ?_)) (by repeat (with_reducible first | exact NF_nI _ | assumption | refine NF_add ?_ ?_ | refine NF_mul ?_ ?_)) ⟨by omega, by omega⟩ (fun c9 => ?_) (fun c9 => ?_)
      · have hie : i = S 0 := by omega
        refine jv_iload_n h dX6_load_43 rfl ?_
        exact jv_iret h hr dX6_load_44 ⟨by rw [hs, hie], rfl, rfl, rfl⟩
      · have w7i := w7 i (by omega)
        obtain ⟨q0, q1, q2, q3, q4, q5⟩ := v4 i (by omega)
        refine jv_aload_n h dX6_load_12 rfl ?_
        refine jv_gr 0 h dX6_load_13 cf_5 (by decide) gw_118 (by first | assumption | exact s4 _ (by omega) | exact s5 _ (by omega)) (by first | assumption | exact s4 _ (by omega) | exact s5 _ (by omega)) ?_
        refine jv_iload_n h dX6_load_16 rfl ?_
        refine jv_aald h dX6_load_17 (by first | assumption | exact s4 _ (by omega) | exact s5 _ (by omega)) (by decide) (by repeat (with_reducible first | exact NF_nI _ | assumption | refine NF_add ?_ ?_ | refine NF_mul ?_ ?_)) ⟨by omega, by decide⟩ (by first | assumption | exact s4 _ (by omega) | exact s5 _ (by omega)) ?_
        refine jv_gv 4 h dX6_load_18 cf_4 (by decide) gw_101 (by first | assumption | exact s4 _ (by omega) | exact s5 _ (by omega)) (by assumption) ?_
        refine jv_iload_n h dX6_load_21 rfl ?_
        refine jv_icmp_ne 37 h dX6_load_22 (by decide) (fun c22 => ?_) (fun c22 => ?_)
        · rw [hv, carI_eq (by omega) (by omega)] at c22
          refine jv_iinc (nI (i + 1)) h dX6_load_37 rfl (lt_nl hnl (by decide)) (nI_inc i) ?_
          refine jv_goto 4 h dX6_load_40 (by decide) ?_
          exact ih (i + 1) _ (by omega) (by omega) (by simp [ldN, hs, c22, wgN])
        · rw [hv, carI_eq (by omega) (by omega)] at c22
          refine jv_iload_n h dX6_load_25 rfl ?_
          refine jv_aload_n h dX6_load_26 rfl ?_
          refine jv_gr 0 h dX6_load_27 cf_5 (by decide) gw_118 (by first | assumption | exact s4 _ (by omega) | exact s5 _ (by omega)) (by first | assumption | exact s4 _ (by omega) | exact s5 _ (by omega)) ?_
          refine jv_iload_n h dX6_load_30 rfl ?_
          refine jv_aald h dX6_load_31 (by first | assumption | exact s4 _ (by omega) | exact s5 _ (by omega)) (by decide) (by repeat (with_reducible first | exact NF_nI _ | assumption | refine NF_add ?_ ?_ | refine NF_mul ?_ ?_)) ⟨by omega, by decide⟩ (by first | assumption | exact s4 _ (by omega) | exact s5 _ (by omega)) ?_
          refine jv_VRi [] h dX6_load_32 cw_X6_89 cf_4 (by first | assumption | exact s4 _ (by omega) | exact s5 _ (by omega)) (c_weighs (by first | assumption | exact s4 _ (by omega) | exact s5 _ (by omega)) (by assumption) (by assumption) (by omega)) (by decide) rfl rfl (Nat.le_of_ble_eq_true rfl) ⟨Nat.zero_le _, Nat.zero_le _⟩ ?_
          first | refine jv_iaddN h dX6_load_35 (by repeat (with_reducible first | exact NF_nI _ | assumption | refine NF_add ?_ ?_ | refine NF_mul ?_ ?_)) (by repeat (with_reducible first | exact NF_nI _ | assumption | refine NF_add ?_ ?_ | refine NF_mul ?_ ?_)) ?_ | refine jv_iadd h dX6_load_35 ?_
          refine jv_istore_n h dX6_load_36 (lt_nl hnl (by decide)) ?_
          refine jv_iinc (nI (i + 1)) h dX6_load_37 rfl (lt_nl hnl (by decide)) (nI_inc i) ?_
          refine jv_goto 4 h dX6_load_40 (by decide) ?_
          exact ih (i + 1) _ (by omega) (by omega) (by simp [ldN, hs, c22, wgN])
  exact hl4 (S 0 + 1) 0 0 (by omega) (by omega) rfl
set_option maxHeartbeats 4000000 in
set_option maxRecDepth 100000 in
theorem c_riders {g : GT} {T : TT} {Mi : MI} {Ml : ML} {A : Nat} {S : Nat → Nat} (hA : ScnS g T A) (hR9 : ScnR Mi A S) (hW : WF S) {v : Int32} {c : Nat} (hv : NF v c) (hc : c < 100) : Ct g yX6_riders cX6_riders 4 (some .int) 1 0 0 [.ref A, .int v] T Mi Ml (Ri T Mi Ml (nI (stN (fun p => decide (S (21 + 6 * p) = c + 1)) (S 0)))) := by
  refine Ct.of' (plainFor_of_name (by decide +kernel)) (by exact Nat.le_of_ble_eq_true rfl) ?_
  intro x hg hR h hr hnm hnl
  subst hg
  obtain ⟨s1, s2, s3, s4, s5⟩ := id hA
  obtain ⟨v1, v2, v3, v4⟩ := id hR9
  obtain ⟨w0, w1, w2, w3, w4, w5, w6, w7⟩ := id hW
  refine jv_iconst (nI 0) h dX6_riders_0 (by decide) ?_
  refine jv_istore_n h dX6_riders_1 (lt_nl hnl (by decide)) ?_
  refine jv_iconst (nI 0) h dX6_riders_2 (by decide) ?_
  refine jv_istore_n h dX6_riders_3 (lt_nl hnl (by decide)) ?_
  have hl4 : ∀ (n : Nat) (i st : Nat), S 0 - i < n → i ≤ S 0 → st = stN (fun p => decide (S (21 + 6 * p) = c + 1)) i → V x 0 0 T Mi Ml 4 [some (.ref A), some (.int v), some (.int (nI st)), some (.int (nI i))] [] := by
    intro n
    induction n with
    | zero => intro i st hN9 hi hs; exact absurd hN9 (by omega)
    | succ n ih =>
      intro i st hN9 hi hs
      refine jv_iload_n h dX6_riders_4 rfl ?_
      refine jv_aload_n h dX6_riders_5 rfl ?_
      refine jv_gv 1 h dX6_riders_6 cf_5 (by decide) gw_123 (by first | assumption | exact s4 _ (by omega) | exact s5 _ (by omega)) (by assumption) ?_
      refine jv_nge 37 h dX6_riders_9 (by decide) (by repeat (with_reducible first | exact NF_nI _ | assumption | refine NF_add ?_ ?_ | refine NF_mul ?_ ?_)) (by repeat (with_reducible first | exact NF_nI _ | assumption | refine NF_add ?_ ?_ | refine NF_mul ?_ ?_)) ⟨by omega, by omega⟩ (fun c9 => ?_) (fun c9 => ?_)
      · have hie : i = S 0 := by omega
        refine jv_iload_n h dX6_riders_37 rfl ?_
        exact jv_iret h hr dX6_riders_38 ⟨by rw [hs, hie], rfl, rfl, rfl⟩
      · have w7i := w7 i (by omega)
        obtain ⟨q0, q1, q2, q3, q4, q5⟩ := v4 i (by omega)
        refine jv_aload_n h dX6_riders_12 rfl ?_
        refine jv_gr 0 h dX6_riders_13 cf_5 (by decide) gw_118 (by first | assumption | exact s4 _ (by omega) | exact s5 _ (by omega)) (by first | assumption | exact s4 _ (by omega) | exact s5 _ (by omega)) ?_
        refine jv_iload_n h dX6_riders_16 rfl ?_
        refine jv_aald h dX6_riders_17 (by first | assumption | exact s4 _ (by omega) | exact s5 _ (by omega)) (by decide) (by repeat (with_reducible first | exact NF_nI _ | assumption | refine NF_add ?_ ?_ | refine NF_mul ?_ ?_)) ⟨by omega, by decide⟩ (by first | assumption | exact s4 _ (by omega) | exact s5 _ (by omega)) ?_
        refine jv_gv 4 h dX6_riders_18 cf_4 (by decide) gw_101 (by first | assumption | exact s4 _ (by omega) | exact s5 _ (by omega)) (by assumption) ?_
        refine jv_iload_n h dX6_riders_21 rfl ?_
        refine jv_icmp_ne 31 h dX6_riders_22 (by decide) (fun c22 => ?_) (fun c22 => ?_)
        · rw [hv, carI_eq (by omega) (by omega)] at c22
          refine jv_iinc (nI (i + 1)) h dX6_riders_31 rfl (lt_nl hnl (by decide)) (nI_inc i) ?_
          refine jv_goto 4 h dX6_riders_34 (by decide) ?_
          exact ih (i + 1) _ (by omega) (by omega) (by simp [stN, hs, c22])
        · rw [hv, carI_eq (by omega) (by omega)] at c22
          refine jv_iload_n h dX6_riders_25 rfl ?_
          refine jv_iconst (nI 1) h dX6_riders_26 (by decide) ?_
          refine jv_iload_n h dX6_riders_27 rfl ?_
          refine jv_ishl h dX6_riders_28 ?_
          refine jv_ior h dX6_riders_29 ?_
          first | rw [nI_or (by rw [hs]; exact stN_lt _ _) (by omega)] | rw [nI_or0]
          refine jv_istore_n h dX6_riders_30 (lt_nl hnl (by decide)) ?_
          refine jv_iinc (nI (i + 1)) h dX6_riders_31 rfl (lt_nl hnl (by decide)) (nI_inc i) ?_
          refine jv_goto 4 h dX6_riders_34 (by decide) ?_
          exact ih (i + 1) _ (by omega) (by omega) (by simp [stN, hs, c22])
  exact hl4 (S 0 + 1) 0 0 (by omega) (by omega) rfl
set_option maxHeartbeats 4000000 in
set_option maxRecDepth 100000 in
theorem c_allRiders {g : GT} {T : TT} {Mi : MI} {Ml : ML} {A : Nat} {S : Nat → Nat} (hA : ScnS g T A) (hR9 : ScnR Mi A S) (hW : WF S)  : Ct g yX6_allRiders cX6_allRiders 3 (some .int) 2 0 0 [.ref A] T Mi Ml (Ri T Mi Ml (nI (stN (fun p => decide (S (21 + 6 * p) ≠ 0)) (S 0)))) := by
  refine Ct.of' (plainFor_of_name (by decide +kernel)) (by exact Nat.le_of_ble_eq_true rfl) ?_
  intro x hg hR h hr hnm hnl
  subst hg
  obtain ⟨s1, s2, s3, s4, s5⟩ := id hA
  obtain ⟨v1, v2, v3, v4⟩ := id hR9
  obtain ⟨w0, w1, w2, w3, w4, w5, w6, w7⟩ := id hW
  refine jv_iconst (nI 0) h dX6_allRiders_0 (by decide) ?_
  refine jv_istore_n h dX6_allRiders_1 (lt_nl hnl (by decide)) ?_
  refine jv_iconst (nI 0) h dX6_allRiders_2 (by decide) ?_
  refine jv_istore_n h dX6_allRiders_3 (lt_nl hnl (by decide)) ?_
  have hl4 : ∀ (n : Nat) (i st : Nat), S 0 - i < n → i ≤ S 0 → st = stN (fun p => decide (S (21 + 6 * p) ≠ 0)) i → V x 0 0 T Mi Ml 4 [some (.ref A), some (.int (nI st)), some (.int (nI i))] [] := by
    intro n
    induction n with
    | zero => intro i st hN9 hi hs; exact absurd hN9 (by omega)
    | succ n ih =>
      intro i st hN9 hi hs
      refine jv_iload_n h dX6_allRiders_4 rfl ?_
      refine jv_aload_n h dX6_allRiders_5 rfl ?_
      refine jv_gv 1 h dX6_allRiders_6 cf_5 (by decide) gw_123 (by first | assumption | exact s4 _ (by omega) | exact s5 _ (by omega)) (by assumption) ?_
      refine jv_nge 36 h dX6_allRiders_9 (by decide) (by repeat (with_reducible first | exact NF_nI _ | assumption | refine NF_add ?_ ?_ | refine NF_mul ?_ ?_)) (by repeat (with_reducible first | exact NF_nI _ | assumption | refine NF_add ?_ ?_ | refine NF_mul ?_ ?_)) ⟨by omega, by omega⟩ (fun c9 => ?_) (fun c9 => ?_)
      · have hie : i = S 0 := by omega
        refine jv_iload_n h dX6_allRiders_36 rfl ?_
        exact jv_iret h hr dX6_allRiders_37 ⟨by rw [hs, hie], rfl, rfl, rfl⟩
      · have w7i := w7 i (by omega)
        obtain ⟨q0, q1, q2, q3, q4, q5⟩ := v4 i (by omega)
        refine jv_aload_n h dX6_allRiders_12 rfl ?_
        refine jv_gr 0 h dX6_allRiders_13 cf_5 (by decide) gw_118 (by first | assumption | exact s4 _ (by omega) | exact s5 _ (by omega)) (by first | assumption | exact s4 _ (by omega) | exact s5 _ (by omega)) ?_
        refine jv_iload_n h dX6_allRiders_16 rfl ?_
        refine jv_aald h dX6_allRiders_17 (by first | assumption | exact s4 _ (by omega) | exact s5 _ (by omega)) (by decide) (by repeat (with_reducible first | exact NF_nI _ | assumption | refine NF_add ?_ ?_ | refine NF_mul ?_ ?_)) ⟨by omega, by decide⟩ (by first | assumption | exact s4 _ (by omega) | exact s5 _ (by omega)) ?_
        refine jv_VRi [] h dX6_allRiders_18 cw_X6_57 cf_4 (by first | assumption | exact s4 _ (by omega) | exact s5 _ (by omega)) (c_rides (by first | assumption | exact s4 _ (by omega) | exact s5 _ (by omega)) (by assumption) (by omega)) (by decide) rfl rfl (Nat.le_of_ble_eq_true rfl) ⟨Nat.zero_le _, Nat.zero_le _⟩ ?_
        refine jv_beq 30 h dX6_allRiders_21 (by decide) (fun c21 => ?_) (fun c21 => ?_)
        · refine jv_iinc (nI (i + 1)) h dX6_allRiders_30 rfl (lt_nl hnl (by decide)) (nI_inc i) ?_
          refine jv_goto 4 h dX6_allRiders_33 (by decide) ?_
          exact ih (i + 1) _ (by omega) (by omega) (by first | (simp at c21; simp [stN, hs, c21]; done) | simp [stN, hs, c21])
        · refine jv_iload_n h dX6_allRiders_24 rfl ?_
          refine jv_iconst (nI 1) h dX6_allRiders_25 (by decide) ?_
          refine jv_iload_n h dX6_allRiders_26 rfl ?_
          refine jv_ishl h dX6_allRiders_27 ?_
          refine jv_ior h dX6_allRiders_28 ?_
          first | rw [nI_or (by rw [hs]; exact stN_lt _ _) (by omega)] | rw [nI_or0]
          refine jv_istore_n h dX6_allRiders_29 (lt_nl hnl (by decide)) ?_
          refine jv_iinc (nI (i + 1)) h dX6_allRiders_30 rfl (lt_nl hnl (by decide)) (nI_inc i) ?_
          refine jv_goto 4 h dX6_allRiders_33 (by decide) ?_
          exact ih (i + 1) _ (by omega) (by omega) (by first | (simp at c21; simp [stN, hs, c21]; done) | simp [stN, hs, c21])
  exact hl4 (S 0 + 1) 0 0 (by omega) (by omega) rfl
/-- all lunches, the fewest of one, of the first n -/
def luN (S : Nat → Nat) : Nat → Nat
  | 0 => 0
  | p + 1 => luN S p + S (23 + 6 * p)
def lmN (S : Nat → Nat) : Nat → Nat
  | 0 => 0
  | p + 1 => if p = 0 then S 23 else min (lmN S p) (S (23 + 6 * p))
theorem luN_le {S : Nat → Nat} (h : WF S) : ∀ n, n ≤ S 0 → luN S n ≤ S 1 * n
  | 0, _ => by simp [luN]
  | n + 1, hn => by
    have h1 := luN_le h n (by omega)
    have h2 := (h.2.2.2.2.2.2.2 n (by omega)).2.2.2.2.2
    unfold luN
    rw [Nat.mul_succ]
    omega
theorem lmN_le {S : Nat → Nat} (h : WF S) : ∀ n, n ≤ S 0 → lmN S n ≤ S 1
  | 0, _ => by simp [lmN]
  | n + 1, hn => by
    have h2 := (h.2.2.2.2.2.2.2 n (by omega)).2.2.2.2.2
    unfold lmN
    split
    · rename_i e; subst e; exact h2
    · omega

set_option maxHeartbeats 4000000 in
set_option maxRecDepth 100000 in
theorem c_allLunches {g : GT} {T : TT} {Mi : MI} {Ml : ML} {A : Nat} {S : Nat → Nat} (hA : ScnS g T A) (hR9 : ScnR Mi A S) (hW : WF S)  : Ct g yX6_allLunches cX6_allLunches 3 (some .int) 1 0 0 [.ref A] T Mi Ml (Ri T Mi Ml (nI (luN S (S 0)))) := by
  refine Ct.of' (plainFor_of_name (by decide +kernel)) (by exact Nat.le_of_ble_eq_true rfl) ?_
  intro x hg hR h hr hnm hnl
  subst hg
  obtain ⟨s1, s2, s3, s4, s5⟩ := id hA
  obtain ⟨v1, v2, v3, v4⟩ := id hR9
  obtain ⟨w0, w1, w2, w3, w4, w5, w6, w7⟩ := id hW
  refine jv_iconst (nI 0) h dX6_allLunches_0 (by decide) ?_
  refine jv_istore_n h dX6_allLunches_1 (lt_nl hnl (by decide)) ?_
  refine jv_iconst (nI 0) h dX6_allLunches_2 (by decide) ?_
  refine jv_istore_n h dX6_allLunches_3 (lt_nl hnl (by decide)) ?_
  have hl4 : ∀ (n : Nat) (i sm : Nat), S 0 - i < n → i ≤ S 0 → sm = luN S i → V x 0 0 T Mi Ml 4 [some (.ref A), some (.int (nI sm)), some (.int (nI i))] [] := by
    intro n
    induction n with
    | zero => intro i sm hN9 hi hs; exact absurd hN9 (by omega)
    | succ n ih =>
      intro i sm hN9 hi hs
      refine jv_iload_n h dX6_allLunches_4 rfl ?_
      refine jv_aload_n h dX6_allLunches_5 rfl ?_
      refine jv_gv 1 h dX6_allLunches_6 cf_5 (by decide) gw_123 (by first | assumption | exact s4 _ (by omega) | exact s5 _ (by omega)) (by assumption) ?_
      refine jv_nge 30 h dX6_allLunches_9 (by decide) (by repeat (with_reducible first | exact NF_nI _ | assumption | refine NF_add ?_ ?_ | refine NF_mul ?_ ?_)) (by repeat (with_reducible first | exact NF_nI _ | assumption | refine NF_add ?_ ?_ | refine NF_mul ?_ ?_)) ⟨by omega, by omega⟩ (fun c9 => ?_) (fun c9 => ?_)
      · have hie : i = S 0 := by omega
        refine jv_iload_n h dX6_allLunches_30 rfl ?_
        exact jv_iret h hr dX6_allLunches_31 ⟨by rw [hs, hie], rfl, rfl, rfl⟩
      · have w7i := w7 i (by omega)
        obtain ⟨q0, q1, q2, q3, q4, q5⟩ := v4 i (by omega)
        refine jv_iload_n h dX6_allLunches_12 rfl ?_
        refine jv_aload_n h dX6_allLunches_13 rfl ?_
        refine jv_gr 0 h dX6_allLunches_14 cf_5 (by decide) gw_118 (by first | assumption | exact s4 _ (by omega) | exact s5 _ (by omega)) (by first | assumption | exact s4 _ (by omega) | exact s5 _ (by omega)) ?_
        refine jv_iload_n h dX6_allLunches_17 rfl ?_
        refine jv_aald h dX6_allLunches_18 (by first | assumption | exact s4 _ (by omega) | exact s5 _ (by omega)) (by decide) (by repeat (with_reducible first | exact NF_nI _ | assumption | refine NF_add ?_ ?_ | refine NF_mul ?_ ?_)) ⟨by omega, by decide⟩ (by first | assumption | exact s4 _ (by omega) | exact s5 _ (by omega)) ?_
        refine jv_gv 5 h dX6_allLunches_19 cf_4 (by decide) gw_104 (by first | assumption | exact s4 _ (by omega) | exact s5 _ (by omega)) (by assumption) ?_
        first | refine jv_iaddN h dX6_allLunches_22 (by repeat (with_reducible first | exact NF_nI _ | assumption | refine NF_add ?_ ?_ | refine NF_mul ?_ ?_)) (by repeat (with_reducible first | exact NF_nI _ | assumption | refine NF_add ?_ ?_ | refine NF_mul ?_ ?_)) ?_ | refine jv_iadd h dX6_allLunches_22 ?_
        refine jv_istore_n h dX6_allLunches_23 (lt_nl hnl (by decide)) ?_
        refine jv_iinc (nI (i + 1)) h dX6_allLunches_24 rfl (lt_nl hnl (by decide)) (nI_inc i) ?_
        refine jv_goto 4 h dX6_allLunches_27 (by decide) ?_
        exact ih (i + 1) _ (by omega) (by omega) (by simp [luN, hs])
  exact hl4 (S 0 + 1) 0 0 (by omega) (by omega) rfl
set_option maxHeartbeats 4000000 in
set_option maxRecDepth 100000 in
theorem c_fewestLunches {g : GT} {T : TT} {Mi : MI} {Ml : ML} {A : Nat} {S : Nat → Nat} (hA : ScnS g T A) (hR9 : ScnR Mi A S) (hW : WF S)  : Ct g yX6_fewestLunches cX6_fewestLunches 3 (some .int) 2 0 0 [.ref A] T Mi Ml (Ri T Mi Ml (if S 0 = 0 then -4 else nI (lmN S (S 0)))) := by
  refine Ct.of' (plainFor_of_name (by decide +kernel)) (by exact Nat.le_of_ble_eq_true rfl) ?_
  intro x hg hR h hr hnm hnl
  subst hg
  obtain ⟨s1, s2, s3, s4, s5⟩ := id hA
  obtain ⟨v1, v2, v3, v4⟩ := id hR9
  obtain ⟨w0, w1, w2, w3, w4, w5, w6, w7⟩ := id hW
  refine jv_aload_n h dX6_fewestLunches_0 rfl ?_
  refine jv_gv 1 h dX6_fewestLunches_1 cf_5 (by decide) gw_123 (by first | assumption | exact s4 _ (by omega) | exact s5 _ (by omega)) (by assumption) ?_
  refine jv_zne 10 h dX6_fewestLunches_4 (by decide) (by repeat (with_reducible first | exact NF_nI _ | assumption | refine NF_add ?_ ?_ | refine NF_mul ?_ ?_)) (by omega) (fun c4 => ?_) (fun c4 => ?_)
  · obtain ⟨q0, q1, q2, q3, q4, q5⟩ := v4 0 (by omega)
    refine jv_aload_n h dX6_fewestLunches_10 rfl ?_
    refine jv_gr 0 h dX6_fewestLunches_11 cf_5 (by decide) gw_118 (by first | assumption | exact s4 _ (by omega) | exact s5 _ (by omega)) (by first | assumption | exact s4 _ (by omega) | exact s5 _ (by omega)) ?_
    refine jv_iconst (nI 0) h dX6_fewestLunches_14 (by decide) ?_
    refine jv_aald h dX6_fewestLunches_15 (by first | assumption | exact s4 _ (by omega) | exact s5 _ (by omega)) (by decide) (by repeat (with_reducible first | exact NF_nI _ | assumption | refine NF_add ?_ ?_ | refine NF_mul ?_ ?_)) ⟨by omega, by decide⟩ (by first | assumption | exact s4 _ (by omega) | exact s5 _ (by omega)) ?_
    refine jv_gv 5 h dX6_fewestLunches_16 cf_4 (by decide) gw_104 (by first | assumption | exact s4 _ (by omega) | exact s5 _ (by omega)) (by assumption) ?_
    refine jv_istore_n h dX6_fewestLunches_19 (lt_nl hnl (by decide)) ?_
    refine jv_iconst (nI 1) h dX6_fewestLunches_20 (by decide) ?_
    refine jv_istore_n h dX6_fewestLunches_21 (lt_nl hnl (by decide)) ?_
    have hl22 : ∀ (n : Nat) (i sm : Nat), S 0 - i < n → i ≤ S 0 → 0 < i → sm = lmN S i → V x 0 0 T Mi Ml 22 [some (.ref A), some (.int (nI sm)), some (.int (nI i))] [] := by
      intro n
      induction n with
      | zero => intro i sm hN9 hi hi0 hs; exact absurd hN9 (by omega)
      | succ n ih =>
        intro i sm hN9 hi hi0 hs
        refine jv_iload_n h dX6_fewestLunches_22 rfl ?_
        refine jv_aload_n h dX6_fewestLunches_23 rfl ?_
        refine jv_gv 1 h dX6_fewestLunches_24 cf_5 (by decide) gw_123 (by first | assumption | exact s4 _ (by omega) | exact s5 _ (by omega)) (by assumption) ?_
        refine jv_nge 50 h dX6_fewestLunches_27 (by decide) (by repeat (with_reducible first | exact NF_nI _ | assumption | refine NF_add ?_ ?_ | refine NF_mul ?_ ?_)) (by repeat (with_reducible first | exact NF_nI _ | assumption | refine NF_add ?_ ?_ | refine NF_mul ?_ ?_)) ⟨by omega, by omega⟩ (fun c27 => ?_) (fun c27 => ?_)
        · have hie : i = S 0 := by omega
          refine jv_iload_n h dX6_fewestLunches_50 rfl ?_
          exact jv_iret h hr dX6_fewestLunches_51 ⟨by rw [hs, hie, if_neg (by omega)], rfl, rfl, rfl⟩
        · have w7i := w7 i (by omega)
          obtain ⟨q0, q1, q2, q3, q4, q5⟩ := v4 i (by omega)
          have hle := lmN_le hW i (by omega)
          refine jv_iload_n h dX6_fewestLunches_30 rfl ?_
          refine jv_aload_n h dX6_fewestLunches_31 rfl ?_
          refine jv_gr 0 h dX6_fewestLunches_32 cf_5 (by decide) gw_118 (by first | assumption | exact s4 _ (by omega) | exact s5 _ (by omega)) (by first | assumption | exact s4 _ (by omega) | exact s5 _ (by omega)) ?_
          refine jv_iload_n h dX6_fewestLunches_35 rfl ?_
          refine jv_aald h dX6_fewestLunches_36 (by first | assumption | exact s4 _ (by omega) | exact s5 _ (by omega)) (by decide) (by repeat (with_reducible first | exact NF_nI _ | assumption | refine NF_add ?_ ?_ | refine NF_mul ?_ ?_)) ⟨by omega, by decide⟩ (by first | assumption | exact s4 _ (by omega) | exact s5 _ (by omega)) ?_
          refine jv_gv 5 h dX6_fewestLunches_37 cf_4 (by decide) gw_104 (by first | assumption | exact s4 _ (by omega) | exact s5 _ (by omega)) (by assumption) ?_
          refine jv_SRi [_, _] h dX6_fewestLunches_40 cw_X6_93 (c_min (by repeat (with_reducible first | exact NF_nI _ | assumption | refine NF_add ?_ ?_ | refine NF_mul ?_ ?_)) (by repeat (with_reducible first | exact NF_nI _ | assumption | refine NF_add ?_ ?_ | refine NF_mul ?_ ?_)) (by omega) (by omega)) (by decide) rfl rfl (Nat.le_of_ble_eq_true rfl) ⟨Nat.zero_le _, Nat.zero_le _⟩ ?_
          refine jv_istore_n h dX6_fewestLunches_43 (lt_nl hnl (by decide)) ?_
          refine jv_iinc (nI (i + 1)) h dX6_fewestLunches_44 rfl (lt_nl hnl (by decide)) (nI_inc i) ?_
          refine jv_goto 22 h dX6_fewestLunches_47 (by decide) ?_
          exact ih (i + 1) _ (by omega) (by omega) (by omega) (by simp [lmN, hs, show i ≠ 0 by omega])
    exact hl22 (S 0 + 1) 1 _ (by omega) (by omega) (by omega) rfl
  · refine jv_bipush (-4) h dX6_fewestLunches_7 (by decide) ?_
    exact jv_iret h hr dX6_fewestLunches_9 ⟨by rw [if_pos c4], rfl, rfl, rfl⟩
