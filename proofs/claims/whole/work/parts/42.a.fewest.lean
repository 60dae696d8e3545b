/-- where it can be ahead of the n-th move, behind it -/
def wsA (S : Nat → Nat) (A : Nat → Bool) (kk st : Nat) : Nat → Nat → Bool
  | 0 => A
  | n + 1 => goA S (mvP S (wsA S A kk st n) (st + n) 15 (2 * S 2)) kk (st + n + 1)
def wmB (S : Nat → Nat) (A : Nat → Bool) (kk st j n : Nat) : Bool := mvP S (wsA S A kk st n) (st + n) 15 (2 * S 2) j
theorem car_gt {i e : Nat} (hi : i < 2 ^ 30) (he : e < 2 ^ 30) : carI e < nI i ↔ e ≤ i := by
  cases e with
  | zero => exact ⟨fun _ => Nat.zero_le _, fun _ => by rw [carI_0, Int32.lt_iff_toInt_lt, nI_toInt (by omega), show (-1 : Int32).toInt = -1 from by decide]; omega⟩
  | succ e => rw [carI_s, nI_ltI (by omega) (by omega)]; omega

set_option maxHeartbeats 4000000 in
set_option maxRecDepth 100000 in
theorem c_fewest {g : GT} {T : TT} {Mi : MI} {Ml : ML} {W st kk j e : Nat} {S : Nat → Nat} {A : Nat → Bool} {v : Int32} (hK : WkS g T W) (hB : BlkR Mi (W + 1) S) (hW : WF S) (hs : Mi W 2 = nI st) (hst : st ≤ 10000) (hk : Mi W 1 = nI kk) (hk5 : kk < 5) (hA : BR (Ml W 3) A) (hj : j < 54) (hv : v = carI e) (he : e ≤ 61) : Ct g yX9_fewestSteps cX9_fewestSteps 7 (some .int) 6 0 0 [.ref W, .long (lN (2 ^ j)), .int v] T Mi Ml (Gi T (fun rv Mi' Ml' => rv = fsN (wmB S A kk st j) 0 e ∧ (∀ a, a ≠ W → Mi' a = Mi a) ∧ (∀ q, q ≠ 4 → Mi' W q = Mi W q) ∧ (∀ a, a ≠ W → Ml' a = Ml a) ∧ (∀ q, q ≠ 5 → Ml' W q = Ml W q))) := by
  refine Ct.of' (plainFor_of_name (by decide +kernel)) (by exact Nat.le_of_ble_eq_true rfl) ?_
  intro x hg hR h hr hnm hnl
  subst hg
  obtain ⟨k1, k2, k3⟩ := id hK
  obtain ⟨b1, b2, b3⟩ := id k3
  obtain ⟨y0, y1, y2, y3⟩ := id hB
  obtain ⟨w0, w1, w2, w3, w4, w5, w6, w7⟩ := id hW
  subst hv
  refine jv_aload_n h dX9_fewestSteps_0 rfl ?_
  refine jv_VGv [] h dX9_fewestSteps_1 cw_X9_75 cf_8 (by assumption) (c_rewind hK) (by decide) rfl rfl (Nat.le_of_ble_eq_true rfl) ⟨Nat.zero_le _, Nat.zero_le _⟩ (fun Mi1 Ml1 hp1 => ?_)
  obtain ⟨rfl, rfl⟩ := hp1
  refine jv_iconst (nI 0) h dX9_fewestSteps_4 (by decide) ?_
  refine jv_istore h dX9_fewestSteps_5 (lt_nl hnl (by decide)) ?_
  have hl7 : ∀ (n : Nat) (i : Nat) (M1 : MI) (L1 : ML) (o5 : Option Value), 62 - i < n → i ≤ e → fsN (wmB S A kk st j) i (e - i) = fsN (wmB S A kk st j) 0 e → (∀ a, a ≠ W → M1 a = Mi a) → (∀ q, q ≠ 4 → M1 W q = Mi W q) → M1 W 4 = nI (st + i) → (∀ a, a ≠ W → L1 a = Ml a) → (∀ q, q ≠ 5 → L1 W q = Ml W q) → BR (L1 W 5) (wsA S A kk st i) → V x 0 0 T M1 L1 7 [some (.ref W), some (.long (lN (2 ^ j))), none, some (.int (carI e)), some (.int (nI i)), o5, none] [] := by
    intro n
    induction n with
    | zero => intro i M1 L1 o5 hN9 hi hz f1 f2 f3 f4 f5 f6; exact absurd hN9 (by omega)
    | succ n ih =>
      intro i M1 L1 o5 hN9 hi hz f1 f2 f3 f4 f5 f6
      have hB1 : BlkR M1 (W + 1) S := hB.fr (f1 _ (by omega)) (f1 _ (by omega))
      have hk1 : M1 W 1 = nI kk := by rw [f2 1 (by decide)]; exact hk
      refine jv_iload h dX9_fewestSteps_7 rfl ?_
      refine jv_iload_n h dX9_fewestSteps_9 rfl ?_
      refine jv_icmp_gt 45 h dX9_fewestSteps_10 (by decide) (fun c10 => ?_) (fun c10 => ?_)
      · rw [car_gt (by omega) (by omega)] at c10
        refine jv_bipush (-4) h dX9_fewestSteps_45 (by decide) ?_
        exact jv_iret h hr dX9_fewestSteps_47 ⟨_, rfl, rfl, by
    rw [show e - i = 0 by omega] at hz
    exact hz, f1, f2, f4, f5⟩
      · rw [car_gt (by omega) (by omega)] at c10
        rw [show e - i = (e - (i + 1)) + 1 by omega, fsN_s] at hz
        refine jv_aload_n h dX9_fewestSteps_13 rfl ?_
        refine jv_bipush (nI 15) h dX9_fewestSteps_14 (by decide) ?_
        refine jv_VGl [_] h dX9_fewestSteps_16 cw_X9_123 cf_8 (by assumption) (c_moved hK hB1 hW f3 (by omega) f6 (NF_nI _) (by decide)) (by decide) rfl rfl (Nat.le_of_ble_eq_true rfl) ⟨Nat.zero_le _, Nat.zero_le _⟩ (fun v_16 Mi16 Ml16 hp16 => ?_)
        obtain ⟨n1, n2, n3⟩ := hp16
        subst Mi16
        subst Ml16
        refine jv_lstore h dX9_fewestSteps_19 (lt_nl hnl (by decide)) ?_
        refine jv_lload h dX9_fewestSteps_21 rfl ?_
        refine jv_lload_n h dX9_fewestSteps_23 rfl ?_
        refine jv_land h dX9_fewestSteps_24 ?_
        refine jv_lconst (lN 0) h dX9_fewestSteps_25 (by decide) ?_
        refine jv_lcmp h dX9_fewestSteps_26 ?_
        refine jv_if_eq 33 h dX9_fewestSteps_27 (by decide) (fun c27 => ?_) (fun c27 => ?_)
        · rw [n3.sits hj] at c27
          refine jv_aload_n h dX9_fewestSteps_33 rfl ?_
          refine jv_lload h dX9_fewestSteps_34 rfl ?_
          refine jv_VGv [_] h dX9_fewestSteps_36 cw_X9_126 cf_8 (by assumption) (c_wgoOn hK hB1 hW f3 (by omega) hk1 hk5 n3) (by decide) rfl rfl (Nat.le_of_ble_eq_true rfl) ⟨Nat.zero_le _, Nat.zero_le _⟩ (fun Mi36 Ml36 hp36 => ?_)
          refine jv_iinc (nI (i + 1)) h dX9_fewestSteps_39 rfl (lt_nl hnl (by decide)) (nI_inc i) ?_
          refine jv_goto 7 h dX9_fewestSteps_42 (by decide) ?_
          obtain ⟨rfl, e1, e2, e3⟩ := hp36
          have hwm : wmB S A kk st j i = false := c27
          rw [hwm, if_neg (by decide)] at hz
          exact ih (i + 1) _ _ _ (by omega) (by omega) hz (fun a ha => by rw [upd2_row _ _ ha]; exact f1 a ha) (fun q hq => by rw [upd2_ne _ _ (by omega)]; exact f2 q hq) (by rw [upd2_same]; rfl) (fun a ha => (e1 a ha).trans (f4 a ha)) (fun q hq => (e2 q hq).trans (f5 q hq)) e3
        · rw [n3.sits hj, Bool.not_eq_false] at c27
          refine jv_iload h dX9_fewestSteps_30 rfl ?_
          exact jv_iret h hr dX9_fewestSteps_32 ⟨_, rfl, rfl, by
    have hwm : wmB S A kk st j i = true := c27
    rw [hwm, if_pos rfl] at hz
    exact hz, f1, f2, f4, f5⟩
  exact hl7 63 0 _ _ _ (by omega) (by omega) rfl (fun a ha => upd2_row _ _ ha) (fun q hq => upd2_ne _ _ (by omega)) (by rw [upd2_same]; exact hs) (fun a ha => upd2_row _ _ ha) (fun q hq => upd2_ne _ _ (by omega)) (by rw [upd2_same]; exact hA)
