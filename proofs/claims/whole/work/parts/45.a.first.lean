set_option maxHeartbeats 4000000 in
set_option maxRecDepth 100000 in
theorem c_firstMove {g : GT} {T : TT} {Mi : MI} {Ml : ML} {W st kk j n9 : Nat} {S : Nat → Nat} {A : Nat → Bool} {v : Int32} (hK : WkS g T W) (hB : BlkR Mi (W + 1) S) (hW : WF S) (hs : Mi W 2 = nI st) (hst : st ≤ 10000) (hk : Mi W 1 = nI kk) (hk5 : kk < 5) (hA : BR (Ml W 3) A) (hj : j < 54) (hv : NF v n9) (hn : n9 ≤ 60) : Ct g yX9_firstMove cX9_firstMove 5 (some .int) 7 0 0 [.ref W, .long (lN (2 ^ j)), .int v] T Mi Ml (Gi T (fun rv Mi' Ml' => rv = fsN (fun i => raA S A kk st (2 ^ i) n9 j) 0 4 ∧ (∀ a, a ≠ W → Mi' a = Mi a) ∧ (∀ q, q ≠ 4 → Mi' W q = Mi W q) ∧ (∀ a, a ≠ W → Ml' a = Ml a) ∧ (∀ q, q ≠ 5 → Ml' W q = Ml W q))) := by
  refine Ct.of' (plainFor_of_name (by decide +kernel)) (by exact Nat.le_of_ble_eq_true rfl) ?_
  intro x hg hR h hr hnm hnl
  subst hg
  obtain ⟨k1, k2, k3⟩ := id hK
  obtain ⟨b1, b2, b3⟩ := id k3
  obtain ⟨y0, y1, y2, y3⟩ := id hB
  obtain ⟨w0, w1, w2, w3, w4, w5, w6, w7⟩ := id hW
  obtain rfl : v = nI n9 := hv
  refine jv_iconst (nI 0) h dX9_firstMove_0 (by decide) ?_
  refine jv_istore h dX9_firstMove_1 (lt_nl hnl (by decide)) ?_
  have hl3 : ∀ (n : Nat) (i : Nat) (M1 : MI) (L1 : ML), 5 - i < n → i ≤ 4 → fsN (fun i => raA S A kk st (2 ^ i) n9 j) i (4 - i) = fsN (fun i => raA S A kk st (2 ^ i) n9 j) 0 4 → (∀ a, a ≠ W → M1 a = Mi a) → (∀ q, q ≠ 4 → M1 W q = Mi W q) → (∀ a, a ≠ W → L1 a = Ml a) → (∀ q, q ≠ 5 → L1 W q = Ml W q) → V x 0 0 T M1 L1 3 [some (.ref W), some (.long (lN (2 ^ j))), none, some (.int (nI n9)), some (.int (nI i))] [] := by
    intro n
    induction n with
    | zero => intro i M1 L1 hN9 hi hz f1 f2 f4 f5; exact absurd hN9 (by omega)
    | succ n ih =>
      intro i M1 L1 hN9 hi hz f1 f2 f4 f5
      refine jv_iload h dX9_firstMove_3 rfl ?_
      refine jv_iconst (nI 4) h dX9_firstMove_5 (by decide) ?_
      refine jv_nge 31 h dX9_firstMove_6 (by decide) (by repeat (with_reducible first | exact NF_nI _ | assumption | refine NF_add ?_ ?_ | refine NF_mul ?_ ?_)) (by repeat (with_reducible first | exact NF_nI _ | assumption | refine NF_add ?_ ?_ | refine NF_mul ?_ ?_)) ⟨by omega, by omega⟩ (fun c6 => ?_) (fun c6 => ?_)
      · refine jv_bipush (-4) h dX9_firstMove_31 (by decide) ?_
        exact jv_iret h hr dX9_firstMove_33 ⟨_, rfl, rfl, by
    rw [show 4 - i = 0 by omega] at hz
    exact hz, f1, f2, f4, f5⟩
      · rw [show 4 - i = (4 - (i + 1)) + 1 by omega, fsN_s] at hz
        refine jv_aload_n h dX9_firstMove_9 rfl ?_
        refine jv_lload_n h dX9_firstMove_10 rfl ?_
        refine jv_iload_n h dX9_firstMove_11 rfl ?_
        refine jv_iconst (nI 1) h dX9_firstMove_12 (by decide) ?_
        refine jv_iload h dX9_firstMove_13 rfl ?_
        refine jv_ishl h dX9_firstMove_15 ?_
        rw [sh_1 (by omega)]
        have hp64 : 2 ^ i < 64 := Nat.lt_of_lt_of_le (Nat.pow_lt_pow_right (by omega) (show i < 6 by omega)) (by decide)
        refine jv_VGi [_, _, _] h dX9_firstMove_16 cw_X9_130 cf_8 (by assumption) (c_reaches hK (hB.fr (f1 _ (by omega)) (f1 _ (by omega))) hW (by rw [f2 2 (by decide)]; exact hs) hst (by rw [f2 1 (by decide)]; exact hk) hk5 (by rw [f5 3 (by decide)]; exact hA) hj (NF_nI _) hn (NF_nI _) hp64) (by decide) rfl rfl (Nat.le_of_ble_eq_true rfl) ⟨Nat.zero_le _, Nat.zero_le _⟩ (fun v_16 Mi16 Ml16 hp16 => ?_)
        obtain ⟨w9, e1, e2, e3, e4⟩ := hp16
        subst v_16
        refine jv_beq 25 h dX9_firstMove_19 (by decide) (fun c19 => ?_) (fun c19 => ?_)
        · refine jv_iinc (nI (i + 1)) h dX9_firstMove_25 rfl (lt_nl hnl (by decide)) (nI_inc i) ?_
          refine jv_goto 3 h dX9_firstMove_28 (by decide) ?_
          rw [if_neg (by show ¬ raA S A kk st (2 ^ i) n9 j = true; rw [c19]; decide)] at hz
          exact ih (i + 1) _ _ (by omega) (by omega) hz (fun a ha => (e1 a ha).trans (f1 a ha)) (fun q hq => (e2 q hq).trans (f2 q hq)) (fun a ha => (e3 a ha).trans (f4 a ha)) (fun q hq => (e4 q hq).trans (f5 q hq))
        · refine jv_iload h dX9_firstMove_22 rfl ?_
          exact jv_iret h hr dX9_firstMove_24 ⟨_, rfl, rfl, by
    rw [if_pos (by show raA S A kk st (2 ^ i) n9 j = true; exact c19)] at hz
    exact hz, fun a ha => (e1 a ha).trans (f1 a ha), fun q hq => (e2 q hq).trans (f2 q hq), fun a ha => (e3 a ha).trans (f4 a ha), fun q hq => (e4 q hq).trans (f5 q hq)⟩
  exact hl3 6 0 _ _ (by omega) (by omega) rfl (fun _ _ => rfl) (fun _ _ => rfl) (fun _ _ => rfl) (fun _ _ => rfl)
