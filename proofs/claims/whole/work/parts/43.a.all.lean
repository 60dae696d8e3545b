set_option maxHeartbeats 4000000 in
set_option maxRecDepth 100000 in
theorem c_allReached {g : GT} {T : TT} {Mi : MI} {Ml : ML} {W st kk : Nat} {S : Nat → Nat} {A : Nat → Bool} (hK : WkS g T W) (hB : BlkR Mi (W + 1) S) (hW : WF S) (hs : Mi W 4 = nI st) (hst : st ≤ 10000) (hk : Mi W 1 = nI kk) (hk5 : kk < 5) (hA : BR (Ml W 5) A) : Ct g yX9_allReached cX9_allReached 2 (some .long) 6 0 0 [.ref W] T Mi Ml (Gl T (fun rv Mi' Ml' => BR rv (mvP S (wsA S A kk st 60) (st + 60) 15 (2 * S 2)) ∧ (∀ a, a ≠ W → Mi' a = Mi a) ∧ (∀ q, q ≠ 4 → Mi' W q = Mi W q) ∧ (∀ a, a ≠ W → Ml' a = Ml a) ∧ (∀ q, q ≠ 5 → Ml' W q = Ml W q))) := by
  refine Ct.of' (plainFor_of_name (by decide +kernel)) (by exact Nat.le_of_ble_eq_true rfl) ?_
  intro x hg hR h hr hnm hnl
  subst hg
  obtain ⟨k1, k2, k3⟩ := id hK
  obtain ⟨b1, b2, b3⟩ := id k3
  obtain ⟨y0, y1, y2, y3⟩ := id hB
  obtain ⟨w0, w1, w2, w3, w4, w5, w6, w7⟩ := id hW
  refine jv_iconst (nI 0) h dX9_allReached_0 (by decide) ?_
  refine jv_istore_n h dX9_allReached_1 (lt_nl hnl (by decide)) ?_
  have hl2 : ∀ (n : Nat) (i : Nat) (M1 : MI) (L1 : ML), 61 - i < n → i ≤ 60 → (∀ a, a ≠ W → M1 a = Mi a) → (∀ q, q ≠ 4 → M1 W q = Mi W q) → M1 W 4 = nI (st + i) → (∀ a, a ≠ W → L1 a = Ml a) → (∀ q, q ≠ 5 → L1 W q = Ml W q) → BR (L1 W 5) (wsA S A kk st i) → V x 0 0 T M1 L1 2 [some (.ref W), some (.int (nI i))] [] := by
    intro n
    induction n with
    | zero => intro i M1 L1 hN9 hi f1 f2 f3 f4 f5 f6; exact absurd hN9 (by omega)
    | succ n ih =>
      intro i M1 L1 hN9 hi f1 f2 f3 f4 f5 f6
      have hB1 : BlkR M1 (W + 1) S := hB.fr (f1 _ (by omega)) (f1 _ (by omega))
      have hk1 : M1 W 1 = nI kk := by rw [f2 1 (by decide)]; exact hk
      refine jv_iload_n h dX9_allReached_2 rfl ?_
      refine jv_bipush (nI 60) h dX9_allReached_3 (by decide) ?_
      refine jv_nge 24 h dX9_allReached_5 (by decide) (by repeat (with_reducible first | exact NF_nI _ | assumption | refine NF_add ?_ ?_ | refine NF_mul ?_ ?_)) (by repeat (with_reducible first | exact NF_nI _ | assumption | refine NF_add ?_ ?_ | refine NF_mul ?_ ?_)) ⟨by omega, by omega⟩ (fun c5 => ?_) (fun c5 => ?_)
      · refine jv_aload_n h dX9_allReached_24 rfl ?_
        refine jv_bipush (nI 15) h dX9_allReached_25 (by decide) ?_
        refine jv_VGl [_] h dX9_allReached_27 cw_X9_123 cf_8 (by assumption) (c_moved hK hB1 hW f3 (by omega) f6 (NF_nI _) (by decide)) (by decide) rfl rfl (Nat.le_of_ble_eq_true rfl) ⟨Nat.zero_le _, Nat.zero_le _⟩ (fun v_27 Mi27 Ml27 hp27 => ?_)
        obtain ⟨n1, n2, n3⟩ := hp27
        subst Mi27
        subst Ml27
        exact jv_lret h hr dX9_allReached_30 ⟨_, rfl, rfl, by rw [show (60 : Nat) = i by omega]; exact n3, f1, f2, f4, f5⟩
      · refine jv_aload_n h dX9_allReached_8 rfl ?_
        refine jv_aload_n h dX9_allReached_9 rfl ?_
        refine jv_bipush (nI 15) h dX9_allReached_10 (by decide) ?_
        refine jv_VGl [_] h dX9_allReached_12 cw_X9_123 cf_8 (by assumption) (c_moved hK hB1 hW f3 (by omega) f6 (NF_nI _) (by decide)) (by decide) rfl rfl (Nat.le_of_ble_eq_true rfl) ⟨Nat.zero_le _, Nat.zero_le _⟩ (fun v_12 Mi12 Ml12 hp12 => ?_)
        obtain ⟨n1, n2, n3⟩ := hp12
        subst Mi12
        subst Ml12
        refine jv_VGv [_] h dX9_allReached_15 cw_X9_126 cf_8 (by assumption) (c_wgoOn hK hB1 hW f3 (by omega) hk1 hk5 n3) (by decide) rfl rfl (Nat.le_of_ble_eq_true rfl) ⟨Nat.zero_le _, Nat.zero_le _⟩ (fun Mi15 Ml15 hp15 => ?_)
        refine jv_iinc (nI (i + 1)) h dX9_allReached_18 rfl (lt_nl hnl (by decide)) (nI_inc i) ?_
        refine jv_goto 2 h dX9_allReached_21 (by decide) ?_
        obtain ⟨rfl, e1, e2, e3⟩ := hp15
        exact ih (i + 1) _ _ (by omega) (by omega) (fun a ha => by rw [upd2_row _ _ ha]; exact f1 a ha) (fun q hq => by rw [upd2_ne _ _ (by omega)]; exact f2 q hq) (by rw [upd2_same]; rfl) (fun a ha => (e1 a ha).trans (f4 a ha)) (fun q hq => (e2 q hq).trans (f5 q hq)) e3
  exact hl2 62 0 _ _ (by omega) (by omega) (fun _ _ => rfl) (fun _ _ => rfl) hs (fun _ _ => rfl) (fun _ _ => rfl) hA
