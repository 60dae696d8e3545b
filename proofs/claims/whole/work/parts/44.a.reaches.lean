/-- where it is behind the k-th move, the first being one of m -/
def raA (S : Nat → Nat) (A : Nat → Bool) (kk st m : Nat) : Nat → Nat → Bool
  | 0 => mvP S A st m (2 * S 2)
  | k + 1 => mvP S (goA S (raA S A kk st m k) kk (st + k + 1)) (st + k + 1) 15 (2 * S 2)

set_option maxHeartbeats 4000000 in
set_option maxRecDepth 100000 in
theorem c_reaches {g : GT} {T : TT} {Mi : MI} {Ml : ML} {W st kk j n9 m : Nat} {S : Nat → Nat} {A : Nat → Bool} {v w : Int32} (hK : WkS g T W) (hB : BlkR Mi (W + 1) S) (hW : WF S) (hs : Mi W 2 = nI st) (hst : st ≤ 10000) (hk : Mi W 1 = nI kk) (hk5 : kk < 5) (hA : BR (Ml W 3) A) (hj : j < 54) (hv : NF v n9) (hn : n9 ≤ 60) (hw : NF w m) (hm : m < 64) : Ct g yX9_reaches cX9_reaches 8 (some .boolean) 6 0 0 [.ref W, .long (lN (2 ^ j)), .int v, .int w] T Mi Ml (Gi T (fun rv Mi' Ml' => rv = bI (raA S A kk st m n9 j) ∧ (∀ a, a ≠ W → Mi' a = Mi a) ∧ (∀ q, q ≠ 4 → Mi' W q = Mi W q) ∧ (∀ a, a ≠ W → Ml' a = Ml a) ∧ (∀ q, q ≠ 5 → Ml' W q = Ml W q))) := by
  refine Ct.of' (plainFor_of_name (by decide +kernel)) (by exact Nat.le_of_ble_eq_true rfl) ?_
  intro x hg hR h hr hnm hnl
  subst hg
  obtain ⟨k1, k2, k3⟩ := id hK
  obtain ⟨b1, b2, b3⟩ := id k3
  obtain ⟨y0, y1, y2, y3⟩ := id hB
  obtain ⟨w0, w1, w2, w3, w4, w5, w6, w7⟩ := id hW
  obtain rfl : v = nI n9 := hv
  obtain rfl : w = nI m := hw
  refine jv_aload_n h dX9_reaches_0 rfl ?_
  refine jv_VGv [] h dX9_reaches_1 cw_X9_75 cf_8 (by assumption) (c_rewind hK) (by decide) rfl rfl (Nat.le_of_ble_eq_true rfl) ⟨Nat.zero_le _, Nat.zero_le _⟩ (fun Mi1 Ml1 hp1 => ?_)
  obtain ⟨rfl, rfl⟩ := hp1
  have B0 : BlkR (upd2 Mi W 4 (Mi W 2)) (W + 1) S := hB.fr (upd2_row _ _ (by omega)) (upd2_row _ _ (by omega))
  have s0 : upd2 Mi W 4 (Mi W 2) W 4 = nI st := (upd2_same _ _ _ _).trans hs
  have A0 : BR (upd2 Ml W 5 (Ml W 3) W 5) A := by rw [upd2_same]; exact hA
  refine jv_aload_n h dX9_reaches_4 rfl ?_
  refine jv_iload h dX9_reaches_5 rfl ?_
  refine jv_VGl [_] h dX9_reaches_7 cw_X9_123 cf_8 (by assumption) (c_moved hK B0 hW s0 (by omega) A0 (NF_nI _) hm) (by decide) rfl rfl (Nat.le_of_ble_eq_true rfl) ⟨Nat.zero_le _, Nat.zero_le _⟩ (fun v_7 Mi7 Ml7 hp7 => ?_)
  obtain ⟨n1, n2, n3⟩ := hp7
  subst Mi7
  subst Ml7
  refine jv_lstore h dX9_reaches_10 (lt_nl hnl (by decide)) ?_
  refine jv_iconst (nI 0) h dX9_reaches_12 (by decide) ?_
  refine jv_istore h dX9_reaches_13 (lt_nl hnl (by decide)) ?_
  have hl15 : ∀ (n : Nat) (i : Nat) (M1 : MI) (L1 : ML) (x9 : Int64), 61 - i < n → i ≤ n9 → (∀ a, a ≠ W → M1 a = Mi a) → (∀ q, q ≠ 4 → M1 W q = Mi W q) → M1 W 4 = nI (st + i) → (∀ a, a ≠ W → L1 a = Ml a) → (∀ q, q ≠ 5 → L1 W q = Ml W q) → BR x9 (raA S A kk st m i) → V x 0 0 T M1 L1 15 [some (.ref W), some (.long (lN (2 ^ j))), none, some (.int (nI n9)), some (.int (nI m)), some (.long x9), none, some (.int (nI i))] [] := by
    intro n
    induction n with
    | zero => intro i M1 L1 x9 hN9 hi f1 f2 f3 f4 f5 f6; exact absurd hN9 (by omega)
    | succ n ih =>
      intro i M1 L1 x9 hN9 hi f1 f2 f3 f4 f5 f6
      have hB1 : BlkR M1 (W + 1) S := hB.fr (f1 _ (by omega)) (f1 _ (by omega))
      have hk1 : M1 W 1 = nI kk := by rw [f2 1 (by decide)]; exact hk
      refine jv_iload h dX9_reaches_15 rfl ?_
      refine jv_iload_n h dX9_reaches_17 rfl ?_
      refine jv_nge 41 h dX9_reaches_18 (by decide) (by repeat (with_reducible first | exact NF_nI _ | assumption | refine NF_add ?_ ?_ | refine NF_mul ?_ ?_)) (by repeat (with_reducible first | exact NF_nI _ | assumption | refine NF_add ?_ ?_ | refine NF_mul ?_ ?_)) ⟨by omega, by omega⟩ (fun c18 => ?_) (fun c18 => ?_)
      · refine jv_lload h dX9_reaches_41 rfl ?_
        refine jv_lload_n h dX9_reaches_43 rfl ?_
        refine jv_land h dX9_reaches_44 ?_
        refine jv_lconst (lN 0) h dX9_reaches_45 (by decide) ?_
        refine jv_lcmp h dX9_reaches_46 ?_
        refine jv_if_eq 54 h dX9_reaches_47 (by decide) (fun c47 => ?_) (fun c47 => ?_)
        · rw [f6.sits hj] at c47
          refine jv_iconst (nI 0) h dX9_reaches_54 (by decide) ?_
          exact jv_zret h hr dX9_reaches_55 rfl ⟨_, rfl, rfl, by rw [show n9 = i by omega, c47]; rfl, f1, f2, f4, f5⟩
        · rw [f6.sits hj, Bool.not_eq_false] at c47
          refine jv_iconst (nI 1) h dX9_reaches_50 (by decide) ?_
          refine jv_goto 55 h dX9_reaches_51 (by decide) ?_
          exact jv_zret h hr dX9_reaches_55 rfl ⟨_, rfl, rfl, by rw [show n9 = i by omega, c47]; rfl, f1, f2, f4, f5⟩
      · refine jv_aload_n h dX9_reaches_21 rfl ?_
        refine jv_lload h dX9_reaches_22 rfl ?_
        refine jv_VGv [_] h dX9_reaches_24 cw_X9_126 cf_8 (by assumption) (c_wgoOn hK hB1 hW f3 (by omega) hk1 hk5 f6) (by decide) rfl rfl (Nat.le_of_ble_eq_true rfl) ⟨Nat.zero_le _, Nat.zero_le _⟩ (fun Mi24 Ml24 hp24 => ?_)
        obtain ⟨rfl, e1, e2, e3⟩ := hp24
        have hB2 : BlkR (upd2 M1 W 4 (nI (st + i + 1))) (W + 1) S := hB1.fr (upd2_row _ _ (by omega)) (upd2_row _ _ (by omega))
        refine jv_aload_n h dX9_reaches_27 rfl ?_
        refine jv_bipush (nI 15) h dX9_reaches_28 (by decide) ?_
        refine jv_VGl [_] h dX9_reaches_30 cw_X9_123 cf_8 (by assumption) (c_moved hK hB2 hW (upd2_same _ _ _ _) (by omega) e3 (NF_nI _) (by decide)) (by decide) rfl rfl (Nat.le_of_ble_eq_true rfl) ⟨Nat.zero_le _, Nat.zero_le _⟩ (fun v_30 Mi30 Ml30 hp30 => ?_)
        obtain ⟨p1, p2, p3⟩ := hp30
        subst Mi30
        subst Ml30
        refine jv_lstore h dX9_reaches_33 (lt_nl hnl (by decide)) ?_
        refine jv_iinc (nI (i + 1)) h dX9_reaches_35 rfl (lt_nl hnl (by decide)) (nI_inc i) ?_
        refine jv_goto 15 h dX9_reaches_38 (by decide) ?_
        exact ih (i + 1) _ _ _ (by omega) (by omega) (fun a ha => by rw [upd2_row _ _ ha]; exact f1 a ha) (fun q hq => by rw [upd2_ne _ _ (by omega)]; exact f2 q hq) (by rw [upd2_same]; rfl) (fun a ha => (e1 a ha).trans (f4 a ha)) (fun q hq => (e2 q hq).trans (f5 q hq)) p3
  exact hl15 62 0 _ _ _ (by omega) (by omega) (fun a ha => upd2_row _ _ ha) (fun q hq => upd2_ne _ _ (by omega)) s0 (fun a ha => upd2_row _ _ ha) (fun q hq => upd2_ne _ _ (by omega)) n3
