theorem BR.andn {x y : Int64} {A B : Nat → Bool} (h : BR x A) (h2 : BR y B) : BR (x &&& (y ^^^ (-1))) (fun k => A k && !B k) := fun k => by
  rw [Int64.toBitVec_and, BitVec.getLsbD_and, Int64.toBitVec_xor, BitVec.getLsbD_xor, h k, h2 k]
  show _ = (decide (k < 54) && (A k && !B k))
  by_cases hk : k < 54
  · have e : (-1 : Int64).toBitVec.getLsbD k = true := by
      have key : ∀ k : Fin 54, (-1 : Int64).toBitVec.getLsbD k.val = true := by decide +kernel
      exact key ⟨k, hk⟩
    rw [e, decide_eq_true hk]
    cases A k <;> cases B k <;> rfl
  · rw [decide_eq_false hk]; rfl
def toA (S : Nat → Nat) (A : Nat → Bool) (st pl : Nat) : Nat → Bool := fun k => if A (42 + ciN (S 2) pl st) = true then (A k && !decide (k = 42 + ciN (S 2) pl st)) || decide (k = flN (S 2) pl * 7 + S (6 + ciN (S 2) pl st)) else A k

set_option maxHeartbeats 4000000 in
set_option maxRecDepth 100000 in
theorem c_rewind {g : GT} {T : TT} {Mi : MI} {Ml : ML} {W : Nat} (hK : WkS g T W) : Ct g yX9_rewind cX9_rewind 1 none 1 0 0 [.ref W] T Mi Ml (Gv T (fun Mi' Ml' => Mi' = upd2 Mi W 4 (Mi W 2) ∧ Ml' = upd2 Ml W 5 (Ml W 3))) := by
  refine Ct.of' (plainFor_of_name (by decide +kernel)) (by exact Nat.le_of_ble_eq_true rfl) ?_
  intro x hg hR h hr hnm hnl
  subst hg
  obtain ⟨k1, k2, k3⟩ := id hK
  refine jv_aload_n h dX9_rewind_0 rfl ?_
  refine jv_aload_n h dX9_rewind_1 rfl ?_
  refine jv_gi 2 h dX9_rewind_2 cf_8 (by decide) gw_226 (by assumption) ?_
  refine jv_pi 4 h dX9_rewind_5 cf_8 (by decide) gw_228 (by assumption) rfl rfl rfl ?_
  refine jv_aload_n h dX9_rewind_8 rfl ?_
  refine jv_aload_n h dX9_rewind_9 rfl ?_
  refine jv_gl 3 h dX9_rewind_10 cf_8 (by decide) gw_227 (by assumption) ?_
  refine jv_plg 5 h dX9_rewind_13 cf_8 (by decide) gw_229 (by assumption) rfl rfl ?_
  exact jv_vret h hr dX9_rewind_16 ⟨rfl, rfl, rfl, rfl⟩
set_option maxHeartbeats 4000000 in
set_option maxRecDepth 100000 in
theorem c_turnOut {g : GT} {T : TT} {Mi : MI} {Ml : ML} {W st pl : Nat} {S : Nat → Nat} {A : Nat → Bool} (hK : WkS g T W) (hB : BlkR Mi (W + 1) S) (hW : WF S) (hs : Mi W 4 = nI st) (hst : st < 20000) (hA : BR (Ml W 5) A) {v : Int32} (hv : NF v pl) (hp : pl < 2 * S 2) : Ct g yX9_turnOut cX9_turnOut 3 none 4 0 0 [.ref W, .int v] T Mi Ml (Gv T (fun Mi' Ml' => Mi' = Mi ∧ (∀ a, a ≠ W → Ml' a = Ml a) ∧ (∀ q, q ≠ 5 → Ml' W q = Ml W q) ∧ BR (Ml' W 5) (toA S A st pl))) := by
  refine Ct.of' (plainFor_of_name (by decide +kernel)) (by exact Nat.le_of_ble_eq_true rfl) ?_
  intro x hg hR h hr hnm hnl
  subst hg
  obtain ⟨k1, k2, k3⟩ := id hK
  obtain ⟨b1, b2, b3⟩ := id k3
  obtain ⟨y0, y1, y2, y3⟩ := id hB
  obtain ⟨w0, w1, w2, w3, w4, w5, w6, w7⟩ := id hW
  obtain rfl : v = nI pl := hv
  have hci := ciN_lt (h := S 2) (c := pl) (s := st) (by omega)
  have hfl : flN (S 2) pl < S 2 := flN_lt hp
  have w6i := w6 _ hci
  refine jv_aload_n h dX9_turnOut_0 rfl ?_
  refine jv_gr 0 h dX9_turnOut_1 cf_8 (by decide) gw_224 (by assumption) (by assumption) ?_
  refine jv_iload_n h dX9_turnOut_4 rfl ?_
  refine jv_aload_n h dX9_turnOut_5 rfl ?_
  refine jv_gv 4 h dX9_turnOut_6 cf_8 (by decide) gw_228 (by assumption) (by assumption) ?_
  refine jv_VRi [_, _] h dX9_turnOut_9 cw_X9_90 cf_1 (by assumption) (c_carIn b1 y0 (NF_nI _) (NF_nI _) ⟨by omega, by omega, by omega, by omega⟩) (by decide) rfl rfl (Nat.le_of_ble_eq_true rfl) ⟨Nat.zero_le _, Nat.zero_le _⟩ ?_
  refine jv_istore_n h dX9_turnOut_12 (lt_nl hnl (by decide)) ?_
  refine jv_aload_n h dX9_turnOut_13 rfl ?_
  refine jv_gl 5 h dX9_turnOut_14 cf_8 (by decide) gw_229 (by assumption) ?_
  refine jv_iload_n h dX9_turnOut_17 rfl ?_
  refine jv_SRl [_] h dX9_turnOut_18 cw_X9_57 (c_seat (NF_nI _) (by omega)) (by decide) rfl rfl (Nat.le_of_ble_eq_true rfl) ⟨Nat.zero_le _, Nat.zero_le _⟩ ?_
  refine jv_land h dX9_turnOut_21 ?_
  refine jv_lconst (lN 0) h dX9_turnOut_22 (by decide) ?_
  refine jv_lcmp h dX9_turnOut_23 ?_
  refine jv_if_eq 73 h dX9_turnOut_24 (by decide) (fun c24 => ?_) (fun c24 => ?_)
  · rw [hA.sits (by omega)] at c24
    exact jv_vret h hr dX9_turnOut_73 ⟨rfl, rfl, rfl, by
    first
    | (have q0 : A (42 + ciN (S 2) pl st) = false := c24
       exact ⟨fun _ _ => rfl, fun _ _ => rfl, hA.cg (fun k _ => by unfold toA; rw [if_neg (by rw [q0]; decide)])⟩)
    | (have q0 : A (42 + ciN (S 2) pl st) = true := c24
       refine ⟨fun a ha => by rw [upd2_row _ _ ha, upd2_row _ _ ha], fun q hq => by rw [upd2_ne _ _ (by omega), upd2_ne _ _ (by omega)], ?_⟩
       rw [upd2_same, upd2_same]
       exact ((hA.andn (BR.one (by omega))).or (BR.one (by omega))).cg (fun k _ => by unfold toA; rw [if_pos q0]))⟩
  · rw [hA.sits (by omega), Bool.not_eq_false] at c24
    refine jv_aload_n h dX9_turnOut_27 rfl ?_
    refine jv_dup h dX9_turnOut_28 rfl ?_
    refine jv_gl 5 h dX9_turnOut_29 cf_8 (by decide) gw_229 (by assumption) ?_
    refine jv_iload_n h dX9_turnOut_32 rfl ?_
    refine jv_SRl [_] h dX9_turnOut_33 cw_X9_57 (c_seat (NF_nI _) (by omega)) (by decide) rfl rfl (Nat.le_of_ble_eq_true rfl) ⟨Nat.zero_le _, Nat.zero_le _⟩ ?_
    refine jv_ldc2 h dX9_turnOut_36 gw_748 ?_
    refine jv_lxor h dX9_turnOut_39 ?_
    refine jv_land h dX9_turnOut_40 ?_
    refine jv_plg 5 h dX9_turnOut_41 cf_8 (by decide) gw_229 (by assumption) rfl rfl ?_
    refine jv_aload_n h dX9_turnOut_44 rfl ?_
    refine jv_dup h dX9_turnOut_45 rfl ?_
    refine jv_gl 5 h dX9_turnOut_46 cf_8 (by decide) gw_229 (by assumption) ?_
    refine jv_aload_n h dX9_turnOut_49 rfl ?_
    refine jv_gr 0 h dX9_turnOut_50 cf_8 (by decide) gw_224 (by assumption) (by assumption) ?_
    refine jv_iload_n h dX9_turnOut_53 rfl ?_
    refine jv_VRi [_] h dX9_turnOut_54 cw_X9_94 cf_1 (by assumption) (c_floorAt b1 y0 (NF_nI _) ⟨by omega, by omega⟩) (by decide) rfl rfl (Nat.le_of_ble_eq_true rfl) ⟨Nat.zero_le _, Nat.zero_le _⟩ ?_
    refine jv_aload_n h dX9_turnOut_57 rfl ?_
    refine jv_gr 0 h dX9_turnOut_58 cf_8 (by decide) gw_224 (by assumption) (by assumption) ?_
    refine jv_gr 3 h dX9_turnOut_61 cf_1 (by decide) gw_58 (by assumption) (by assumption) ?_
    refine jv_iload_n h dX9_turnOut_64 rfl ?_
    refine jv_iav h dX9_turnOut_65 (by assumption) (by repeat (with_reducible first | exact NF_nI _ | assumption | refine NF_add ?_ ?_ | refine NF_mul ?_ ?_)) ⟨by omega, by decide⟩ (by exact y3 _ hci) ?_
    refine jv_SRl [_, _] h dX9_turnOut_66 cw_X9_67 (c_spot (NF_nI _) (NF_nI _) (by omega) (by omega)) (by decide) rfl rfl (Nat.le_of_ble_eq_true rfl) ⟨Nat.zero_le _, Nat.zero_le _⟩ ?_
    refine jv_lor h dX9_turnOut_69 ?_
    refine jv_plg 5 h dX9_turnOut_70 cf_8 (by decide) gw_229 (by assumption) rfl rfl ?_
    exact jv_vret h hr dX9_turnOut_73 ⟨rfl, rfl, rfl, by
    first
    | (have q0 : A (42 + ciN (S 2) pl st) = false := c24
       exact ⟨fun _ _ => rfl, fun _ _ => rfl, hA.cg (fun k _ => by unfold toA; rw [if_neg (by rw [q0]; decide)])⟩)
    | (have q0 : A (42 + ciN (S 2) pl st) = true := c24
       refine ⟨fun a ha => by rw [upd2_row _ _ ha, upd2_row _ _ ha], fun q hq => by rw [upd2_ne _ _ (by omega), upd2_ne _ _ (by omega)], ?_⟩
       rw [upd2_same, upd2_same]
       exact ((hA.andn (BR.one (by omega))).or (BR.one (by omega))).cg (fun k _ => by unfold toA; rw [if_pos q0]))⟩
