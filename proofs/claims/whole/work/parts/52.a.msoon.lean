def sbK (e : Nat) : Nat := if e = 0 then 15 else 2 ^ (e - 1)
def sbR (S : Nat → Nat) (i e : Nat) : Nat → Nat → Bool := raA S (stA S i) (S (18 + 6 * i)) (S 1) (sbK e)
def sbH (S : Nat → Nat) (i e : Nat) : Nat → Nat → Bool
  | 0 => stA S i
  | n + 1 => goA S (sbR S i e n) (S (18 + 6 * i)) (S 1 + n + 1)
/-- so soon, the first move being e - 1 (0: any) -/
def sbI (S : Nat → Nat) (i j e : Nat) : Int32 := fsN (fun n => sbR S i e n j) 0 61
theorem sb_all {S : Nat → Nat} {i e n : Nat} (h : n ≠ 0 ∨ e = 0) : mvP S (sbH S i e n) (S 1 + n) 15 (2 * S 2) = sbR S i e n := by
  cases n with
  | zero =>
    have he : e = 0 := h.elim (fun z => absurd rfl z) id
    subst he
    rfl
  | succ n => rfl
theorem sb_one {S : Nat → Nat} {i e : Nat} (h : e ≠ 0) : mvP S (sbH S i e 0) (S 1 + 0) (2 ^ (e - 1)) (2 * S 2) = sbR S i e 0 := by
  show _ = mvP S (stA S i) (S 1) (sbK e) (2 * S 2)
  unfold sbK
  rw [if_neg h]
  rfl
theorem sb_0 {S : Nat → Nat} {i j : Nat} : sbI S i j 0 = snI S i j := by
  unfold sbI snI
  refine fsN_cg 61 0 (fun n _ _ => ?_)
  show raA S (stA S i) (S (18 + 6 * i)) (S 1) 15 n j = wmB S (stA S i) (S (18 + 6 * i)) (S 1) j n
  rw [ra_15]
  rfl

set_option maxHeartbeats 4000000 in
set_option maxRecDepth 100000 in
theorem cm_soonestBy {g : GT} {T : TT} {Mi : MI} {Ml : ML} {Y : Nat} {S : Nat → Nat} (hM : ModS g T Y) (hN : NowR Mi (Y + 1) S) (hW : WF S) {v w u : Int32} {i j e : Nat} (h19 : S 1 ≤ 9999) (hv : NF v i) (hi : i < S 0) (hw : NF w j) (hj : j < 54) (hu : u = carI e) (he : e ≤ 4) : Ct g yX12_soonestBy cX12_soonestBy 8 (some .int) 5 0 0 [.ref Y, .int v, .int w, .int u] T Mi Ml (Ri T Mi Ml (sbI S i j e)) := by
  refine Ct.of' (plainFor_of_name (by decide +kernel)) (by exact Nat.le_of_ble_eq_true rfl) ?_
  intro x hg hR h hr hnm hnl
  subst hg
  obtain ⟨hY, ⟨r0, a0⟩, ⟨r1, a1⟩, ⟨r5, a5⟩, ⟨r6, a6⟩, ⟨r7, a7⟩, ⟨r9, a9⟩, ⟨r12, a12⟩, ⟨r13, a13⟩, ⟨r14, a14⟩, ⟨r15, a15⟩, r16, a16⟩ := id hM
  obtain ⟨w0, w1, w2, w3, w4, w5, w6, w7⟩ := id hW
  obtain rfl : v = nI i := hv
  obtain rfl : w = nI j := hw
  subst hu
  have w7i := w7 i hi
  refine jv_aload_n h dX12_soonestBy_0 rfl ?_
  refine jv_iload_n h dX12_soonestBy_1 rfl ?_
  refine jv_VRl [_] h dX12_soonestBy_2 cw_X12_181 cf_11 (by assumption) (cm_state hM hN hW (NF_nI _) hi) (by decide) rfl rfl (Nat.le_of_ble_eq_true rfl) ⟨Nat.zero_le _, Nat.zero_le _⟩ ?_
  refine jv_lstore h dX12_soonestBy_5 (lt_nl hnl (by decide)) ?_
  refine jv_iconst (nI 0) h dX12_soonestBy_7 (by decide) ?_
  refine jv_istore h dX12_soonestBy_8 (lt_nl hnl (by decide)) ?_
  have hl10 : ∀ (n : Nat) (n9 : Nat) (x9 : Int64) (o7 : Option Value), 62 - n9 < n → n9 ≤ 61 → fsN (fun n => sbR S i e n j) n9 (61 - n9) = sbI S i j e → BR x9 (sbH S i e n9) → V x 0 0 T Mi Ml 10 [some (.ref Y), some (.int (nI i)), some (.int (nI j)), some (.int (carI e)), some (.long x9), none, some (.int (nI n9)), o7] [] := by
    intro n
    induction n with
    | zero => intro n9 x9 o7 hN9 hn9 hq hx; exact absurd hN9 (by omega)
    | succ n ih =>
      intro n9 x9 o7 hN9 hn9 hq hx
      refine jv_iload h dX12_soonestBy_10 rfl ?_
      refine jv_bipush (nI 61) h dX12_soonestBy_12 (by decide) ?_
      refine jv_nge 97 h dX12_soonestBy_14 (by decide) (by repeat (with_reducible first | exact NF_nI _ | assumption | refine NF_add ?_ ?_ | refine NF_mul ?_ ?_)) (by repeat (with_reducible first | exact NF_nI _ | assumption | refine NF_add ?_ ?_ | refine NF_mul ?_ ?_)) ⟨by omega, by omega⟩ (fun c14 => ?_) (fun c14 => ?_)
      · refine jv_bipush (-4) h dX12_soonestBy_97 (by decide) ?_
        exact jv_iret h hr dX12_soonestBy_99 ⟨by rw [← hq, show 61 - n9 = 0 by omega]; rfl, rfl, rfl, rfl⟩
      · refine jv_aload_n h dX12_soonestBy_17 rfl ?_
        refine jv_gr 0 h dX12_soonestBy_18 cf_11 (by decide) gw_900 (by assumption) (by assumption) ?_
        refine jv_iconst (nI 1) h dX12_soonestBy_21 (by decide) ?_
        refine jv_iav h dX12_soonestBy_22 (by assumption) (by repeat (with_reducible first | exact NF_nI _ | assumption | refine NF_add ?_ ?_ | refine NF_mul ?_ ?_)) ⟨by omega, by decide⟩ (by first | assumption | exact hN.n0 | exact hN.n1 | exact hN.n2 | exact hN.n3 | exact hN.n4 | exact hN.n5 | exact hN.dy (by omega) | exact hN.p3 (by omega) | exact hN.p0 (by omega) | exact hN.p1 (by omega) | exact hN.p2 (by omega) | exact hN.p4 (by omega) | exact hN.p5 (by omega)) ?_
        refine jv_iload h dX12_soonestBy_23 rfl ?_
        first | refine jv_iaddN h dX12_soonestBy_25 (by repeat (with_reducible first | exact NF_nI _ | assumption | refine NF_add ?_ ?_ | refine NF_mul ?_ ?_)) (by repeat (with_reducible first | exact NF_nI _ | assumption | refine NF_add ?_ ?_ | refine NF_mul ?_ ?_)) ?_ | refine jv_iadd h dX12_soonestBy_25 ?_
        refine jv_istore h dX12_soonestBy_26 (lt_nl hnl (by decide)) ?_
        have hj57 : ∀ (z9 : Int64), BR z9 (sbR S i e n9) → V x 0 0 T Mi Ml 57 [some (.ref Y), some (.int (nI i)), some (.int (nI j)), some (.int (carI e)), some (.long x9), none, some (.int (nI n9)), some (.int (nI (S 1 + n9)))] [.long z9] := by
          intro z9 hz9
          refine jv_lstore h dX12_soonestBy_57 (lt_nl hnl (by decide)) ?_
          refine jv_lload h dX12_soonestBy_59 rfl ?_
          refine jv_iload_n h dX12_soonestBy_61 rfl ?_
          refine jv_lshr h dX12_soonestBy_62 ?_
          refine jv_lconst (lN 1) h dX12_soonestBy_63 (by decide) ?_
          refine jv_land h dX12_soonestBy_64 ?_
          refine jv_lconst (lN 1) h dX12_soonestBy_65 (by decide) ?_
          refine jv_lcmp h dX12_soonestBy_66 ?_
          refine jv_if_ne 73 h dX12_soonestBy_67 (by decide) (fun c67 => ?_) (fun c67 => ?_)
          · rw [hz9.bit1 hj, Bool.not_eq_true] at c67
            rw [show 61 - n9 = (61 - (n9 + 1)) + 1 by omega, fsN_s, if_neg (by rw [c67]; decide)] at hq
            refine jv_aload_n h dX12_soonestBy_73 rfl ?_
            refine jv_lload h dX12_soonestBy_74 rfl ?_
            refine jv_aload_n h dX12_soonestBy_76 rfl ?_
            refine jv_iload_n h dX12_soonestBy_77 rfl ?_
            refine jv_iconst (nI 0) h dX12_soonestBy_78 (by decide) ?_
            refine jv_VRi [_, _] h dX12_soonestBy_79 cw_X12_54 cf_11 (by assumption) (cm_told hM (NF_nI _) (NF_nI _) (by omega) (hN.p0 (by omega))) (by decide) rfl rfl (Nat.le_of_ble_eq_true rfl) ⟨Nat.zero_le _, Nat.zero_le _⟩ ?_
            refine jv_iload h dX12_soonestBy_82 rfl ?_
            refine jv_iconst (nI 1) h dX12_soonestBy_84 (by decide) ?_
            first | refine jv_iaddN h dX12_soonestBy_85 (by repeat (with_reducible first | exact NF_nI _ | assumption | refine NF_add ?_ ?_ | refine NF_mul ?_ ?_)) (by repeat (with_reducible first | exact NF_nI _ | assumption | refine NF_add ?_ ?_ | refine NF_mul ?_ ?_)) ?_ | refine jv_iadd h dX12_soonestBy_85 ?_
            refine jv_VGl [_, _, _] h dX12_soonestBy_86 cw_X12_189 cf_11 (by assumption) (cm_turned hM hN hW hz9 (NF_nI _) (by omega) (NF_nI _) (by omega)) (by decide) rfl rfl (Nat.le_of_ble_eq_true rfl) ⟨Nat.zero_le _, Nat.zero_le _⟩ (fun v_86 Mi86 Ml86 hp86 => ?_)
            obtain ⟨n1, n2, n3⟩ := hp86
            subst Mi86
            subst Ml86
            refine jv_lstore h dX12_soonestBy_89 (lt_nl hnl (by decide)) ?_
            refine jv_iinc (nI (n9 + 1)) h dX12_soonestBy_91 rfl (lt_nl hnl (by decide)) (nI_inc n9) ?_
            refine jv_goto 10 h dX12_soonestBy_94 (by decide) ?_
            exact ih (n9 + 1) _ _ (by omega) (by omega) hq n3
          · rw [hz9.bit1 hj] at c67
            rw [show 61 - n9 = (61 - (n9 + 1)) + 1 by omega, fsN_s, if_pos c67] at hq
            refine jv_iload h dX12_soonestBy_70 rfl ?_
            exact jv_iret h hr dX12_soonestBy_72 ⟨by rw [← hq], rfl, rfl, rfl⟩
        refine jv_iload h dX12_soonestBy_28 rfl ?_
        refine jv_zne 49 h dX12_soonestBy_30 (by decide) (by repeat (with_reducible first | exact NF_nI _ | assumption | refine NF_add ?_ ?_ | refine NF_mul ?_ ?_)) (by omega) (fun c30 => ?_) (fun c30 => ?_)
        · have hne0 : n9 ≠ 0 ∨ e = 0 := Or.inl c30
          refine jv_aload_n h dX12_soonestBy_49 rfl ?_
          refine jv_lload h dX12_soonestBy_50 rfl ?_
          refine jv_iload h dX12_soonestBy_52 rfl ?_
          refine jv_VGl [_, _] h dX12_soonestBy_54 cw_X12_185 cf_11 (by assumption) (cm_allMoves hM hN hW hx (NF_nI _) (by omega)) (by decide) rfl rfl (Nat.le_of_ble_eq_true rfl) ⟨Nat.zero_le _, Nat.zero_le _⟩ (fun v_54 Mi54 Ml54 hp54 => ?_)
          obtain ⟨n1, n2, n3⟩ := hp54
          subst Mi54
          subst Ml54
          have cmv : BR v_54 (sbR S i e n9) := by
            rw [← sb_all hne0]
            exact n3
          exact hj57 _ cmv
        · refine jv_iload_n h dX12_soonestBy_33 rfl ?_
          refine jv_if_lt 49 h dX12_soonestBy_34 (by decide) (fun c34 => ?_) (fun c34 => ?_)
          · rw [carI_neg (by omega)] at c34
            have hne0 : n9 ≠ 0 ∨ e = 0 := Or.inr c34
            refine jv_aload_n h dX12_soonestBy_49 rfl ?_
            refine jv_lload h dX12_soonestBy_50 rfl ?_
            refine jv_iload h dX12_soonestBy_52 rfl ?_
            refine jv_VGl [_, _] h dX12_soonestBy_54 cw_X12_185 cf_11 (by assumption) (cm_allMoves hM hN hW hx (NF_nI _) (by omega)) (by decide) rfl rfl (Nat.le_of_ble_eq_true rfl) ⟨Nat.zero_le _, Nat.zero_le _⟩ (fun v_54 Mi54 Ml54 hp54 => ?_)
            obtain ⟨n1, n2, n3⟩ := hp54
            subst Mi54
            subst Ml54
            have cmv : BR v_54 (sbR S i e n9) := by
              rw [← sb_all hne0]
              exact n3
            exact hj57 _ cmv
          · rw [carI_neg (by omega)] at c34
            have hcN : NF (carI e) (e - 1) := by unfold NF carI; rw [if_neg c34]
            refine jv_aload_n h dX12_soonestBy_37 rfl ?_
            refine jv_lload h dX12_soonestBy_38 rfl ?_
            refine jv_iload_n h dX12_soonestBy_40 rfl ?_
            refine jv_iload h dX12_soonestBy_41 rfl ?_
            refine jv_VGl [_, _, _] h dX12_soonestBy_43 cw_X12_175 cf_11 (by assumption) (cm_moves hM hN hW hx hcN (by omega) (NF_nI _) (by omega)) (by decide) rfl rfl (Nat.le_of_ble_eq_true rfl) ⟨Nat.zero_le _, Nat.zero_le _⟩ (fun v_43 Mi43 Ml43 hp43 => ?_)
            obtain ⟨n1, n2, n3⟩ := hp43
            subst Mi43
            subst Ml43
            have cmv : BR v_43 (sbR S i e n9) := by
              subst c30
              rw [← sb_one c34]
              exact n3
            refine jv_goto 57 h dX12_soonestBy_46 (by decide) ?_
            exact hj57 _ cmv
  exact hl10 63 0 _ _ (by omega) (by omega) rfl (BR.st hW hi)
