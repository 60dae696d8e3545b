def WkS (g : GT) (T : TT) (W : Nat) : Prop := KD g T W 8 ∧ T.2.2 W 0 = some (W + 1) ∧ BlkS g T (W + 1)
/-- by one of the moves m (bits), from the first n places -/
def mvP (S : Nat → Nat) (A : Nat → Bool) (st m : Nat) : Nat → Nat → Bool
  | 0 => fun k => decide (btN m 0 = 1) && A k
  | n + 1 => fun k => (mvP S A st m n k || ((stF A (flN (S 2) n) && decide (btN m (sdN (S 2) n + 1) = 1)) && decide (k = 42 + ciN (S 2) n st))) || ((A (42 + ciN (S 2) n st) && decide (btN m 3 = 1)) && decide (k = flN (S 2) n * 7 + S (6 + ciN (S 2) n st)))

set_option maxHeartbeats 4000000 in
set_option maxRecDepth 100000 in
theorem c_moved {g : GT} {T : TT} {Mi : MI} {Ml : ML} {W st m : Nat} {S : Nat → Nat} {A : Nat → Bool} (hK : WkS g T W) (hB : BlkR Mi (W + 1) S) (hW : WF S) (hs : Mi W 4 = nI st) (hst : st < 20000) (hA : BR (Ml W 5) A) {v : Int32} (hv : NF v m) (hm : m < 64) : Ct g yX9_moved cX9_moved 8 (some .long) 4 0 0 [.ref W, .int v] T Mi Ml (Gl T (fun rv Mi' Ml' => Mi' = Mi ∧ Ml' = Ml ∧ BR rv (mvP S A st m (2 * S 2)))) := by
  refine Ct.of' (plainFor_of_name (by decide +kernel)) (by exact Nat.le_of_ble_eq_true rfl) ?_
  intro x hg hR h hr hnm hnl
  subst hg
  obtain ⟨k1, k2, k3⟩ := id hK
  obtain ⟨b1, b2, b3⟩ := id k3
  obtain ⟨y0, y1, y2, y3⟩ := id hB
  obtain ⟨w0, w1, w2, w3, w4, w5, w6, w7⟩ := id hW
  obtain rfl : v = nI m := hv
  have hj16 : ∀ (x9 : Int64), BR x9 (mvP S A st m 0) → V x 0 0 T Mi Ml 16 [some (.ref W), some (.int (nI m)), none, none, none, none, none, none] [.long x9] := by
    intro x9 hx0
    refine jv_lstore_n h dX9_moved_16 (lt_nl hnl (by decide)) ?_
    refine jv_iconst (nI 0) h dX9_moved_17 (by decide) ?_
    refine jv_istore h dX9_moved_18 (lt_nl hnl (by decide)) ?_
    have hl20 : ∀ (n : Nat) (i : Nat) (x9 : Int64) (o5 o6 o7 : Option Value), 2 * S 2 - i < n → i ≤ 2 * S 2 → BR x9 (mvP S A st m i) → V x 0 0 T Mi Ml 20 [some (.ref W), some (.int (nI m)), some (.long x9), none, some (.int (nI i)), o5, o6, o7] [] := by
      intro n
      induction n with
      | zero => intro i x9 o5 o6 o7 hN9 hi hx; exact absurd hN9 (by omega)
      | succ n ih =>
        intro i x9 o5 o6 o7 hN9 hi hx
        refine jv_iload h dX9_moved_20 rfl ?_
        refine jv_aload_n h dX9_moved_22 rfl ?_
        refine jv_gr 0 h dX9_moved_23 cf_8 (by decide) gw_224 (by assumption) (by assumption) ?_
        refine jv_VRi [] h dX9_moved_26 cw_X9_86 cf_1 (by assumption) (c_cars b1 y0) (by decide) rfl rfl (Nat.le_of_ble_eq_true rfl) ⟨Nat.zero_le _, Nat.zero_le _⟩ ?_
        refine jv_nge 162 h dX9_moved_29 (by decide) (by repeat (with_reducible first | exact NF_nI _ | assumption | refine NF_add ?_ ?_ | refine NF_mul ?_ ?_)) (by repeat (with_reducible first | exact NF_nI _ | assumption | refine NF_add ?_ ?_ | refine NF_mul ?_ ?_)) ⟨by omega, by omega⟩ (fun c29 => ?_) (fun c29 => ?_)
        · refine jv_lload_n h dX9_moved_162 rfl ?_
          exact jv_lret h hr dX9_moved_163 ⟨_, rfl, rfl, rfl, rfl, by rw [show 2 * S 2 = i by omega]; exact hx⟩
        · have hci := ciN_lt (h := S 2) (c := i) (s := st) (by omega)
          have hfl : flN (S 2) i < S 2 := flN_lt (by omega)
          have hsd : sdN (S 2) i < 2 := by unfold sdN; split <;> omega
          have w6i := w6 _ hci
          refine jv_aload_n h dX9_moved_32 rfl ?_
          refine jv_gr 0 h dX9_moved_33 cf_8 (by decide) gw_224 (by assumption) (by assumption) ?_
          refine jv_iload h dX9_moved_36 rfl ?_
          refine jv_aload_n h dX9_moved_38 rfl ?_
          refine jv_gv 4 h dX9_moved_39 cf_8 (by decide) gw_228 (by assumption) (by assumption) ?_
          refine jv_VRi [_, _] h dX9_moved_42 cw_X9_90 cf_1 (by assumption) (c_carIn b1 y0 (NF_nI _) (NF_nI _) ⟨by omega, by omega, by omega, by omega⟩) (by decide) rfl rfl (Nat.le_of_ble_eq_true rfl) ⟨Nat.zero_le _, Nat.zero_le _⟩ ?_
          refine jv_istore h dX9_moved_45 (lt_nl hnl (by decide)) ?_
          refine jv_aload_n h dX9_moved_47 rfl ?_
          refine jv_gr 0 h dX9_moved_48 cf_8 (by decide) gw_224 (by assumption) (by assumption) ?_
          refine jv_iload h dX9_moved_51 rfl ?_
          refine jv_VRi [_] h dX9_moved_53 cw_X9_94 cf_1 (by assumption) (c_floorAt b1 y0 (NF_nI _) ⟨by omega, by omega⟩) (by decide) rfl rfl (Nat.le_of_ble_eq_true rfl) ⟨Nat.zero_le _, Nat.zero_le _⟩ ?_
          refine jv_istore h dX9_moved_56 (lt_nl hnl (by decide)) ?_
          refine jv_aload_n h dX9_moved_58 rfl ?_
          refine jv_gl 5 h dX9_moved_59 cf_8 (by decide) gw_229 (by assumption) ?_
          refine jv_ldc2 h dX9_moved_62 gw_738 ?_
          refine jv_iload h dX9_moved_65 rfl ?_
          refine jv_bipush (nI 7) h dX9_moved_67 (by decide) ?_
          first | refine jv_imulN h dX9_moved_69 (by repeat (with_reducible first | exact NF_nI _ | assumption | refine NF_add ?_ ?_ | refine NF_mul ?_ ?_)) (by repeat (with_reducible first | exact NF_nI _ | assumption | refine NF_add ?_ ?_ | refine NF_mul ?_ ?_)) ?_ | refine jv_imul h dX9_moved_69 ?_
          refine jv_lshl h dX9_moved_70 ?_
          rw [l_week (by omega)]
          refine jv_land h dX9_moved_71 ?_
          refine jv_lconst (lN 0) h dX9_moved_72 (by decide) ?_
          refine jv_lcmp h dX9_moved_73 ?_
          refine jv_if_eq 81 h dX9_moved_74 (by decide) (fun c74 => ?_) (fun c74 => ?_)
          · rw [hA.stands (by omega)] at c74
            refine jv_iconst (nI 0) h dX9_moved_81 (by decide) ?_
            first | rw [show nI 1 = bI (stF A (flN (S 2) i)) from by rw [c74]; rfl] | rw [show nI 0 = bI (stF A (flN (S 2) i)) from by rw [c74]; rfl]
            refine jv_istore h dX9_moved_82 (lt_nl hnl (by decide)) ?_
            have hj115 : ∀ (x8 : Int64), BR x8 (fun k => mvP S A st m i k || ((stF A (flN (S 2) i) && decide (btN m (sdN (S 2) i + 1) = 1)) && decide (k = 42 + ciN (S 2) i st))) → V x 0 0 T Mi Ml 115 [some (.ref W), some (.int (nI m)), some (.long x8), none, some (.int (nI i)), some (.int (nI (ciN (S 2) i st))), some (.int (nI (flN (S 2) i))), some (.int (bI (stF A (flN (S 2) i))))] [] := by
              intro x8 hx8
              refine jv_aload_n h dX9_moved_115 rfl ?_
              refine jv_gl 5 h dX9_moved_116 cf_8 (by decide) gw_229 (by assumption) ?_
              refine jv_iload h dX9_moved_119 rfl ?_
              refine jv_SRl [_] h dX9_moved_121 cw_X9_57 (c_seat (NF_nI _) (by omega)) (by decide) rfl rfl (Nat.le_of_ble_eq_true rfl) ⟨Nat.zero_le _, Nat.zero_le _⟩ ?_
              refine jv_land h dX9_moved_124 ?_
              refine jv_lconst (lN 0) h dX9_moved_125 (by decide) ?_
              refine jv_lcmp h dX9_moved_126 ?_
              refine jv_if_eq 156 h dX9_moved_127 (by decide) (fun c127 => ?_) (fun c127 => ?_)
              · rw [hA.sits (by omega)] at c127
                refine jv_iinc (nI (i + 1)) h dX9_moved_156 rfl (lt_nl hnl (by decide)) (nI_inc i) ?_
                refine jv_goto 20 h dX9_moved_159 (by decide) ?_
                first
                | (have q_c127 := c127; have q_c135 := c135; exact ih (i + 1) _ _ _ _ (by omega) (by omega) ((hx8.or (BR.one (by omega))).cg (fun k _ => by simp only [mvP, c127, c135, Bool.and_false, Bool.false_and, Bool.or_false, Bool.true_and, Bool.and_true]; done)))
                | (have q_c135 := c135; exact ih (i + 1) _ _ _ _ (by omega) (by omega) (hx8.cg (fun k _ => by simp only [mvP, c135, Bool.and_false, Bool.false_and, Bool.or_false, Bool.true_and, Bool.and_true]; done)))
                | (have q_c127 := c127; exact ih (i + 1) _ _ _ _ (by omega) (by omega) (hx8.cg (fun k _ => by simp only [mvP, c127, Bool.and_false, Bool.false_and, Bool.or_false, Bool.true_and, Bool.and_true]; done)))
              · rw [hA.sits (by omega), Bool.not_eq_false] at c127
                refine jv_iload_n h dX9_moved_130 rfl ?_
                refine jv_iconst (nI 3) h dX9_moved_131 (by decide) ?_
                refine jv_SRi [_, _] h dX9_moved_132 cw_X9_82 (c_has (NF_nI _) (NF_nI _) hm (by decide)) (by decide) rfl rfl (Nat.le_of_ble_eq_true rfl) ⟨Nat.zero_le _, Nat.zero_le _⟩ ?_
                refine jv_beq 156 h dX9_moved_135 (by decide) (fun c135 => ?_) (fun c135 => ?_)
                · refine jv_iinc (nI (i + 1)) h dX9_moved_156 rfl (lt_nl hnl (by decide)) (nI_inc i) ?_
                  refine jv_goto 20 h dX9_moved_159 (by decide) ?_
                  first
                  | (have q_c127 := c127; have q_c135 := c135; exact ih (i + 1) _ _ _ _ (by omega) (by omega) ((hx8.or (BR.one (by omega))).cg (fun k _ => by simp only [mvP, c127, c135, Bool.and_false, Bool.false_and, Bool.or_false, Bool.true_and, Bool.and_true]; done)))
                  | (have q_c135 := c135; exact ih (i + 1) _ _ _ _ (by omega) (by omega) (hx8.cg (fun k _ => by simp only [mvP, c135, Bool.and_false, Bool.false_and, Bool.or_false, Bool.true_and, Bool.and_true]; done)))
                  | (have q_c127 := c127; exact ih (i + 1) _ _ _ _ (by omega) (by omega) (hx8.cg (fun k _ => by simp only [mvP, c127, Bool.and_false, Bool.false_and, Bool.or_false, Bool.true_and, Bool.and_true]; done)))
                · refine jv_lload_n h dX9_moved_138 rfl ?_
                  refine jv_iload h dX9_moved_139 rfl ?_
                  refine jv_aload_n h dX9_moved_141 rfl ?_
                  refine jv_gr 0 h dX9_moved_142 cf_8 (by decide) gw_224 (by assumption) (by assumption) ?_
                  refine jv_gr 3 h dX9_moved_145 cf_1 (by decide) gw_58 (by assumption) (by assumption) ?_
                  refine jv_iload h dX9_moved_148 rfl ?_
                  refine jv_iav h dX9_moved_150 (by assumption) (by repeat (with_reducible first | exact NF_nI _ | assumption | refine NF_add ?_ ?_ | refine NF_mul ?_ ?_)) ⟨by omega, by decide⟩ (by exact y3 _ hci) ?_
                  refine jv_SRl [_, _] h dX9_moved_151 cw_X9_67 (c_spot (NF_nI _) (NF_nI _) (by omega) (by omega)) (by decide) rfl rfl (Nat.le_of_ble_eq_true rfl) ⟨Nat.zero_le _, Nat.zero_le _⟩ ?_
                  refine jv_lor h dX9_moved_154 ?_
                  refine jv_lstore_n h dX9_moved_155 (lt_nl hnl (by decide)) ?_
                  refine jv_iinc (nI (i + 1)) h dX9_moved_156 rfl (lt_nl hnl (by decide)) (nI_inc i) ?_
                  refine jv_goto 20 h dX9_moved_159 (by decide) ?_
                  first
                  | (have q_c127 := c127; have q_c135 := c135; exact ih (i + 1) _ _ _ _ (by omega) (by omega) ((hx8.or (BR.one (by omega))).cg (fun k _ => by simp only [mvP, c127, c135, Bool.and_false, Bool.false_and, Bool.or_false, Bool.true_and, Bool.and_true]; done)))
                  | (have q_c135 := c135; exact ih (i + 1) _ _ _ _ (by omega) (by omega) (hx8.cg (fun k _ => by simp only [mvP, c135, Bool.and_false, Bool.false_and, Bool.or_false, Bool.true_and, Bool.and_true]; done)))
                  | (have q_c127 := c127; exact ih (i + 1) _ _ _ _ (by omega) (by omega) (hx8.cg (fun k _ => by simp only [mvP, c127, Bool.and_false, Bool.false_and, Bool.or_false, Bool.true_and, Bool.and_true]; done)))
            refine jv_iload h dX9_moved_84 rfl ?_
            refine jv_beq 115 h dX9_moved_86 (by decide) (fun c86 => ?_) (fun c86 => ?_)
            · first
              | (have q_c86 := c86; have q_c104 := c104; exact hj115 _ ((hx.or (BR.one (by omega))).cg (fun k _ => by simp only [c86, c104, Bool.and_false, Bool.false_and, Bool.or_false, Bool.true_and, Bool.and_true]; done)))
              | (have q_c104 := c104; exact hj115 _ (hx.cg (fun k _ => by simp only [c104, Bool.and_false, Bool.false_and, Bool.or_false, Bool.true_and, Bool.and_true]; done)))
              | (have q_c86 := c86; exact hj115 _ (hx.cg (fun k _ => by simp only [c86, Bool.and_false, Bool.false_and, Bool.or_false, Bool.true_and, Bool.and_true]; done)))
            · refine jv_iload_n h dX9_moved_89 rfl ?_
              refine jv_aload_n h dX9_moved_90 rfl ?_
              refine jv_gr 0 h dX9_moved_91 cf_8 (by decide) gw_224 (by assumption) (by assumption) ?_
              refine jv_iload h dX9_moved_94 rfl ?_
              refine jv_VRi [_] h dX9_moved_96 cw_X9_100 cf_1 (by assumption) (c_sideAt b1 y0 (NF_nI _) ⟨by omega, by omega⟩) (by decide) rfl rfl (Nat.le_of_ble_eq_true rfl) ⟨Nat.zero_le _, Nat.zero_le _⟩ ?_
              refine jv_iconst (nI 1) h dX9_moved_99 (by decide) ?_
              first | refine jv_iaddN h dX9_moved_100 (by repeat (with_reducible first | exact NF_nI _ | assumption | refine NF_add ?_ ?_ | refine NF_mul ?_ ?_)) (by repeat (with_reducible first | exact NF_nI _ | assumption | refine NF_add ?_ ?_ | refine NF_mul ?_ ?_)) ?_ | refine jv_iadd h dX9_moved_100 ?_
              refine jv_SRi [_, _] h dX9_moved_101 cw_X9_82 (c_has (NF_nI _) (NF_nI _) hm (by omega)) (by decide) rfl rfl (Nat.le_of_ble_eq_true rfl) ⟨Nat.zero_le _, Nat.zero_le _⟩ ?_
              refine jv_beq 115 h dX9_moved_104 (by decide) (fun c104 => ?_) (fun c104 => ?_)
              · first
                | (have q_c86 := c86; have q_c104 := c104; exact hj115 _ ((hx.or (BR.one (by omega))).cg (fun k _ => by simp only [c86, c104, Bool.and_false, Bool.false_and, Bool.or_false, Bool.true_and, Bool.and_true]; done)))
                | (have q_c104 := c104; exact hj115 _ (hx.cg (fun k _ => by simp only [c104, Bool.and_false, Bool.false_and, Bool.or_false, Bool.true_and, Bool.and_true]; done)))
                | (have q_c86 := c86; exact hj115 _ (hx.cg (fun k _ => by simp only [c86, Bool.and_false, Bool.false_and, Bool.or_false, Bool.true_and, Bool.and_true]; done)))
              · refine jv_lload_n h dX9_moved_107 rfl ?_
                refine jv_iload h dX9_moved_108 rfl ?_
                refine jv_SRl [_] h dX9_moved_110 cw_X9_57 (c_seat (NF_nI _) (by omega)) (by decide) rfl rfl (Nat.le_of_ble_eq_true rfl) ⟨Nat.zero_le _, Nat.zero_le _⟩ ?_
                refine jv_lor h dX9_moved_113 ?_
                refine jv_lstore_n h dX9_moved_114 (lt_nl hnl (by decide)) ?_
                first
                | (have q_c86 := c86; have q_c104 := c104; exact hj115 _ ((hx.or (BR.one (by omega))).cg (fun k _ => by simp only [c86, c104, Bool.and_false, Bool.false_and, Bool.or_false, Bool.true_and, Bool.and_true]; done)))
                | (have q_c104 := c104; exact hj115 _ (hx.cg (fun k _ => by simp only [c104, Bool.and_false, Bool.false_and, Bool.or_false, Bool.true_and, Bool.and_true]; done)))
                | (have q_c86 := c86; exact hj115 _ (hx.cg (fun k _ => by simp only [c86, Bool.and_false, Bool.false_and, Bool.or_false, Bool.true_and, Bool.and_true]; done)))
          · rw [hA.stands (by omega), Bool.not_eq_false] at c74
            refine jv_iconst (nI 1) h dX9_moved_77 (by decide) ?_
            refine jv_goto 82 h dX9_moved_78 (by decide) ?_
            first | rw [show nI 1 = bI (stF A (flN (S 2) i)) from by rw [c74]; rfl] | rw [show nI 0 = bI (stF A (flN (S 2) i)) from by rw [c74]; rfl]
            refine jv_istore h dX9_moved_82 (lt_nl hnl (by decide)) ?_
            have hj115 : ∀ (x8 : Int64), BR x8 (fun k => mvP S A st m i k || ((stF A (flN (S 2) i) && decide (btN m (sdN (S 2) i + 1) = 1)) && decide (k = 42 + ciN (S 2) i st))) → V x 0 0 T Mi Ml 115 [some (.ref W), some (.int (nI m)), some (.long x8), none, some (.int (nI i)), some (.int (nI (ciN (S 2) i st))), some (.int (nI (flN (S 2) i))), some (.int (bI (stF A (flN (S 2) i))))] [] := by
              intro x8 hx8
              refine jv_aload_n h dX9_moved_115 rfl ?_
              refine jv_gl 5 h dX9_moved_116 cf_8 (by decide) gw_229 (by assumption) ?_
              refine jv_iload h dX9_moved_119 rfl ?_
              refine jv_SRl [_] h dX9_moved_121 cw_X9_57 (c_seat (NF_nI _) (by omega)) (by decide) rfl rfl (Nat.le_of_ble_eq_true rfl) ⟨Nat.zero_le _, Nat.zero_le _⟩ ?_
              refine jv_land h dX9_moved_124 ?_
              refine jv_lconst (lN 0) h dX9_moved_125 (by decide) ?_
              refine jv_lcmp h dX9_moved_126 ?_
              refine jv_if_eq 156 h dX9_moved_127 (by decide) (fun c127 => ?_) (fun c127 => ?_)
              · rw [hA.sits (by omega)] at c127
                refine jv_iinc (nI (i + 1)) h dX9_moved_156 rfl (lt_nl hnl (by decide)) (nI_inc i) ?_
                refine jv_goto 20 h dX9_moved_159 (by decide) ?_
                first
                | (have q_c127 := c127; have q_c135 := c135; exact ih (i + 1) _ _ _ _ (by omega) (by omega) ((hx8.or (BR.one (by omega))).cg (fun k _ => by simp only [mvP, c127, c135, Bool.and_false, Bool.false_and, Bool.or_false, Bool.true_and, Bool.and_true]; done)))
                | (have q_c135 := c135; exact ih (i + 1) _ _ _ _ (by omega) (by omega) (hx8.cg (fun k _ => by simp only [mvP, c135, Bool.and_false, Bool.false_and, Bool.or_false, Bool.true_and, Bool.and_true]; done)))
                | (have q_c127 := c127; exact ih (i + 1) _ _ _ _ (by omega) (by omega) (hx8.cg (fun k _ => by simp only [mvP, c127, Bool.and_false, Bool.false_and, Bool.or_false, Bool.true_and, Bool.and_true]; done)))
              · rw [hA.sits (by omega), Bool.not_eq_false] at c127
                refine jv_iload_n h dX9_moved_130 rfl ?_
                refine jv_iconst (nI 3) h dX9_moved_131 (by decide) ?_
                refine jv_SRi [_, _] h dX9_moved_132 cw_X9_82 (c_has (NF_nI _) (NF_nI _) hm (by decide)) (by decide) rfl rfl (Nat.le_of_ble_eq_true rfl) ⟨Nat.zero_le _, Nat.zero_le _⟩ ?_
                refine jv_beq 156 h dX9_moved_135 (by decide) (fun c135 => ?_) (fun c135 => ?_)
                · refine jv_iinc (nI (i + 1)) h dX9_moved_156 rfl (lt_nl hnl (by decide)) (nI_inc i) ?_
                  refine jv_goto 20 h dX9_moved_159 (by decide) ?_
                  first
                  | (have q_c127 := c127; have q_c135 := c135; exact ih (i + 1) _ _ _ _ (by omega) (by omega) ((hx8.or (BR.one (by omega))).cg (fun k _ => by simp only [mvP, c127, c135, Bool.and_false, Bool.false_and, Bool.or_false, Bool.true_and, Bool.and_true]; done)))
                  | (have q_c135 := c135; exact ih (i + 1) _ _ _ _ (by omega) (by omega) (hx8.cg (fun k _ => by simp only [mvP, c135, Bool.and_false, Bool.false_and, Bool.or_false, Bool.true_and, Bool.and_true]; done)))
                  | (have q_c127 := c127; exact ih (i + 1) _ _ _ _ (by omega) (by omega) (hx8.cg (fun k _ => by simp only [mvP, c127, Bool.and_false, Bool.false_and, Bool.or_false, Bool.true_and, Bool.and_true]; done)))
                · refine jv_lload_n h dX9_moved_138 rfl ?_
                  refine jv_iload h dX9_moved_139 rfl ?_
                  refine jv_aload_n h dX9_moved_141 rfl ?_
                  refine jv_gr 0 h dX9_moved_142 cf_8 (by decide) gw_224 (by assumption) (by assumption) ?_
                  refine jv_gr 3 h dX9_moved_145 cf_1 (by decide) gw_58 (by assumption) (by assumption) ?_
                  refine jv_iload h dX9_moved_148 rfl ?_
                  refine jv_iav h dX9_moved_150 (by assumption) (by repeat (with_reducible first | exact NF_nI _ | assumption | refine NF_add ?_ ?_ | refine NF_mul ?_ ?_)) ⟨by omega, by decide⟩ (by exact y3 _ hci) ?_
                  refine jv_SRl [_, _] h dX9_moved_151 cw_X9_67 (c_spot (NF_nI _) (NF_nI _) (by omega) (by omega)) (by decide) rfl rfl (Nat.le_of_ble_eq_true rfl) ⟨Nat.zero_le _, Nat.zero_le _⟩ ?_
                  refine jv_lor h dX9_moved_154 ?_
                  refine jv_lstore_n h dX9_moved_155 (lt_nl hnl (by decide)) ?_
                  refine jv_iinc (nI (i + 1)) h dX9_moved_156 rfl (lt_nl hnl (by decide)) (nI_inc i) ?_
                  refine jv_goto 20 h dX9_moved_159 (by decide) ?_
                  first
                  | (have q_c127 := c127; have q_c135 := c135; exact ih (i + 1) _ _ _ _ (by omega) (by omega) ((hx8.or (BR.one (by omega))).cg (fun k _ => by simp only [mvP, c127, c135, Bool.and_false, Bool.false_and, Bool.or_false, Bool.true_and, Bool.and_true]; done)))
                  | (have q_c135 := c135; exact ih (i + 1) _ _ _ _ (by omega) (by omega) (hx8.cg (fun k _ => by simp only [mvP, c135, Bool.and_false, Bool.false_and, Bool.or_false, Bool.true_and, Bool.and_true]; done)))
                  | (have q_c127 := c127; exact ih (i + 1) _ _ _ _ (by omega) (by omega) (hx8.cg (fun k _ => by simp only [mvP, c127, Bool.and_false, Bool.false_and, Bool.or_false, Bool.true_and, Bool.and_true]; done)))
            refine jv_iload h dX9_moved_84 rfl ?_
            refine jv_beq 115 h dX9_moved_86 (by decide) (fun c86 => ?_) (fun c86 => ?_)
            · first
              | (have q_c86 := c86; have q_c104 := c104; exact hj115 _ ((hx.or (BR.one (by omega))).cg (fun k _ => by simp only [c86, c104, Bool.and_false, Bool.false_and, Bool.or_false, Bool.true_and, Bool.and_true]; done)))
              | (have q_c104 := c104; exact hj115 _ (hx.cg (fun k _ => by simp only [c104, Bool.and_false, Bool.false_and, Bool.or_false, Bool.true_and, Bool.and_true]; done)))
              | (have q_c86 := c86; exact hj115 _ (hx.cg (fun k _ => by simp only [c86, Bool.and_false, Bool.false_and, Bool.or_false, Bool.true_and, Bool.and_true]; done)))
            · refine jv_iload_n h dX9_moved_89 rfl ?_
              refine jv_aload_n h dX9_moved_90 rfl ?_
              refine jv_gr 0 h dX9_moved_91 cf_8 (by decide) gw_224 (by assumption) (by assumption) ?_
              refine jv_iload h dX9_moved_94 rfl ?_
              refine jv_VRi [_] h dX9_moved_96 cw_X9_100 cf_1 (by assumption) (c_sideAt b1 y0 (NF_nI _) ⟨by omega, by omega⟩) (by decide) rfl rfl (Nat.le_of_ble_eq_true rfl) ⟨Nat.zero_le _, Nat.zero_le _⟩ ?_
              refine jv_iconst (nI 1) h dX9_moved_99 (by decide) ?_
              first | refine jv_iaddN h dX9_moved_100 (by repeat (with_reducible first | exact NF_nI _ | assumption | refine NF_add ?_ ?_ | refine NF_mul ?_ ?_)) (by repeat (with_reducible first | exact NF_nI _ | assumption | refine NF_add ?_ ?_ | refine NF_mul ?_ ?_)) ?_ | refine jv_iadd h dX9_moved_100 ?_
              refine jv_SRi [_, _] h dX9_moved_101 cw_X9_82 (c_has (NF_nI _) (NF_nI _) hm (by omega)) (by decide) rfl rfl (Nat.le_of_ble_eq_true rfl) ⟨Nat.zero_le _, Nat.zero_le _⟩ ?_
              refine jv_beq 115 h dX9_moved_104 (by decide) (fun c104 => ?_) (fun c104 => ?_)
              · first
                | (have q_c86 := c86; have q_c104 := c104; exact hj115 _ ((hx.or (BR.one (by omega))).cg (fun k _ => by simp only [c86, c104, Bool.and_false, Bool.false_and, Bool.or_false, Bool.true_and, Bool.and_true]; done)))
                | (have q_c104 := c104; exact hj115 _ (hx.cg (fun k _ => by simp only [c104, Bool.and_false, Bool.false_and, Bool.or_false, Bool.true_and, Bool.and_true]; done)))
                | (have q_c86 := c86; exact hj115 _ (hx.cg (fun k _ => by simp only [c86, Bool.and_false, Bool.false_and, Bool.or_false, Bool.true_and, Bool.and_true]; done)))
              · refine jv_lload_n h dX9_moved_107 rfl ?_
                refine jv_iload h dX9_moved_108 rfl ?_
                refine jv_SRl [_] h dX9_moved_110 cw_X9_57 (c_seat (NF_nI _) (by omega)) (by decide) rfl rfl (Nat.le_of_ble_eq_true rfl) ⟨Nat.zero_le _, Nat.zero_le _⟩ ?_
                refine jv_lor h dX9_moved_113 ?_
                refine jv_lstore_n h dX9_moved_114 (lt_nl hnl (by decide)) ?_
                first
                | (have q_c86 := c86; have q_c104 := c104; exact hj115 _ ((hx.or (BR.one (by omega))).cg (fun k _ => by simp only [c86, c104, Bool.and_false, Bool.false_and, Bool.or_false, Bool.true_and, Bool.and_true]; done)))
                | (have q_c104 := c104; exact hj115 _ (hx.cg (fun k _ => by simp only [c104, Bool.and_false, Bool.false_and, Bool.or_false, Bool.true_and, Bool.and_true]; done)))
                | (have q_c86 := c86; exact hj115 _ (hx.cg (fun k _ => by simp only [c86, Bool.and_false, Bool.false_and, Bool.or_false, Bool.true_and, Bool.and_true]; done)))
    exact hl20 (2 * S 2 + 1) 0 _ _ _ _ (by omega) (by omega) hx0
  refine jv_iload_n h dX9_moved_0 rfl ?_
  refine jv_iconst (nI 0) h dX9_moved_1 (by decide) ?_
  refine jv_SRi [_, _] h dX9_moved_2 cw_X9_82 (c_has (NF_nI _) (NF_nI _) hm (by decide)) (by decide) rfl rfl (Nat.le_of_ble_eq_true rfl) ⟨Nat.zero_le _, Nat.zero_le _⟩ ?_
  refine jv_beq 15 h dX9_moved_5 (by decide) (fun c5 => ?_) (fun c5 => ?_)
  · refine jv_lconst (lN 0) h dX9_moved_15 (by decide) ?_
    first
    | exact hj16 _ (hA.cg (fun k _ => by show (decide (btN m 0 = 1) && A k) = A k; rw [c5]; rfl))
    | exact hj16 _ (BR.zero.cg (fun k _ => by show (decide (btN m 0 = 1) && A k) = false; rw [c5]; rfl))
  · refine jv_aload_n h dX9_moved_8 rfl ?_
    refine jv_gl 5 h dX9_moved_9 cf_8 (by decide) gw_229 (by assumption) ?_
    refine jv_goto 16 h dX9_moved_12 (by decide) ?_
    first
    | exact hj16 _ (hA.cg (fun k _ => by show (decide (btN m 0 = 1) && A k) = A k; rw [c5]; rfl))
    | exact hj16 _ (BR.zero.cg (fun k _ => by show (decide (btN m 0 = 1) && A k) = false; rw [c5]; rfl))
