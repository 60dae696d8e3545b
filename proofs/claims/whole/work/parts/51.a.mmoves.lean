set_option maxHeartbeats 4000000 in
set_option maxRecDepth 100000 in
theorem cm_state {g : GT} {T : TT} {Mi : MI} {Ml : ML} {Y : Nat} {S : Nat → Nat} (hM : ModS g T Y) (hN : NowR Mi (Y + 1) S) (hW : WF S) {v : Int32} {i : Nat} (hv : NF v i) (hi : i < S 0) : Ct g yX12_state cX12_state 3 (some .long) 2 0 0 [.ref Y, .int v] T Mi Ml (Rl T Mi Ml (lN (2 ^ sjN S i))) := by
  refine Ct.of' (plainFor_of_name (by decide +kernel)) (by exact Nat.le_of_ble_eq_true rfl) ?_
  intro x hg hR h hr hnm hnl
  subst hg
  obtain ⟨hY, ⟨r0, a0⟩, ⟨r1, a1⟩, ⟨r5, a5⟩, ⟨r6, a6⟩, ⟨r7, a7⟩, ⟨r9, a9⟩, ⟨r12, a12⟩, ⟨r13, a13⟩, ⟨r14, a14⟩, ⟨r15, a15⟩, r16, a16⟩ := id hM
  obtain ⟨w0, w1, w2, w3, w4, w5, w6, w7⟩ := id hW
  obtain rfl : v = nI i := hv
  have w7i := w7 i hi
  refine jv_aload_n h dX12_state_0 rfl ?_
  refine jv_iload_n h dX12_state_1 rfl ?_
  refine jv_iconst (nI 3) h dX12_state_2 (by decide) ?_
  refine jv_VRi [_, _] h dX12_state_3 cw_X12_54 cf_11 (by assumption) (cm_told hM (NF_nI _) (NF_nI _) (by omega) (hN.p3 (by omega))) (by decide) rfl rfl (Nat.le_of_ble_eq_true rfl) ⟨Nat.zero_le _, Nat.zero_le _⟩ ?_
  refine jv_istore_n h dX12_state_6 (lt_nl hnl (by decide)) ?_
  refine jv_iload_n h dX12_state_7 rfl ?_
  refine jv_if_ge 32 h dX12_state_8 (by decide) (fun c8 => ?_) (fun c8 => ?_)
  · rw [i32_le0, carI_neg (by omega)] at c8
    have hcN : NF (carI (S (21 + 6 * i))) (S (21 + 6 * i) - 1) := by unfold NF carI; rw [if_neg c8]
    refine jv_lconst (lN 1) h dX12_state_32 (by decide) ?_
    refine jv_bipush (nI 42) h dX12_state_33 (by decide) ?_
    refine jv_iload_n h dX12_state_35 rfl ?_
    first | refine jv_iaddN h dX12_state_36 (by repeat (with_reducible first | exact NF_nI _ | assumption | refine NF_add ?_ ?_ | refine NF_mul ?_ ?_)) (by repeat (with_reducible first | exact NF_nI _ | assumption | refine NF_add ?_ ?_ | refine NF_mul ?_ ?_)) ?_ | refine jv_iadd h dX12_state_36 ?_
    refine jv_lshl h dX12_state_37 ?_
    rw [l_one (by omega), show 42 + (S (21 + 6 * i) - 1) = sjN S i from by unfold sjN; rw [if_neg c8]]
    exact jv_lret h hr dX12_state_38 ⟨rfl, rfl, rfl, rfl⟩
  · rw [i32_le0, carI_neg (by omega)] at c8
    simp at c8
    refine jv_lconst (lN 1) h dX12_state_11 (by decide) ?_
    refine jv_bipush (nI 7) h dX12_state_12 (by decide) ?_
    refine jv_aload_n h dX12_state_14 rfl ?_
    refine jv_iload_n h dX12_state_15 rfl ?_
    refine jv_iconst (nI 2) h dX12_state_16 (by decide) ?_
    refine jv_VRi [_, _] h dX12_state_17 cw_X12_54 cf_11 (by assumption) (cm_told hM (NF_nI _) (NF_nI _) (by omega) (hN.p2 (by omega))) (by decide) rfl rfl (Nat.le_of_ble_eq_true rfl) ⟨Nat.zero_le _, Nat.zero_le _⟩ ?_
    first | refine jv_imulN h dX12_state_20 (by repeat (with_reducible first | exact NF_nI _ | assumption | refine NF_add ?_ ?_ | refine NF_mul ?_ ?_)) (by repeat (with_reducible first | exact NF_nI _ | assumption | refine NF_add ?_ ?_ | refine NF_mul ?_ ?_)) ?_ | refine jv_imul h dX12_state_20 ?_
    refine jv_aload_n h dX12_state_21 rfl ?_
    refine jv_iload_n h dX12_state_22 rfl ?_
    refine jv_iconst (nI 4) h dX12_state_23 (by decide) ?_
    refine jv_VRi [_, _] h dX12_state_24 cw_X12_54 cf_11 (by assumption) (cm_told hM (NF_nI _) (NF_nI _) (by omega) (hN.p4 (by omega))) (by decide) rfl rfl (Nat.le_of_ble_eq_true rfl) ⟨Nat.zero_le _, Nat.zero_le _⟩ ?_
    first | refine jv_iaddN h dX12_state_27 (by repeat (with_reducible first | exact NF_nI _ | assumption | refine NF_add ?_ ?_ | refine NF_mul ?_ ?_)) (by repeat (with_reducible first | exact NF_nI _ | assumption | refine NF_add ?_ ?_ | refine NF_mul ?_ ?_)) ?_ | refine jv_iadd h dX12_state_27 ?_
    refine jv_lshl h dX12_state_28 ?_
    rw [l_one (by omega), show 7 * S (20 + 6 * i) + S (22 + 6 * i) = sjN S i from by unfold sjN; rw [if_pos c8]; omega]
    refine jv_goto 38 h dX12_state_29 (by decide) ?_
    exact jv_lret h hr dX12_state_38 ⟨rfl, rfl, rfl, rfl⟩
set_option maxHeartbeats 4000000 in
set_option maxRecDepth 100000 in
theorem cm_moves {g : GT} {T : TT} {Mi : MI} {Ml : ML} {Y : Nat} {S : Nat → Nat} (hM : ModS g T Y) (hN : NowR Mi (Y + 1) S) (hW : WF S) {A : Nat → Bool} {x9 : Int64} {v w : Int32} {mv st : Nat} (hA : BR x9 A) (hv : NF v mv) (hm : mv < 4) (hs : NF w st) (hst : st < 20000) : Ct g yX12_moves cX12_moves 9 (some .long) 3 0 0 [.ref Y, .long x9, .int v, .int w] T Mi Ml (Gl T (fun rv Mi' Ml' => Mi' = Mi ∧ Ml' = Ml ∧ BR rv (mvP S A st (2 ^ mv) (2 * S 2)))) := by
  refine Ct.of' (plainFor_of_name (by decide +kernel)) (by exact Nat.le_of_ble_eq_true rfl) ?_
  intro x hg hR h hr hnm hnl
  subst hg
  obtain ⟨hY, ⟨r0, a0⟩, ⟨r1, a1⟩, ⟨r5, a5⟩, ⟨r6, a6⟩, ⟨r7, a7⟩, ⟨r9, a9⟩, ⟨r12, a12⟩, ⟨r13, a13⟩, ⟨r14, a14⟩, ⟨r15, a15⟩, r16, a16⟩ := id hM
  obtain ⟨w0, w1, w2, w3, w4, w5, w6, w7⟩ := id hW
  obtain rfl : v = nI mv := hv
  obtain rfl : w = nI st := hs
  have hci : ∀ p, ciN (S 2) p st < 2 * S 2 := fun p => ciN_lt (by omega)
  have hpl : ∀ c, plN (S 2) c st < 2 * S 2 := fun c => plN_lt (by omega)
  have hfl : ∀ c, flN (S 2) (plN (S 2) c st) < S 2 := fun c => flN_lt (hpl c)
  have hj9 : ∀ (y9 : Int64), BR y9 (moM S A st mv 0) → V x 0 0 T Mi Ml 9 [some (.ref Y), some (.long x9), none, some (.int (nI mv)), some (.int (nI st)), none, none, none, none] [.long y9] := by
    intro y9 hy0
    refine jv_lstore h dX12_moves_9 (lt_nl hnl (by decide)) ?_
    refine jv_iconst (nI 0) h dX12_moves_11 (by decide) ?_
    refine jv_istore h dX12_moves_12 (lt_nl hnl (by decide)) ?_
    have hl14 : ∀ (n : Nat) (f : Nat) (y9 : Int64) (o8 : Option Value), 7 - f < n → f ≤ S 2 → BR y9 (moM S A st mv f) → V x 0 0 T Mi Ml 14 [some (.ref Y), some (.long x9), none, some (.int (nI mv)), some (.int (nI st)), some (.long y9), none, some (.int (nI f)), o8] [] := by
      intro n
      induction n with
      | zero => intro f y9 o8 hN9 hf hy; exact absurd hN9 (by omega)
      | succ n ih =>
        intro f y9 o8 hN9 hf hy
        have hj98 : ∀ (y9 : Int64) (o7 o8 : Option Value), BR y9 (moM S A st mv (S 2)) → V x 0 0 T Mi Ml 98 [some (.ref Y), some (.long x9), none, some (.int (nI mv)), some (.int (nI st)), some (.long y9), none, o7, o8] [] := by
          intro y9 o7 o8 hy0
          refine jv_iconst (nI 0) h dX12_moves_98 (by decide) ?_
          refine jv_istore h dX12_moves_99 (lt_nl hnl (by decide)) ?_
          have hl101 : ∀ (n : Nat) (k : Nat) (y9 : Int64) (o8 : Option Value), 13 - k < n → k ≤ 2 * S 2 → BR y9 (fun q => moM S A st mv (S 2) q || (decide (mv = 3) && mm3 S A st k q)) → V x 0 0 T Mi Ml 101 [some (.ref Y), some (.long x9), none, some (.int (nI mv)), some (.int (nI st)), some (.long y9), none, some (.int (nI k)), o8] [] := by
            intro n
            induction n with
            | zero => intro k y9 o8 hN9 hk hy; exact absurd hN9 (by omega)
            | succ n ih =>
              intro k y9 o8 hN9 hk hy
              have hj184 : ∀ (y9 : Int64) (o7 o8 : Option Value), BR y9 (fun q => moM S A st mv (S 2) q || (decide (mv = 3) && mm3 S A st (2 * S 2) q)) → V x 0 0 T Mi Ml 184 [some (.ref Y), some (.long x9), none, some (.int (nI mv)), some (.int (nI st)), some (.long y9), none, o7, o8] [] := by
                intro y9 o7 o8 hy9
                refine jv_lload h dX12_moves_184 rfl ?_
                exact jv_lret h hr dX12_moves_186 ⟨_, rfl, rfl, rfl, rfl, hy9.cg (fun q _ => mv_all hW hm q)⟩
              refine jv_iload h dX12_moves_101 rfl ?_
              refine jv_aload_n h dX12_moves_103 rfl ?_
              refine jv_VRi [] h dX12_moves_104 cw_X12_48 cf_11 (by assumption) (cm_many (by assumption) (by assumption) (by assumption)) (by decide) rfl rfl (Nat.le_of_ble_eq_true rfl) ⟨Nat.zero_le _, Nat.zero_le _⟩ ?_
              refine jv_nge 184 h dX12_moves_107 (by decide) (by repeat (with_reducible first | exact NF_nI _ | assumption | refine NF_add ?_ ?_ | refine NF_mul ?_ ?_)) (by repeat (with_reducible first | exact NF_nI _ | assumption | refine NF_add ?_ ?_ | refine NF_mul ?_ ?_)) ⟨by omega, by omega⟩ (fun c107 => ?_) (fun c107 => ?_)
              · have c184v : BR y9 (fun q => moM S A st mv (S 2) q || (decide (mv = 3) && mm3 S A st (2 * S 2) q)) := by rw [show 2 * S 2 = k by omega]; exact hy
                exact hj184 _ _ _ c184v
              · refine jv_iload_n h dX12_moves_110 rfl ?_
                refine jv_iconst (nI 3) h dX12_moves_111 (by decide) ?_
                refine jv_nne 184 h dX12_moves_112 (by decide) (by repeat (with_reducible first | exact NF_nI _ | assumption | refine NF_add ?_ ?_ | refine NF_mul ?_ ?_)) (by repeat (with_reducible first | exact NF_nI _ | assumption | refine NF_add ?_ ?_ | refine NF_mul ?_ ?_)) ⟨by omega, by omega⟩ (fun c112 => ?_) (fun c112 => ?_)
                · have c184v : BR y9 (fun q => moM S A st mv (S 2) q || (decide (mv = 3) && mm3 S A st (2 * S 2) q)) := hy.cg (fun q _ => by rw [decide_eq_false c112]; simp)
                  exact hj184 _ _ _ c184v
                · have hj134 : ∀ (b9 : Int32), b9 = bI (A (42 + k)) → V x 0 0 T Mi Ml 134 [some (.ref Y), some (.long x9), none, some (.int (nI mv)), some (.int (nI st)), some (.long y9), none, some (.int (nI k)), o8] [.int b9] := by
                    intro b9 hb9
                    subst hb9
                    refine jv_istore h dX12_moves_134 (lt_nl hnl (by decide)) ?_
                    refine jv_lload h dX12_moves_136 rfl ?_
                    refine jv_iload h dX12_moves_138 rfl ?_
                    refine jv_beq 174 h dX12_moves_140 (by decide) (fun c140 => ?_) (fun c140 => ?_)
                    · have c140v : BR (y9 ||| lN 0) (fun q => moM S A st mv (S 2) q || (decide (mv = 3) && mm3 S A st (k + 1) q)) := (hy.or BR.zero).cg (fun q _ => by simp only [mm3, c140, Bool.false_and, Bool.or_false])
                      refine jv_lconst (lN 0) h dX12_moves_174 (by decide) ?_
                      refine jv_lor h dX12_moves_175 ?_
                      refine jv_lstore h dX12_moves_176 (lt_nl hnl (by decide)) ?_
                      refine jv_iinc (nI (k + 1)) h dX12_moves_178 rfl (lt_nl hnl (by decide)) (nI_inc k) ?_
                      refine jv_goto 101 h dX12_moves_181 (by decide) ?_
                      exact ih (k + 1) _ _ (by omega) (by omega) c140v
                    · have hplk := hpl k
                      have hflk := hfl k
                      have w6k := w6 k (by omega)
                      have c140v : BR (y9 ||| lN (2 ^ (7 * flN (S 2) (plN (S 2) k st) + S (6 + k)))) (fun q => moM S A st mv (S 2) q || (decide (mv = 3) && mm3 S A st (k + 1) q)) := (hy.or (BR.one (by omega))).cg (fun q _ => by
                        simp only [mm3, c140, decide_eq_true c112, Bool.true_and, Bool.or_assoc])
                      refine jv_lconst (lN 1) h dX12_moves_143 (by decide) ?_
                      refine jv_bipush (nI 7) h dX12_moves_144 (by decide) ?_
                      refine jv_aload_n h dX12_moves_146 rfl ?_
                      refine jv_aload_n h dX12_moves_147 rfl ?_
                      refine jv_iload h dX12_moves_148 rfl ?_
                      refine jv_iload h dX12_moves_150 rfl ?_
                      refine jv_VRi [_, _] h dX12_moves_152 cw_X12_86 cf_11 (by assumption) (cm_placeOf (by assumption) (by assumption) (by assumption) (by repeat (with_reducible first | exact NF_nI _ | assumption | refine NF_add ?_ ?_ | refine NF_mul ?_ ?_)) (by repeat (with_reducible first | exact NF_nI _ | assumption | refine NF_add ?_ ?_ | refine NF_mul ?_ ?_)) (by omega)) (by decide) rfl rfl (Nat.le_of_ble_eq_true rfl) ⟨Nat.zero_le _, Nat.zero_le _⟩ ?_
                      refine jv_VRi [_] h dX12_moves_155 cw_X12_89 cf_11 (by assumption) (cm_floorOf (by assumption) (by assumption) (by assumption) (by repeat (with_reducible first | exact NF_nI _ | assumption | refine NF_add ?_ ?_ | refine NF_mul ?_ ?_)) (by omega)) (by decide) rfl rfl (Nat.le_of_ble_eq_true rfl) ⟨Nat.zero_le _, Nat.zero_le _⟩ ?_
                      first | refine jv_imulN h dX12_moves_158 (by repeat (with_reducible first | exact NF_nI _ | assumption | refine NF_add ?_ ?_ | refine NF_mul ?_ ?_)) (by repeat (with_reducible first | exact NF_nI _ | assumption | refine NF_add ?_ ?_ | refine NF_mul ?_ ?_)) ?_ | refine jv_imul h dX12_moves_158 ?_
                      refine jv_aload_n h dX12_moves_159 rfl ?_
                      refine jv_gr 0 h dX12_moves_160 cf_11 (by decide) gw_900 (by assumption) (by assumption) ?_
                      refine jv_bipush (nI 6) h dX12_moves_163 (by decide) ?_
                      refine jv_iload h dX12_moves_165 rfl ?_
                      first | refine jv_iaddN h dX12_moves_167 (by repeat (with_reducible first | exact NF_nI _ | assumption | refine NF_add ?_ ?_ | refine NF_mul ?_ ?_)) (by repeat (with_reducible first | exact NF_nI _ | assumption | refine NF_add ?_ ?_ | refine NF_mul ?_ ?_)) ?_ | refine jv_iadd h dX12_moves_167 ?_
                      refine jv_iav h dX12_moves_168 (by assumption) (by repeat (with_reducible first | exact NF_nI _ | assumption | refine NF_add ?_ ?_ | refine NF_mul ?_ ?_)) ⟨by omega, by decide⟩ (by first | assumption | exact hN.n0 | exact hN.n1 | exact hN.n2 | exact hN.n3 | exact hN.n4 | exact hN.n5 | exact hN.dy (by omega) | exact hN.p3 (by omega) | exact hN.p0 (by omega) | exact hN.p1 (by omega) | exact hN.p2 (by omega) | exact hN.p4 (by omega) | exact hN.p5 (by omega)) ?_
                      first | refine jv_iaddN h dX12_moves_169 (by repeat (with_reducible first | exact NF_nI _ | assumption | refine NF_add ?_ ?_ | refine NF_mul ?_ ?_)) (by repeat (with_reducible first | exact NF_nI _ | assumption | refine NF_add ?_ ?_ | refine NF_mul ?_ ?_)) ?_ | refine jv_iadd h dX12_moves_169 ?_
                      refine jv_lshl h dX12_moves_170 ?_
                      rw [l_one (by omega)]
                      refine jv_goto 175 h dX12_moves_171 (by decide) ?_
                      refine jv_lor h dX12_moves_175 ?_
                      refine jv_lstore h dX12_moves_176 (lt_nl hnl (by decide)) ?_
                      refine jv_iinc (nI (k + 1)) h dX12_moves_178 rfl (lt_nl hnl (by decide)) (nI_inc k) ?_
                      refine jv_goto 101 h dX12_moves_181 (by decide) ?_
                      exact ih (k + 1) _ _ (by omega) (by omega) c140v
                  refine jv_lload_n h dX12_moves_115 rfl ?_
                  refine jv_bipush (nI 42) h dX12_moves_116 (by decide) ?_
                  refine jv_iload h dX12_moves_118 rfl ?_
                  first | refine jv_iaddN h dX12_moves_120 (by repeat (with_reducible first | exact NF_nI _ | assumption | refine NF_add ?_ ?_ | refine NF_mul ?_ ?_)) (by repeat (with_reducible first | exact NF_nI _ | assumption | refine NF_add ?_ ?_ | refine NF_mul ?_ ?_)) ?_ | refine jv_iadd h dX12_moves_120 ?_
                  refine jv_lshr h dX12_moves_121 ?_
                  refine jv_lconst (lN 1) h dX12_moves_122 (by decide) ?_
                  refine jv_land h dX12_moves_123 ?_
                  refine jv_lconst (lN 1) h dX12_moves_124 (by decide) ?_
                  refine jv_lcmp h dX12_moves_125 ?_
                  refine jv_if_ne 133 h dX12_moves_126 (by decide) (fun c126 => ?_) (fun c126 => ?_)
                  · rw [hA.bit1 (by omega), Bool.not_eq_true] at c126
                    have c126v : nI 0 = bI (A (42 + k)) := by rw [c126]; rfl
                    refine jv_iconst (nI 0) h dX12_moves_133 (by decide) ?_
                    exact hj134 _ c126v
                  · rw [hA.bit1 (by omega)] at c126
                    have c126v : nI 1 = bI (A (42 + k)) := by rw [c126]; rfl
                    refine jv_iconst (nI 1) h dX12_moves_129 (by decide) ?_
                    refine jv_goto 134 h dX12_moves_130 (by decide) ?_
                    exact hj134 _ c126v
          exact hl101 14 0 _ _ (by omega) (by omega) (hy0.cg (fun q _ => by simp [mm3]))
        refine jv_iload h dX12_moves_14 rfl ?_
        refine jv_aload_n h dX12_moves_16 rfl ?_
        refine jv_gr 0 h dX12_moves_17 cf_11 (by decide) gw_900 (by assumption) (by assumption) ?_
        refine jv_iconst (nI 2) h dX12_moves_20 (by decide) ?_
        refine jv_iav h dX12_moves_21 (by assumption) (by repeat (with_reducible first | exact NF_nI _ | assumption | refine NF_add ?_ ?_ | refine NF_mul ?_ ?_)) ⟨by omega, by decide⟩ (by first | assumption | exact hN.n0 | exact hN.n1 | exact hN.n2 | exact hN.n3 | exact hN.n4 | exact hN.n5 | exact hN.dy (by omega) | exact hN.p3 (by omega) | exact hN.p0 (by omega) | exact hN.p1 (by omega) | exact hN.p2 (by omega) | exact hN.p4 (by omega) | exact hN.p5 (by omega)) ?_
        refine jv_nge 98 h dX12_moves_22 (by decide) (by repeat (with_reducible first | exact NF_nI _ | assumption | refine NF_add ?_ ?_ | refine NF_mul ?_ ?_)) (by repeat (with_reducible first | exact NF_nI _ | assumption | refine NF_add ?_ ?_ | refine NF_mul ?_ ?_)) ⟨by omega, by omega⟩ (fun c22 => ?_) (fun c22 => ?_)
        · have c98v : BR y9 (moM S A st mv (S 2)) := by rw [show S 2 = f by omega]; exact hy
          exact hj98 _ _ _ c98v
        · have hj35 : (mv = 1 ∨ mv = 2) → V x 0 0 T Mi Ml 35 [some (.ref Y), some (.long x9), none, some (.int (nI mv)), some (.int (nI st)), some (.long y9), none, some (.int (nI f)), o8] [] := by
            intro hm12
            have hj56 : ∀ (b9 : Int32), b9 = bI (stF A f) → V x 0 0 T Mi Ml 56 [some (.ref Y), some (.long x9), none, some (.int (nI mv)), some (.int (nI st)), some (.long y9), none, some (.int (nI f)), o8] [.int b9] := by
              intro b9 hb9
              subst hb9
              refine jv_istore h dX12_moves_56 (lt_nl hnl (by decide)) ?_
              refine jv_lload h dX12_moves_58 rfl ?_
              refine jv_iload h dX12_moves_60 rfl ?_
              refine jv_beq 88 h dX12_moves_62 (by decide) (fun c62 => ?_) (fun c62 => ?_)
              · have c62v : BR (y9 ||| lN 0) (moM S A st mv (f + 1)) := (hy.or BR.zero).cg (fun k _ => by unfold moM; simp only [mm1, c62, Bool.false_and, Bool.or_false])
                refine jv_lconst (lN 0) h dX12_moves_88 (by decide) ?_
                refine jv_lor h dX12_moves_89 ?_
                refine jv_lstore h dX12_moves_90 (lt_nl hnl (by decide)) ?_
                refine jv_iinc (nI (f + 1)) h dX12_moves_92 rfl (lt_nl hnl (by decide)) (nI_inc f) ?_
                refine jv_goto 14 h dX12_moves_95 (by decide) ?_
                exact ih (f + 1) _ _ (by omega) (by omega) c62v
              · have hcx := hci (pbN (S 2) f (mv - 1))
                have hpx := pbN_lt (h := S 2) (f := f) (s := mv - 1) (by omega)
                have c62v : BR (y9 ||| lN (2 ^ (42 + ciN (S 2) (pbN (S 2) f (mv - 1)) st))) (moM S A st mv (f + 1)) := (hy.or (BR.one (by omega))).cg (fun k _ => by
                  unfold moM
                  simp only [mm1, c62, Bool.true_and]
                  rcases hm12 with z | z <;> subst z <;> simp)
                refine jv_lconst (lN 1) h dX12_moves_65 (by decide) ?_
                refine jv_bipush (nI 42) h dX12_moves_66 (by decide) ?_
                refine jv_aload_n h dX12_moves_68 rfl ?_
                refine jv_aload_n h dX12_moves_69 rfl ?_
                refine jv_iload h dX12_moves_70 rfl ?_
                refine jv_iload_n h dX12_moves_72 rfl ?_
                refine jv_iconst (nI 1) h dX12_moves_73 (by decide) ?_
                first | refine jv_isubN h dX12_moves_74 (by repeat (with_reducible first | exact NF_nI _ | assumption | refine NF_add ?_ ?_ | refine NF_mul ?_ ?_)) (by repeat (with_reducible first | exact NF_nI _ | assumption | refine NF_add ?_ ?_ | refine NF_mul ?_ ?_)) (by omega) ?_ | refine jv_isub h dX12_moves_74 ?_
                refine jv_VRi [_, _] h dX12_moves_75 cw_X12_142 cf_11 (by assumption) (cm_placeAt (by assumption) (by assumption) (by assumption) (by repeat (with_reducible first | exact NF_nI _ | assumption | refine NF_add ?_ ?_ | refine NF_mul ?_ ?_)) (by repeat (with_reducible first | exact NF_nI _ | assumption | refine NF_add ?_ ?_ | refine NF_mul ?_ ?_)) (by omega)) (by decide) rfl rfl (Nat.le_of_ble_eq_true rfl) ⟨Nat.zero_le _, Nat.zero_le _⟩ ?_
                refine jv_iload h dX12_moves_78 rfl ?_
                refine jv_VRi [_, _] h dX12_moves_80 cw_X12_145 cf_11 (by assumption) (cm_carIn (by assumption) (by assumption) (by assumption) (by repeat (with_reducible first | exact NF_nI _ | assumption | refine NF_add ?_ ?_ | refine NF_mul ?_ ?_)) (by repeat (with_reducible first | exact NF_nI _ | assumption | refine NF_add ?_ ?_ | refine NF_mul ?_ ?_)) (by omega)) (by decide) rfl rfl (Nat.le_of_ble_eq_true rfl) ⟨Nat.zero_le _, Nat.zero_le _⟩ ?_
                first | refine jv_iaddN h dX12_moves_83 (by repeat (with_reducible first | exact NF_nI _ | assumption | refine NF_add ?_ ?_ | refine NF_mul ?_ ?_)) (by repeat (with_reducible first | exact NF_nI _ | assumption | refine NF_add ?_ ?_ | refine NF_mul ?_ ?_)) ?_ | refine jv_iadd h dX12_moves_83 ?_
                refine jv_lshl h dX12_moves_84 ?_
                rw [l_one (by omega)]
                refine jv_goto 89 h dX12_moves_85 (by decide) ?_
                refine jv_lor h dX12_moves_89 ?_
                refine jv_lstore h dX12_moves_90 (lt_nl hnl (by decide)) ?_
                refine jv_iinc (nI (f + 1)) h dX12_moves_92 rfl (lt_nl hnl (by decide)) (nI_inc f) ?_
                refine jv_goto 14 h dX12_moves_95 (by decide) ?_
                exact ih (f + 1) _ _ (by omega) (by omega) c62v
            refine jv_lload_n h dX12_moves_35 rfl ?_
            refine jv_bipush (nI 7) h dX12_moves_36 (by decide) ?_
            refine jv_iload h dX12_moves_38 rfl ?_
            first | refine jv_imulN h dX12_moves_40 (by repeat (with_reducible first | exact NF_nI _ | assumption | refine NF_add ?_ ?_ | refine NF_mul ?_ ?_)) (by repeat (with_reducible first | exact NF_nI _ | assumption | refine NF_add ?_ ?_ | refine NF_mul ?_ ?_)) ?_ | refine jv_imul h dX12_moves_40 ?_
            refine jv_lshr h dX12_moves_41 ?_
            refine jv_ldc2 h dX12_moves_42 gw_1151 ?_
            refine jv_land h dX12_moves_45 ?_
            refine jv_lconst (lN 0) h dX12_moves_46 (by decide) ?_
            refine jv_lcmp h dX12_moves_47 ?_
            refine jv_if_eq 55 h dX12_moves_48 (by decide) (fun c48 => ?_) (fun c48 => ?_)
            · rw [hA.anyW (by omega)] at c48
              have c48v : nI 0 = bI (stF A f) := by rw [c48]; rfl
              refine jv_iconst (nI 0) h dX12_moves_55 (by decide) ?_
              exact hj56 _ c48v
            · rw [hA.anyW (by omega), Bool.not_eq_false] at c48
              have c48v : nI 1 = bI (stF A f) := by rw [c48]; rfl
              refine jv_iconst (nI 1) h dX12_moves_51 (by decide) ?_
              refine jv_goto 56 h dX12_moves_52 (by decide) ?_
              exact hj56 _ c48v
          refine jv_iload_n h dX12_moves_25 rfl ?_
          refine jv_iconst (nI 1) h dX12_moves_26 (by decide) ?_
          refine jv_neq 35 h dX12_moves_27 (by decide) (by repeat (with_reducible first | exact NF_nI _ | assumption | refine NF_add ?_ ?_ | refine NF_mul ?_ ?_)) (by repeat (with_reducible first | exact NF_nI _ | assumption | refine NF_add ?_ ?_ | refine NF_mul ?_ ?_)) ⟨by omega, by omega⟩ (fun c27 => ?_) (fun c27 => ?_)
          · exact hj35 (by omega)
          · refine jv_iload_n h dX12_moves_30 rfl ?_
            refine jv_iconst (nI 2) h dX12_moves_31 (by decide) ?_
            refine jv_nne 98 h dX12_moves_32 (by decide) (by repeat (with_reducible first | exact NF_nI _ | assumption | refine NF_add ?_ ?_ | refine NF_mul ?_ ?_)) (by repeat (with_reducible first | exact NF_nI _ | assumption | refine NF_add ?_ ?_ | refine NF_mul ?_ ?_)) ⟨by omega, by omega⟩ (fun c32 => ?_) (fun c32 => ?_)
            · have c98v : BR y9 (moM S A st mv (S 2)) := hy.cg (fun k _ => by unfold moM; rw [decide_eq_false c27, decide_eq_false c32]; simp)
              exact hj98 _ _ _ c98v
            · exact hj35 (by omega)
    exact hl14 8 0 _ _ (by omega) (by omega) hy0
  refine jv_iload_n h dX12_moves_0 rfl ?_
  refine jv_zne 8 h dX12_moves_1 (by decide) (by repeat (with_reducible first | exact NF_nI _ | assumption | refine NF_add ?_ ?_ | refine NF_mul ?_ ?_)) (by omega) (fun c1 => ?_) (fun c1 => ?_)
  · have c1v : BR (lN 0) (moM S A st mv 0) := BR.zero.cg (fun k _ => by unfold moM; rw [decide_eq_false c1]; simp [mm1])
    refine jv_lconst (lN 0) h dX12_moves_8 (by decide) ?_
    exact hj9 _ c1v
  · have c1v : BR x9 (moM S A st mv 0) := hA.cg (fun k _ => by unfold moM; rw [decide_eq_true c1]; simp [mm1])
    refine jv_lload_n h dX12_moves_4 rfl ?_
    refine jv_goto 9 h dX12_moves_5 (by decide) ?_
    exact hj9 _ c1v
set_option maxHeartbeats 4000000 in
set_option maxRecDepth 100000 in
theorem cm_allMoves {g : GT} {T : TT} {Mi : MI} {Ml : ML} {Y : Nat} {S : Nat → Nat} (hM : ModS g T Y) (hN : NowR Mi (Y + 1) S) (hW : WF S) {A : Nat → Bool} {x9 : Int64} {w : Int32} {st : Nat} (hA : BR x9 A) (hs : NF w st) (hst : st < 20000) : Ct g yX12_allMoves cX12_allMoves 4 (some .long) 4 0 0 [.ref Y, .long x9, .int w] T Mi Ml (Gl T (fun rv Mi' Ml' => Mi' = Mi ∧ Ml' = Ml ∧ BR rv (mvP S A st (15) (2 * S 2)))) := by
  refine Ct.of' (plainFor_of_name (by decide +kernel)) (by exact Nat.le_of_ble_eq_true rfl) ?_
  intro x hg hR h hr hnm hnl
  subst hg
  obtain ⟨hY, ⟨r0, a0⟩, ⟨r1, a1⟩, ⟨r5, a5⟩, ⟨r6, a6⟩, ⟨r7, a7⟩, ⟨r9, a9⟩, ⟨r12, a12⟩, ⟨r13, a13⟩, ⟨r14, a14⟩, ⟨r15, a15⟩, r16, a16⟩ := id hM
  obtain ⟨w0, w1, w2, w3, w4, w5, w6, w7⟩ := id hW
  obtain rfl : w = nI st := hs
  refine jv_lload_n h dX12_allMoves_0 rfl ?_
  refine jv_aload_n h dX12_allMoves_1 rfl ?_
  refine jv_lload_n h dX12_allMoves_2 rfl ?_
  refine jv_iconst (nI 1) h dX12_allMoves_3 (by decide) ?_
  refine jv_iload_n h dX12_allMoves_4 rfl ?_
  refine jv_VGl [_, _, _] h dX12_allMoves_5 cw_X12_175 cf_11 (by assumption) (cm_moves hM hN hW hA (NF_nI 1) (by decide) (NF_nI _) hst) (by decide) rfl rfl (Nat.le_of_ble_eq_true rfl) ⟨Nat.zero_le _, Nat.zero_le _⟩ (fun v_5 Mi5 Ml5 hp5 => ?_)
  obtain ⟨n1, n2, n3⟩ := hp5
  subst Mi5
  subst Ml5
  refine jv_lor h dX12_allMoves_8 ?_
  refine jv_aload_n h dX12_allMoves_9 rfl ?_
  refine jv_lload_n h dX12_allMoves_10 rfl ?_
  refine jv_iconst (nI 2) h dX12_allMoves_11 (by decide) ?_
  refine jv_iload_n h dX12_allMoves_12 rfl ?_
  refine jv_VGl [_, _, _] h dX12_allMoves_13 cw_X12_175 cf_11 (by assumption) (cm_moves hM hN hW hA (NF_nI 2) (by decide) (NF_nI _) hst) (by decide) rfl rfl (Nat.le_of_ble_eq_true rfl) ⟨Nat.zero_le _, Nat.zero_le _⟩ (fun v_13 Mi13 Ml13 hp13 => ?_)
  obtain ⟨n1, n2, n4⟩ := hp13
  subst Mi13
  subst Ml13
  refine jv_lor h dX12_allMoves_16 ?_
  refine jv_aload_n h dX12_allMoves_17 rfl ?_
  refine jv_lload_n h dX12_allMoves_18 rfl ?_
  refine jv_iconst (nI 3) h dX12_allMoves_19 (by decide) ?_
  refine jv_iload_n h dX12_allMoves_20 rfl ?_
  refine jv_VGl [_, _, _] h dX12_allMoves_21 cw_X12_175 cf_11 (by assumption) (cm_moves hM hN hW hA (NF_nI 3) (by decide) (NF_nI _) hst) (by decide) rfl rfl (Nat.le_of_ble_eq_true rfl) ⟨Nat.zero_le _, Nat.zero_le _⟩ (fun v_21 Mi21 Ml21 hp21 => ?_)
  obtain ⟨n1, n2, n5⟩ := hp21
  subst Mi21
  subst Ml21
  refine jv_lor h dX12_allMoves_24 ?_
  exact jv_lret h hr dX12_allMoves_25 ⟨_, rfl, rfl, rfl, rfl, (((hA.or n3).or n4).or n5).cg (fun q _ => mv_15 q)⟩
set_option maxHeartbeats 4000000 in
set_option maxRecDepth 100000 in
theorem cm_turned {g : GT} {T : TT} {Mi : MI} {Ml : ML} {Y : Nat} {S : Nat → Nat} (hM : ModS g T Y) (hN : NowR Mi (Y + 1) S) (hW : WF S) {A : Nat → Bool} {x9 : Int64} {v w : Int32} {kk st : Nat} (hA : BR x9 A) (hv : NF v kk) (hk5 : kk < 5) (hs : NF w st) (hst : st < 20000) : Ct g yX12_turned cX12_turned 9 (some .long) 3 0 0 [.ref Y, .long x9, .int v, .int w] T Mi Ml (Gl T (fun rv Mi' Ml' => Mi' = Mi ∧ Ml' = Ml ∧ BR rv (goA S A kk st))) := by
  refine Ct.of' (plainFor_of_name (by decide +kernel)) (by exact Nat.le_of_ble_eq_true rfl) ?_
  intro x hg hR h hr hnm hnl
  subst hg
  obtain ⟨hY, ⟨r0, a0⟩, ⟨r1, a1⟩, ⟨r5, a5⟩, ⟨r6, a6⟩, ⟨r7, a7⟩, ⟨r9, a9⟩, ⟨r12, a12⟩, ⟨r13, a13⟩, ⟨r14, a14⟩, ⟨r15, a15⟩, r16, a16⟩ := id hM
  obtain ⟨w0, w1, w2, w3, w4, w5, w6, w7⟩ := id hW
  obtain rfl : v = nI kk := hv
  obtain rfl : w = nI st := hs
  have hci : ∀ p, ciN (S 2) p st < 2 * S 2 := fun p => ciN_lt (by omega)
  have hpl : ∀ c, plN (S 2) c st < 2 * S 2 := fun c => plN_lt (by omega)
  have hfl : ∀ c, flN (S 2) (plN (S 2) c st) < S 2 := fun c => flN_lt (hpl c)
  refine jv_lload_n h dX12_turned_0 rfl ?_
  refine jv_lstore h dX12_turned_1 (lt_nl hnl (by decide)) ?_
  refine jv_iconst (nI 0) h dX12_turned_3 (by decide) ?_
  refine jv_istore h dX12_turned_4 (lt_nl hnl (by decide)) ?_
  have hl6 : ∀ (n : Nat) (k : Nat) (y9 : Int64) (o8 : Option Value), 13 - k < n → k ≤ 2 * S 2 → BR y9 (tuP S A kk st k) → V x 0 0 T Mi Ml 6 [some (.ref Y), some (.long x9), none, some (.int (nI kk)), some (.int (nI st)), some (.long y9), none, some (.int (nI k)), o8] [] := by
    intro n
    induction n with
    | zero => intro k y9 o8 hN9 hk hy; exact absurd hN9 (by omega)
    | succ n ih =>
      intro k y9 o8 hN9 hk hy
      refine jv_iload h dX12_turned_6 rfl ?_
      refine jv_aload_n h dX12_turned_8 rfl ?_
      refine jv_VRi [] h dX12_turned_9 cw_X12_48 cf_11 (by assumption) (cm_many (by assumption) (by assumption) (by assumption)) (by decide) rfl rfl (Nat.le_of_ble_eq_true rfl) ⟨Nat.zero_le _, Nat.zero_le _⟩ ?_
      refine jv_nge 98 h dX12_turned_12 (by decide) (by repeat (with_reducible first | exact NF_nI _ | assumption | refine NF_add ?_ ?_ | refine NF_mul ?_ ?_)) (by repeat (with_reducible first | exact NF_nI _ | assumption | refine NF_add ?_ ?_ | refine NF_mul ?_ ?_)) ⟨by omega, by omega⟩ (fun c12 => ?_) (fun c12 => ?_)
      · refine jv_lload h dX12_turned_98 rfl ?_
        exact jv_lret h hr dX12_turned_100 ⟨_, rfl, rfl, rfl, rfl, hy.cg (fun q _ => by rw [show k = 2 * S 2 by omega]; exact go_tu hW q)⟩
      · have hplk := hpl k
        have hflk := hfl k
        have w6k := w6 k (by omega)
        refine jv_aload_n h dX12_turned_15 rfl ?_
        refine jv_iload h dX12_turned_16 rfl ?_
        refine jv_iload h dX12_turned_18 rfl ?_
        refine jv_VRi [_, _] h dX12_turned_20 cw_X12_86 cf_11 (by assumption) (cm_placeOf (by assumption) (by assumption) (by assumption) (by repeat (with_reducible first | exact NF_nI _ | assumption | refine NF_add ?_ ?_ | refine NF_mul ?_ ?_)) (by repeat (with_reducible first | exact NF_nI _ | assumption | refine NF_add ?_ ?_ | refine NF_mul ?_ ?_)) (by omega)) (by decide) rfl rfl (Nat.le_of_ble_eq_true rfl) ⟨Nat.zero_le _, Nat.zero_le _⟩ ?_
        refine jv_istore h dX12_turned_23 (lt_nl hnl (by decide)) ?_
        refine jv_lload_n h dX12_turned_25 rfl ?_
        refine jv_bipush (nI 42) h dX12_turned_26 (by decide) ?_
        refine jv_iload h dX12_turned_28 rfl ?_
        first | refine jv_iaddN h dX12_turned_30 (by repeat (with_reducible first | exact NF_nI _ | assumption | refine NF_add ?_ ?_ | refine NF_mul ?_ ?_)) (by repeat (with_reducible first | exact NF_nI _ | assumption | refine NF_add ?_ ?_ | refine NF_mul ?_ ?_)) ?_ | refine jv_iadd h dX12_turned_30 ?_
        refine jv_lshr h dX12_turned_31 ?_
        refine jv_lconst (lN 1) h dX12_turned_32 (by decide) ?_
        refine jv_land h dX12_turned_33 ?_
        refine jv_lconst (lN 1) h dX12_turned_34 (by decide) ?_
        refine jv_lcmp h dX12_turned_35 ?_
        refine jv_if_ne 92 h dX12_turned_36 (by decide) (fun c36 => ?_) (fun c36 => ?_)
        · rw [hA.bit1 (by omega), Bool.not_eq_true] at c36
          have ctv : BR y9 (tuP S A kk st (k + 1)) := hy.cg (fun q _ => by simp only [tuP, c36, Bool.false_and]; rfl)
          refine jv_iinc (nI (k + 1)) h dX12_turned_92 rfl (lt_nl hnl (by decide)) (nI_inc k) ?_
          refine jv_goto 6 h dX12_turned_95 (by decide) ?_
          exact ih (k + 1) _ _ (by omega) (by omega) ctv
        · rw [hA.bit1 (by omega)] at c36
          refine jv_aload_n h dX12_turned_39 rfl ?_
          refine jv_iload_n h dX12_turned_40 rfl ?_
          refine jv_iload h dX12_turned_41 rfl ?_
          refine jv_VRi [_, _] h dX12_turned_43 cw_X12_154 cf_11 (by assumption) (cm_isTurned (by assumption) (by assumption) (by assumption) (by repeat (with_reducible first | exact NF_nI _ | assumption | refine NF_add ?_ ?_ | refine NF_mul ?_ ?_)) (by repeat (with_reducible first | exact NF_nI _ | assumption | refine NF_add ?_ ?_ | refine NF_mul ?_ ?_)) (by omega)) (by decide) rfl rfl (Nat.le_of_ble_eq_true rfl) ⟨Nat.zero_le _, Nat.zero_le _⟩ ?_
          refine jv_beq 92 h dX12_turned_46 (by decide) (fun c46 => ?_) (fun c46 => ?_)
          · have ctv : BR y9 (tuP S A kk st (k + 1)) := hy.cg (fun q _ => by simp only [tuP, c46, Bool.and_false]; rfl)
            refine jv_iinc (nI (k + 1)) h dX12_turned_92 rfl (lt_nl hnl (by decide)) (nI_inc k) ?_
            refine jv_goto 6 h dX12_turned_95 (by decide) ?_
            exact ih (k + 1) _ _ (by omega) (by omega) ctv
          · have ctv : BR (y9 &&& (lN (2 ^ (42 + k)) ^^^ (-1)) ||| lN (2 ^ (7 * flN (S 2) (plN (S 2) k st) + S (6 + k)))) (tuP S A kk st (k + 1)) := ((hy.andn (BR.one (by omega))).or (BR.one (by omega))).cg (fun q _ => by simp only [tuP, c36, c46, Bool.and_true]; rfl)
            refine jv_lload h dX12_turned_49 rfl ?_
            refine jv_lconst (lN 1) h dX12_turned_51 (by decide) ?_
            refine jv_bipush (nI 42) h dX12_turned_52 (by decide) ?_
            refine jv_iload h dX12_turned_54 rfl ?_
            first | refine jv_iaddN h dX12_turned_56 (by repeat (with_reducible first | exact NF_nI _ | assumption | refine NF_add ?_ ?_ | refine NF_mul ?_ ?_)) (by repeat (with_reducible first | exact NF_nI _ | assumption | refine NF_add ?_ ?_ | refine NF_mul ?_ ?_)) ?_ | refine jv_iadd h dX12_turned_56 ?_
            refine jv_lshl h dX12_turned_57 ?_
            rw [l_one (by omega)]
            refine jv_ldc2 h dX12_turned_58 gw_1160 ?_
            refine jv_lxor h dX12_turned_61 ?_
            refine jv_land h dX12_turned_62 ?_
            refine jv_lstore h dX12_turned_63 (lt_nl hnl (by decide)) ?_
            refine jv_lload h dX12_turned_65 rfl ?_
            refine jv_lconst (lN 1) h dX12_turned_67 (by decide) ?_
            refine jv_bipush (nI 7) h dX12_turned_68 (by decide) ?_
            refine jv_aload_n h dX12_turned_70 rfl ?_
            refine jv_iload h dX12_turned_71 rfl ?_
            refine jv_VRi [_] h dX12_turned_73 cw_X12_89 cf_11 (by assumption) (cm_floorOf (by assumption) (by assumption) (by assumption) (by repeat (with_reducible first | exact NF_nI _ | assumption | refine NF_add ?_ ?_ | refine NF_mul ?_ ?_)) (by omega)) (by decide) rfl rfl (Nat.le_of_ble_eq_true rfl) ⟨Nat.zero_le _, Nat.zero_le _⟩ ?_
            first | refine jv_imulN h dX12_turned_76 (by repeat (with_reducible first | exact NF_nI _ | assumption | refine NF_add ?_ ?_ | refine NF_mul ?_ ?_)) (by repeat (with_reducible first | exact NF_nI _ | assumption | refine NF_add ?_ ?_ | refine NF_mul ?_ ?_)) ?_ | refine jv_imul h dX12_turned_76 ?_
            refine jv_aload_n h dX12_turned_77 rfl ?_
            refine jv_gr 0 h dX12_turned_78 cf_11 (by decide) gw_900 (by assumption) (by assumption) ?_
            refine jv_bipush (nI 6) h dX12_turned_81 (by decide) ?_
            refine jv_iload h dX12_turned_83 rfl ?_
            first | refine jv_iaddN h dX12_turned_85 (by repeat (with_reducible first | exact NF_nI _ | assumption | refine NF_add ?_ ?_ | refine NF_mul ?_ ?_)) (by repeat (with_reducible first | exact NF_nI _ | assumption | refine NF_add ?_ ?_ | refine NF_mul ?_ ?_)) ?_ | refine jv_iadd h dX12_turned_85 ?_
            refine jv_iav h dX12_turned_86 (by assumption) (by repeat (with_reducible first | exact NF_nI _ | assumption | refine NF_add ?_ ?_ | refine NF_mul ?_ ?_)) ⟨by omega, by decide⟩ (by first | assumption | exact hN.n0 | exact hN.n1 | exact hN.n2 | exact hN.n3 | exact hN.n4 | exact hN.n5 | exact hN.dy (by omega) | exact hN.p3 (by omega) | exact hN.p0 (by omega) | exact hN.p1 (by omega) | exact hN.p2 (by omega) | exact hN.p4 (by omega) | exact hN.p5 (by omega)) ?_
            first | refine jv_iaddN h dX12_turned_87 (by repeat (with_reducible first | exact NF_nI _ | assumption | refine NF_add ?_ ?_ | refine NF_mul ?_ ?_)) (by repeat (with_reducible first | exact NF_nI _ | assumption | refine NF_add ?_ ?_ | refine NF_mul ?_ ?_)) ?_ | refine jv_iadd h dX12_turned_87 ?_
            refine jv_lshl h dX12_turned_88 ?_
            rw [l_one (by omega)]
            refine jv_lor h dX12_turned_89 ?_
            refine jv_lstore h dX12_turned_90 (lt_nl hnl (by decide)) ?_
            refine jv_iinc (nI (k + 1)) h dX12_turned_92 rfl (lt_nl hnl (by decide)) (nI_inc k) ?_
            refine jv_goto 6 h dX12_turned_95 (by decide) ?_
            exact ih (k + 1) _ _ (by omega) (by omega) ctv
  exact hl6 14 0 _ _ (by omega) (by omega) hA
