set_option maxHeartbeats 4000000 in
set_option maxRecDepth 100000 in
theorem c_mwithinL {g : GT} {T : TT} {Mi : MI} {Ml : ML} (v : Int64) : Ct g yX12_within cX12_within 6 (some .boolean) 1 0 0 [.long v, .long (lN 0), .long 999] T Mi Ml (Ri T Mi Ml (bI (okL v))) := by
  refine Ct.of' (plainFor_of_name (by decide +kernel)) (by exact Nat.le_of_ble_eq_true rfl) ?_
  intro x hg hR h hr hnm hnl
  subst hg
  refine jv_lload_n h dX12_within_0 rfl ?_
  refine jv_lload_n h dX12_within_1 rfl ?_
  refine jv_lcmp h dX12_within_2 ?_
  refine jv_if_lt 17 h dX12_within_3 (by decide) (fun c3 => ?_) (fun c3 => ?_)
  · refine jv_iconst (nI 0) h dX12_within_17 (by decide) ?_
    exact jv_zret h hr dX12_within_18 rfl ⟨by first | (rw [okL_lo c3]; rfl) | (rw [okL_hi (by rw [lg_cmp_le0, ← lg_cmp_gt0]; simpa using c10)]; rfl) | (rw [okL_t c3 (by rw [lg_cmp_le0, ← lg_cmp_gt0]; exact c10)]; rfl), rfl, rfl, rfl⟩
  · refine jv_lload_n h dX12_within_6 rfl ?_
    refine jv_lload h dX12_within_7 rfl ?_
    refine jv_lcmp h dX12_within_9 ?_
    refine jv_if_gt 17 h dX12_within_10 (by decide) (fun c10 => ?_) (fun c10 => ?_)
    · refine jv_iconst (nI 0) h dX12_within_17 (by decide) ?_
      exact jv_zret h hr dX12_within_18 rfl ⟨by first | (rw [okL_lo c3]; rfl) | (rw [okL_hi (by rw [lg_cmp_le0, ← lg_cmp_gt0]; simpa using c10)]; rfl) | (rw [okL_t c3 (by rw [lg_cmp_le0, ← lg_cmp_gt0]; exact c10)]; rfl), rfl, rfl, rfl⟩
    · refine jv_iconst (nI 1) h dX12_within_13 (by decide) ?_
      refine jv_goto 18 h dX12_within_14 (by decide) ?_
      exact jv_zret h hr dX12_within_18 rfl ⟨by first | (rw [okL_lo c3]; rfl) | (rw [okL_hi (by rw [lg_cmp_le0, ← lg_cmp_gt0]; simpa using c10)]; rfl) | (rw [okL_t c3 (by rw [lg_cmp_le0, ← lg_cmp_gt0]; exact c10)]; rfl), rfl, rfl, rfl⟩
set_option maxHeartbeats 4000000 in
set_option maxRecDepth 100000 in
theorem cm_weighed {g : GT} {T : TT} {Mi : MI} {Ml : ML} {Y : Nat} {S : Nat → Nat} (hM : ModS g T Y) (hN : NowR Mi (Y + 1) S) (hW : WF S) {q : SH} (hC : ShM Mi Ml Y q) (s l i n w : Int32) : Ct g yX12_weighed cX12_weighed 18 (some .int) 3 0 0 [.ref Y, .int s, .int l, .int i, .int n, .int w] T Mi Ml (Ri T Mi Ml (sp_weighed S q s l i n w)) := by
  refine Ct.of' (plainFor_of_name (by decide +kernel)) (by exact Nat.le_of_ble_eq_true rfl) ?_
  intro x hg hR h hr hnm hnl
  subst hg
  obtain ⟨hY, ⟨r0, a0⟩, ⟨r1, a1⟩, ⟨r5, a5⟩, ⟨r6, a6⟩, ⟨r7, a7⟩, ⟨r9, a9⟩, ⟨r12, a12⟩, ⟨r13, a13⟩, ⟨r14, a14⟩, ⟨r15, a15⟩, r16, a16⟩ := id hM
  obtain ⟨w0, w1, w2, w3, w4, w5, w6, w7⟩ := id hW
  refine jv_iload_n h dX12_weighed_0 rfl ?_
  refine jv_SRi [_] h dX12_weighed_1 cw_X12_214 (cm_isSheet _) (by decide) rfl rfl (Nat.le_of_ble_eq_true rfl) ⟨Nat.zero_le _, Nat.zero_le _⟩ ?_
  refine jv_beq 38 h dX12_weighed_4 (by decide) (fun c4 => ?_) (fun c4 => ?_)
  · refine jv_iconst (-1) h dX12_weighed_38 (by decide) ?_
    exact jv_iret h hr dX12_weighed_39 ⟨by unfold sp_weighed; rw [if_neg (by simp_all)], rfl, rfl, rfl⟩
  · refine jv_iload_n h dX12_weighed_7 rfl ?_
    refine jv_SRi [_] h dX12_weighed_8 cw_X12_217 (cm_isLane _) (by decide) rfl rfl (Nat.le_of_ble_eq_true rfl) ⟨Nat.zero_le _, Nat.zero_le _⟩ ?_
    refine jv_beq 38 h dX12_weighed_11 (by decide) (fun c11 => ?_) (fun c11 => ?_)
    · refine jv_iconst (-1) h dX12_weighed_38 (by decide) ?_
      exact jv_iret h hr dX12_weighed_39 ⟨by unfold sp_weighed; rw [if_neg (by simp_all)], rfl, rfl, rfl⟩
    · refine jv_iload h dX12_weighed_14 rfl ?_
      refine jv_i2l h dX12_weighed_16 ?_
      refine jv_lconst (lN 1) h dX12_weighed_17 (by decide) ?_
      refine jv_ldc2 h dX12_weighed_18 gw_956 ?_
      refine jv_SRi [_, _, _] h dX12_weighed_21 cw_X12_44 (c_mwithin (m := 1) (n := 5) _ (by decide) (by decide)) (by decide) rfl rfl (Nat.le_of_ble_eq_true rfl) ⟨Nat.zero_le _, Nat.zero_le _⟩ ?_
      refine jv_beq 38 h dX12_weighed_24 (by decide) (fun c24 => ?_) (fun c24 => ?_)
      · refine jv_iconst (-1) h dX12_weighed_38 (by decide) ?_
        exact jv_iret h hr dX12_weighed_39 ⟨by unfold sp_weighed; rw [if_neg (by simp_all)], rfl, rfl, rfl⟩
      · refine jv_iload h dX12_weighed_27 rfl ?_
        refine jv_i2l h dX12_weighed_29 ?_
        refine jv_lconst (lN 0) h dX12_weighed_30 (by decide) ?_
        refine jv_lconst (lN 1) h dX12_weighed_31 (by decide) ?_
        refine jv_SRi [_, _, _] h dX12_weighed_32 cw_X12_44 (c_mwithin (m := 0) (n := 2) _ (by decide) (by decide)) (by decide) rfl rfl (Nat.le_of_ble_eq_true rfl) ⟨Nat.zero_le _, Nat.zero_le _⟩ ?_
        refine jv_bne 40 h dX12_weighed_35 (by decide) (fun c35 => ?_) (fun c35 => ?_)
        · obtain ⟨s9, rfl, -, hs9⟩ := isB_t c4
          obtain ⟨l9, rfl, -, hl9⟩ := isB_t c11
          obtain ⟨n9, rfl, hn1, hn2⟩ := isB_t c24
          obtain ⟨w9, rfl, -, hw9⟩ := isB_t c35
          obtain ⟨t1, t2, t3⟩ := hC s9 hs9
          have hsp : sp_weighed S q (nI s9) (nI l9) i (nI n9) (nI w9) = (if rfN (q.1 s9) l9 i (nI n9) (q.2.1 s9) = 0 then (if ∀ c, c < n9 → okL (q.2.2 s9 (pn i + c)) = true then weN S (q.2.2 s9) (pn i) n9 w9 else -2) else rfN (q.1 s9) l9 i (nI n9) (q.2.1 s9)) := (by unfold sp_weighed; rw [if_pos ⟨by assumption, by assumption, by assumption, by assumption⟩, pn_nI (by omega), pn_nI (by omega), pn_nI (by omega), pn_nI (by omega)])
          refine jv_aload_n h dX12_weighed_40 rfl ?_
          refine jv_iload_n h dX12_weighed_41 rfl ?_
          refine jv_iload_n h dX12_weighed_42 rfl ?_
          refine jv_iload_n h dX12_weighed_43 rfl ?_
          refine jv_iload h dX12_weighed_44 rfl ?_
          refine jv_VRi [_, _, _, _] h dX12_weighed_46 cw_X12_220 cf_11 (by assumption) (cm_why hM hC (NF_nI _) hs9 (NF_nI _) hl9 _ _) (by decide) rfl rfl (Nat.le_of_ble_eq_true rfl) ⟨Nat.zero_le _, Nat.zero_le _⟩ ?_
          refine jv_istore h dX12_weighed_49 (lt_nl hnl (by decide)) ?_
          refine jv_iload h dX12_weighed_51 rfl ?_
          refine jv_if_ge 59 h dX12_weighed_53 (by decide) (fun c53 => ?_) (fun c53 => ?_)
          · have c53' := rfN_ge c53
            obtain ⟨k1, k2⟩ := rfN_0 c53'
            obtain ⟨t4, t5, t6⟩ := t3 (by omega)
            obtain ⟨a9, b9, rfl, hb9, hab⟩ := hoB_t k2
            obtain rfl : n9 = b9 := NF_inj hb9 (by omega) (by omega)
            rw [pn_nI (by omega), if_pos c53'] at hsp
            refine jv_bipush (nI 24) h dX12_weighed_59 (by decide) ?_
            refine jv_iload_n h dX12_weighed_61 rfl ?_
            first | refine jv_imulN h dX12_weighed_62 (by repeat (with_reducible first | exact NF_nI _ | assumption | refine NF_add ?_ ?_ | refine NF_mul ?_ ?_)) (by repeat (with_reducible first | exact NF_nI _ | assumption | refine NF_add ?_ ?_ | refine NF_mul ?_ ?_)) ?_ | refine jv_imul h dX12_weighed_62 ?_
            refine jv_iload_n h dX12_weighed_63 rfl ?_
            first | refine jv_iaddN h dX12_weighed_64 (by repeat (with_reducible first | exact NF_nI _ | assumption | refine NF_add ?_ ?_ | refine NF_mul ?_ ?_)) (by repeat (with_reducible first | exact NF_nI _ | assumption | refine NF_add ?_ ?_ | refine NF_mul ?_ ?_)) ?_ | refine jv_iadd h dX12_weighed_64 ?_
            refine jv_istore h dX12_weighed_65 (lt_nl hnl (by decide)) ?_
            refine jv_iconst (nI 0) h dX12_weighed_67 (by decide) ?_
            refine jv_istore h dX12_weighed_68 (lt_nl hnl (by decide)) ?_
            have hl70 : ∀ (n : Nat) (c : Nat), n9 - c < n → c ≤ n9 → (∀ j, j < c → okL (q.2.2 s9 (a9 + j)) = true) → V x 0 0 T Mi Ml 70 [some (.ref Y), some (.int (nI s9)), some (.int (nI l9)), some (.int (nI a9)), some (.int (nI n9)), some (.int (nI w9)), some (.int 0), some (.int (nI (24 * s9 + a9))), some (.int (nI c)), none, none, none, none, none, none, none, none, none] [] := by
              intro n
              induction n with
              | zero => intro c hN9 hc f1; exact absurd hN9 (by omega)
              | succ n ih =>
                intro c hN9 hc f1
                refine jv_iload h dX12_weighed_70 rfl ?_
                refine jv_iload h dX12_weighed_72 rfl ?_
                refine jv_nge 106 h dX12_weighed_74 (by decide) (by repeat (with_reducible first | exact NF_nI _ | assumption | refine NF_add ?_ ?_ | refine NF_mul ?_ ?_)) (by repeat (with_reducible first | exact NF_nI _ | assumption | refine NF_add ?_ ?_ | refine NF_mul ?_ ?_)) ⟨by omega, by omega⟩ (fun c74 => ?_) (fun c74 => ?_)
                · have hall : ∀ c, c < n9 → okL (q.2.2 s9 (a9 + c)) = true := fun j hj => f1 j (by omega)
                  rw [if_pos hall] at hsp
                  refine jv_iconst (nI 1) h dX12_weighed_106 (by decide) ?_
                  refine jv_istore h dX12_weighed_107 (lt_nl hnl (by decide)) ?_
                  refine jv_iconst (nI 0) h dX12_weighed_109 (by decide) ?_
                  refine jv_istore h dX12_weighed_110 (lt_nl hnl (by decide)) ?_
                  have hl112 : ∀ (n : Nat) (p : Nat), S 0 - p < n → p ≤ S 0 → V x 0 0 T Mi Ml 112 [some (.ref Y), some (.int (nI s9)), some (.int (nI l9)), some (.int (nI a9)), some (.int (nI n9)), some (.int (nI w9)), some (.int 0), some (.int (nI (24 * s9 + a9))), some (.int (nI ((n9 + 1) ^ p))), some (.int (nI p)), none, none, none, none, none, none, none, none] [] := by
                    intro n
                    induction n with
                    | zero => intro p hN9 hp; exact absurd hN9 (by omega)
                    | succ n ih =>
                      intro p hN9 hp
                      refine jv_iload h dX12_weighed_112 rfl ?_
                      refine jv_aload_n h dX12_weighed_114 rfl ?_
                      refine jv_gr 0 h dX12_weighed_115 cf_11 (by decide) gw_900 (by assumption) (by assumption) ?_
                      refine jv_iconst (nI 0) h dX12_weighed_118 (by decide) ?_
                      refine jv_iav h dX12_weighed_119 (by assumption) (by repeat (with_reducible first | exact NF_nI _ | assumption | refine NF_add ?_ ?_ | refine NF_mul ?_ ?_)) ⟨by omega, by decide⟩ (by first | assumption | exact hN.n0 | exact hN.n1 | exact hN.n2 | exact hN.n3 | exact hN.n4 | exact hN.n5 | exact hN.dy (by omega) | exact hN.p3 (by omega) | exact hN.p0 (by omega) | exact hN.p1 (by omega) | exact hN.p2 (by omega) | exact hN.p4 (by omega) | exact hN.p5 (by omega)) ?_
                      refine jv_nge 138 h dX12_weighed_120 (by decide) (by repeat (with_reducible first | exact NF_nI _ | assumption | refine NF_add ?_ ?_ | refine NF_mul ?_ ?_)) (by repeat (with_reducible first | exact NF_nI _ | assumption | refine NF_add ?_ ?_ | refine NF_mul ?_ ?_)) ⟨by omega, by omega⟩ (fun c120 => ?_) (fun c120 => ?_)
                      · obtain rfl : p = S 0 := by omega
                        have hpw : (n9 + 1) ^ S 0 ≤ 15625 := by
                          have h2 : (n9 + 1) ^ S 0 ≤ 5 ^ S 0 := Nat.pow_le_pow_left (by omega) _
                          have h3 : 5 ^ S 0 ≤ 5 ^ 6 := Nat.pow_le_pow_right (by omega) w0
                          omega
                        have hpw2 := pw_le w0
                        refine jv_iconst (nI 0) h dX12_weighed_138 (by decide) ?_
                        refine jv_istore h dX12_weighed_139 (lt_nl hnl (by decide)) ?_
                        refine jv_bipush (-4) h dX12_weighed_141 (by decide) ?_
                        refine jv_istore h dX12_weighed_143 (lt_nl hnl (by decide)) ?_
                        refine jv_iconst (nI 0) h dX12_weighed_145 (by decide) ?_
                        refine jv_istore h dX12_weighed_146 (lt_nl hnl (by decide)) ?_
                        have hl148 : ∀ (n : Nat) (t : Nat) (o12 o13 o15 o16 o17 : Option Value), (n9 + 1) ^ S 0 - t < n → t ≤ (n9 + 1) ^ S 0 → V x 0 0 T Mi Ml 148 [some (.ref Y), some (.int (nI s9)), some (.int (nI l9)), some (.int (nI a9)), some (.int (nI n9)), some (.int (nI w9)), some (.int 0), some (.int (nI (24 * s9 + a9))), some (.int (nI ((n9 + 1) ^ S 0))), some (.int (nI (smN (fun t => if okP (wgN S) (weL (q.2.2 s9) a9) (fun _ => 0) n9 t (S 0) then 1 else 0) t))), some (.int (bsI (mnN (fun t => decide (okP (wgN S) (weL (q.2.2 s9) a9) (fun _ => 0) n9 t (S 0))) (fun t => seN (n9 + 1) t (S 0)) t))), some (.int (nI t)), o12, o13, none, o15, o16, o17] [] := by
                          intro n
                          induction n with
                          | zero => intro t o12 o13 o15 o16 o17 hN9 ht; exact absurd hN9 (by omega)
                          | succ n ih =>
                            intro t o12 o13 o15 o16 o17 hN9 ht
                            refine jv_iload h dX12_weighed_148 rfl ?_
                            refine jv_iload h dX12_weighed_150 rfl ?_
                            refine jv_nge 356 h dX12_weighed_152 (by decide) (by repeat (with_reducible first | exact NF_nI _ | assumption | refine NF_add ?_ ?_ | refine NF_mul ?_ ?_)) (by repeat (with_reducible first | exact NF_nI _ | assumption | refine NF_add ?_ ?_ | refine NF_mul ?_ ?_)) ⟨by omega, by omega⟩ (fun c152 => ?_) (fun c152 => ?_)
                            · refine jv_iload h dX12_weighed_356 rfl ?_
                              refine jv_zne 366 h dX12_weighed_358 (by decide) (by repeat (with_reducible first | exact NF_nI _ | assumption | refine NF_add ?_ ?_ | refine NF_mul ?_ ?_)) (by omega) (fun c358 => ?_) (fun c358 => ?_)
                              · refine jv_iload h dX12_weighed_366 rfl ?_
                                exact jv_iret h hr dX12_weighed_368 ⟨by
    obtain rfl : t = (n9 + 1) ^ S 0 := by omega
    rw [hsp]
    unfold weN
    first
    | (rw [if_pos c358, ways_all w0]; rfl)
    | (rw [if_neg c358, we_min w0]), rfl, rfl, rfl⟩
                              · refine jv_iload h dX12_weighed_361 rfl ?_
                                refine jv_goto 368 h dX12_weighed_363 (by decide) ?_
                                exact jv_iret h hr dX12_weighed_368 ⟨by
    obtain rfl : t = (n9 + 1) ^ S 0 := by omega
    rw [hsp]
    unfold weN
    first
    | (rw [if_pos c358, ways_all w0]; rfl)
    | (rw [if_neg c358, we_min w0]), rfl, rfl, rfl⟩
                            · have hmn : mnN (fun t => decide (okP (wgN S) (weL (q.2.2 s9) a9) (fun _ => 0) n9 t (S 0))) (fun t => seN (n9 + 1) t (S 0)) t ≤ 64 := by have := mnN_le (f := fun t => decide (okP (wgN S) (weL (q.2.2 s9) a9) (fun _ => 0) n9 t (S 0))) (g := fun t => seN (n9 + 1) t (S 0)) (M := 2 ^ S 0) (fun t => se_lt _) t; omega
                              refine jv_iconst (nI 0) h dX12_weighed_155 (by decide) ?_
                              refine jv_istore h dX12_weighed_156 (lt_nl hnl (by decide)) ?_
                              refine jv_lconst (lN 0) h dX12_weighed_158 (by decide) ?_
                              refine jv_lstore h dX12_weighed_159 (lt_nl hnl (by decide)) ?_
                              refine jv_iload h dX12_weighed_161 rfl ?_
                              refine jv_istore h dX12_weighed_163 (lt_nl hnl (by decide)) ?_
                              refine jv_iconst (nI 0) h dX12_weighed_165 (by decide) ?_
                              refine jv_istore h dX12_weighed_166 (lt_nl hnl (by decide)) ?_
                              have ih148 := ih
                              have hl168 : ∀ (n : Nat) (p : Nat) (o17 : Option Value), S 0 - p < n → p ≤ S 0 → V x 0 0 T Mi Ml 168 [some (.ref Y), some (.int (nI s9)), some (.int (nI l9)), some (.int (nI a9)), some (.int (nI n9)), some (.int (nI w9)), some (.int 0), some (.int (nI (24 * s9 + a9))), some (.int (nI ((n9 + 1) ^ S 0))), some (.int (nI (smN (fun t => if okP (wgN S) (weL (q.2.2 s9) a9) (fun _ => 0) n9 t (S 0) then 1 else 0) t))), some (.int (bsI (mnN (fun t => decide (okP (wgN S) (weL (q.2.2 s9) a9) (fun _ => 0) n9 t (S 0))) (fun t => seN (n9 + 1) t (S 0)) t))), some (.int (nI t)), some (.int (nI (seN (n9 + 1) t p))), some (.long (lN (suN (wgN S) (n9 + 1) t p))), none, some (.int (nI (t / (n9 + 1) ^ p))), some (.int (nI p)), o17] [] := by
                                intro n
                                induction n with
                                | zero => intro p o17 hN9 hp; exact absurd hN9 (by omega)
                                | succ n ih =>
                                  intro p o17 hN9 hp
                                  refine jv_iload h dX12_weighed_168 rfl ?_
                                  refine jv_aload_n h dX12_weighed_170 rfl ?_
                                  refine jv_gr 0 h dX12_weighed_171 cf_11 (by decide) gw_900 (by assumption) (by assumption) ?_
                                  refine jv_iconst (nI 0) h dX12_weighed_174 (by decide) ?_
                                  refine jv_iav h dX12_weighed_175 (by assumption) (by repeat (with_reducible first | exact NF_nI _ | assumption | refine NF_add ?_ ?_ | refine NF_mul ?_ ?_)) ⟨by omega, by decide⟩ (by first | assumption | exact hN.n0 | exact hN.n1 | exact hN.n2 | exact hN.n3 | exact hN.n4 | exact hN.n5 | exact hN.dy (by omega) | exact hN.p3 (by omega) | exact hN.p0 (by omega) | exact hN.p1 (by omega) | exact hN.p2 (by omega) | exact hN.p4 (by omega) | exact hN.p5 (by omega)) ?_
                                  refine jv_nge 250 h dX12_weighed_176 (by decide) (by repeat (with_reducible first | exact NF_nI _ | assumption | refine NF_add ?_ ?_ | refine NF_mul ?_ ?_)) (by repeat (with_reducible first | exact NF_nI _ | assumption | refine NF_add ?_ ?_ | refine NF_mul ?_ ?_)) ⟨by omega, by omega⟩ (fun c176 => ?_) (fun c176 => ?_)
                                  · obtain rfl : p = S 0 := by omega
                                    refine jv_iconst (nI 1) h dX12_weighed_250 (by decide) ?_
                                    refine jv_istore h dX12_weighed_251 (lt_nl hnl (by decide)) ?_
                                    refine jv_iconst (nI 0) h dX12_weighed_253 (by decide) ?_
                                    refine jv_istore h dX12_weighed_254 (lt_nl hnl (by decide)) ?_
                                    have hl256 : ∀ (n : Nat) (c : Nat) (ob : Bool), n9 - c < n → c ≤ n9 → (ob = true ↔ ∀ j, j < c → lcN (wgN S) (n9 + 1) t j (S 0) = weL (q.2.2 s9) a9 j) → V x 0 0 T Mi Ml 256 [some (.ref Y), some (.int (nI s9)), some (.int (nI l9)), some (.int (nI a9)), some (.int (nI n9)), some (.int (nI w9)), some (.int 0), some (.int (nI (24 * s9 + a9))), some (.int (nI ((n9 + 1) ^ S 0))), some (.int (nI (smN (fun t => if okP (wgN S) (weL (q.2.2 s9) a9) (fun _ => 0) n9 t (S 0) then 1 else 0) t))), some (.int (bsI (mnN (fun t => decide (okP (wgN S) (weL (q.2.2 s9) a9) (fun _ => 0) n9 t (S 0))) (fun t => seN (n9 + 1) t (S 0)) t))), some (.int (nI t)), some (.int (nI (seN (n9 + 1) t (S 0)))), some (.long (lN (suN (wgN S) (n9 + 1) t (S 0)))), none, some (.int (nI (t / (n9 + 1) ^ S 0))), some (.int (bI ob)), some (.int (nI c))] [] := by
                                      intro n
                                      induction n with
                                      | zero => intro c ob hN9 hc hob; exact absurd hN9 (by omega)
                                      | succ n ih =>
                                        intro c ob hN9 hc hob
                                        refine jv_iload h dX12_weighed_256 rfl ?_
                                        refine jv_iload h dX12_weighed_258 rfl ?_
                                        refine jv_nge 307 h dX12_weighed_260 (by decide) (by repeat (with_reducible first | exact NF_nI _ | assumption | refine NF_add ?_ ?_ | refine NF_mul ?_ ?_)) (by repeat (with_reducible first | exact NF_nI _ | assumption | refine NF_add ?_ ?_ | refine NF_mul ?_ ?_)) ⟨by omega, by omega⟩ (fun c260 => ?_) (fun c260 => ?_)
                                        · have hcn : c = n9 := by omega
                                          subst c
                                          have hseL := se_lt (b := n9 + 1) (t := t) (S 0)
                                          refine jv_iload h dX12_weighed_307 rfl ?_
                                          refine jv_iload h dX12_weighed_309 rfl ?_
                                          refine jv_beq 318 h dX12_weighed_311 (by decide) (fun c311 => ?_) (fun c311 => ?_)
                                          · refine jv_iconst (nI 0) h dX12_weighed_318 (by decide) ?_
                                            first | refine jv_iaddN h dX12_weighed_319 (by repeat (with_reducible first | exact NF_nI _ | assumption | refine NF_add ?_ ?_ | refine NF_mul ?_ ?_)) (by repeat (with_reducible first | exact NF_nI _ | assumption | refine NF_add ?_ ?_ | refine NF_mul ?_ ?_)) ?_ | refine jv_iadd h dX12_weighed_319 ?_
                                            refine jv_istore h dX12_weighed_320 (lt_nl hnl (by decide)) ?_
                                            refine jv_iload h dX12_weighed_322 rfl ?_
                                            refine jv_beq 346 h dX12_weighed_324 (by decide) (fun c324 => ?_) (fun c324 => ?_)
                                            · refine jv_iload h dX12_weighed_346 rfl ?_
                                              refine jv_istore h dX12_weighed_348 (lt_nl hnl (by decide)) ?_
                                              refine jv_iinc (nI (t + 1)) h dX12_weighed_350 rfl (lt_nl hnl (by decide)) (nI_inc t) ?_
                                              refine jv_goto 148 h dX12_weighed_353 (by decide) ?_
                                              have hokE : ob = decide (okP (wgN S) (weL (q.2.2 s9) a9) (fun _ => 0) n9 t (S 0)) := by
                                                cases ob with
                                                | true => exact (decide_eq_true (fun j hj => by rw [Nat.zero_add]; exact hob.mp rfl j hj)).symm
                                                | false => exact (decide_eq_false (fun z => by have := hob.mpr (fun j hj => by have := z j hj; rw [Nat.zero_add] at this; exact this); cases this)).symm
                                              subst hokE
                                              have eC : smN (fun t => if okP (wgN S) (weL (q.2.2 s9) a9) (fun _ => 0) n9 t (S 0) then 1 else 0) (t + 1) = smN (fun t => if okP (wgN S) (weL (q.2.2 s9) a9) (fun _ => 0) n9 t (S 0) then 1 else 0) t + (if okP (wgN S) (weL (q.2.2 s9) a9) (fun _ => 0) n9 t (S 0) then 1 else 0) := rfl
                                              have eM := mnN_s (f := fun t => decide (okP (wgN S) (weL (q.2.2 s9) a9) (fun _ => 0) n9 t (S 0))) (g := fun t => seN (n9 + 1) t (S 0)) (t := t)
                                              first
                                              | exact absurd (c311.symm.trans c324) (by decide)
                                              | (have hok := of_decide_eq_true c324
                                                 rw [if_pos hok] at eC
                                                 rw [if_pos (And.intro c324 (Or.inl c331))] at eM
                                                 have eb : bsI (mnN (fun t => decide (okP (wgN S) (weL (q.2.2 s9) a9) (fun _ => 0) n9 t (S 0))) (fun t => seN (n9 + 1) t (S 0)) (t + 1)) = nI (seN (n9 + 1) t (S 0)) := by rw [eM]; exact bsI_n (by omega)
                                                 rw [← eb, ← eC]
                                                 exact ih148 (t + 1) _ _ _ _ _ (by omega) (by omega))
                                              | (have hok := of_decide_eq_true c324
                                                 rw [if_pos hok] at eC
                                                 rw [if_pos (And.intro c324 (Or.inr (by omega)))] at eM
                                                 have eb : bsI (mnN (fun t => decide (okP (wgN S) (weL (q.2.2 s9) a9) (fun _ => 0) n9 t (S 0))) (fun t => seN (n9 + 1) t (S 0)) (t + 1)) = nI (seN (n9 + 1) t (S 0)) := by rw [eM]; exact bsI_n (by omega)
                                                 rw [← eb, ← eC]
                                                 exact ih148 (t + 1) _ _ _ _ _ (by omega) (by omega))
                                              | (have hok := of_decide_eq_true c324
                                                 rw [if_pos hok] at eC
                                                 rw [if_neg (fun z => by rcases z.2 with z | z <;> omega)] at eM
                                                 rw [← eM, ← eC]
                                                 exact ih148 (t + 1) _ _ _ _ _ (by omega) (by omega))
                                              | (have hok := of_decide_eq_false c324
                                                 rw [if_neg hok] at eC
                                                 rw [if_neg (fun z => hok (of_decide_eq_true z.1))] at eM
                                                 rw [← eM, ← eC]
                                                 exact ih148 (t + 1) _ _ _ _ _ (by omega) (by omega))
                                            · refine jv_iload h dX12_weighed_327 rfl ?_
                                              refine jv_bipush (-4) h dX12_weighed_329 (by decide) ?_
                                              refine jv_icmp_eq 341 h dX12_weighed_331 (by decide) (fun c331 => ?_) (fun c331 => ?_)
                                              · rw [bsI_4 (by omega)] at c331
                                                refine jv_iload h dX12_weighed_341 rfl ?_
                                                refine jv_goto 348 h dX12_weighed_343 (by decide) ?_
                                                refine jv_istore h dX12_weighed_348 (lt_nl hnl (by decide)) ?_
                                                refine jv_iinc (nI (t + 1)) h dX12_weighed_350 rfl (lt_nl hnl (by decide)) (nI_inc t) ?_
                                                refine jv_goto 148 h dX12_weighed_353 (by decide) ?_
                                                have hokE : ob = decide (okP (wgN S) (weL (q.2.2 s9) a9) (fun _ => 0) n9 t (S 0)) := by
                                                  cases ob with
                                                  | true => exact (decide_eq_true (fun j hj => by rw [Nat.zero_add]; exact hob.mp rfl j hj)).symm
                                                  | false => exact (decide_eq_false (fun z => by have := hob.mpr (fun j hj => by have := z j hj; rw [Nat.zero_add] at this; exact this); cases this)).symm
                                                subst hokE
                                                have eC : smN (fun t => if okP (wgN S) (weL (q.2.2 s9) a9) (fun _ => 0) n9 t (S 0) then 1 else 0) (t + 1) = smN (fun t => if okP (wgN S) (weL (q.2.2 s9) a9) (fun _ => 0) n9 t (S 0) then 1 else 0) t + (if okP (wgN S) (weL (q.2.2 s9) a9) (fun _ => 0) n9 t (S 0) then 1 else 0) := rfl
                                                have eM := mnN_s (f := fun t => decide (okP (wgN S) (weL (q.2.2 s9) a9) (fun _ => 0) n9 t (S 0))) (g := fun t => seN (n9 + 1) t (S 0)) (t := t)
                                                first
                                                | exact absurd (c311.symm.trans c324) (by decide)
                                                | (have hok := of_decide_eq_true c324
                                                   rw [if_pos hok] at eC
                                                   rw [if_pos (And.intro c324 (Or.inl c331))] at eM
                                                   have eb : bsI (mnN (fun t => decide (okP (wgN S) (weL (q.2.2 s9) a9) (fun _ => 0) n9 t (S 0))) (fun t => seN (n9 + 1) t (S 0)) (t + 1)) = nI (seN (n9 + 1) t (S 0)) := by rw [eM]; exact bsI_n (by omega)
                                                   rw [← eb, ← eC]
                                                   exact ih148 (t + 1) _ _ _ _ _ (by omega) (by omega))
                                                | (have hok := of_decide_eq_true c324
                                                   rw [if_pos hok] at eC
                                                   rw [if_pos (And.intro c324 (Or.inr (by omega)))] at eM
                                                   have eb : bsI (mnN (fun t => decide (okP (wgN S) (weL (q.2.2 s9) a9) (fun _ => 0) n9 t (S 0))) (fun t => seN (n9 + 1) t (S 0)) (t + 1)) = nI (seN (n9 + 1) t (S 0)) := by rw [eM]; exact bsI_n (by omega)
                                                   rw [← eb, ← eC]
                                                   exact ih148 (t + 1) _ _ _ _ _ (by omega) (by omega))
                                                | (have hok := of_decide_eq_true c324
                                                   rw [if_pos hok] at eC
                                                   rw [if_neg (fun z => by rcases z.2 with z | z <;> omega)] at eM
                                                   rw [← eM, ← eC]
                                                   exact ih148 (t + 1) _ _ _ _ _ (by omega) (by omega))
                                                | (have hok := of_decide_eq_false c324
                                                   rw [if_neg hok] at eC
                                                   rw [if_neg (fun z => hok (of_decide_eq_true z.1))] at eM
                                                   rw [← eM, ← eC]
                                                   exact ih148 (t + 1) _ _ _ _ _ (by omega) (by omega))
                                              · rw [bsI_4 (by omega)] at c331
                                                refine jv_iload h dX12_weighed_334 rfl ?_
                                                refine jv_iload h dX12_weighed_336 rfl ?_
                                                refine jv_icmp_ge 346 h dX12_weighed_338 (by decide) (fun c338 => ?_) (fun c338 => ?_)
                                                · rw [bsI_n c331, nI_leI (by omega) (by omega)] at c338
                                                  refine jv_iload h dX12_weighed_346 rfl ?_
                                                  refine jv_istore h dX12_weighed_348 (lt_nl hnl (by decide)) ?_
                                                  refine jv_iinc (nI (t + 1)) h dX12_weighed_350 rfl (lt_nl hnl (by decide)) (nI_inc t) ?_
                                                  refine jv_goto 148 h dX12_weighed_353 (by decide) ?_
                                                  have hokE : ob = decide (okP (wgN S) (weL (q.2.2 s9) a9) (fun _ => 0) n9 t (S 0)) := by
                                                    cases ob with
                                                    | true => exact (decide_eq_true (fun j hj => by rw [Nat.zero_add]; exact hob.mp rfl j hj)).symm
                                                    | false => exact (decide_eq_false (fun z => by have := hob.mpr (fun j hj => by have := z j hj; rw [Nat.zero_add] at this; exact this); cases this)).symm
                                                  subst hokE
                                                  have eC : smN (fun t => if okP (wgN S) (weL (q.2.2 s9) a9) (fun _ => 0) n9 t (S 0) then 1 else 0) (t + 1) = smN (fun t => if okP (wgN S) (weL (q.2.2 s9) a9) (fun _ => 0) n9 t (S 0) then 1 else 0) t + (if okP (wgN S) (weL (q.2.2 s9) a9) (fun _ => 0) n9 t (S 0) then 1 else 0) := rfl
                                                  have eM := mnN_s (f := fun t => decide (okP (wgN S) (weL (q.2.2 s9) a9) (fun _ => 0) n9 t (S 0))) (g := fun t => seN (n9 + 1) t (S 0)) (t := t)
                                                  first
                                                  | exact absurd (c311.symm.trans c324) (by decide)
                                                  | (have hok := of_decide_eq_true c324
                                                     rw [if_pos hok] at eC
                                                     rw [if_pos (And.intro c324 (Or.inl c331))] at eM
                                                     have eb : bsI (mnN (fun t => decide (okP (wgN S) (weL (q.2.2 s9) a9) (fun _ => 0) n9 t (S 0))) (fun t => seN (n9 + 1) t (S 0)) (t + 1)) = nI (seN (n9 + 1) t (S 0)) := by rw [eM]; exact bsI_n (by omega)
                                                     rw [← eb, ← eC]
                                                     exact ih148 (t + 1) _ _ _ _ _ (by omega) (by omega))
                                                  | (have hok := of_decide_eq_true c324
                                                     rw [if_pos hok] at eC
                                                     rw [if_pos (And.intro c324 (Or.inr (by omega)))] at eM
                                                     have eb : bsI (mnN (fun t => decide (okP (wgN S) (weL (q.2.2 s9) a9) (fun _ => 0) n9 t (S 0))) (fun t => seN (n9 + 1) t (S 0)) (t + 1)) = nI (seN (n9 + 1) t (S 0)) := by rw [eM]; exact bsI_n (by omega)
                                                     rw [← eb, ← eC]
                                                     exact ih148 (t + 1) _ _ _ _ _ (by omega) (by omega))
                                                  | (have hok := of_decide_eq_true c324
                                                     rw [if_pos hok] at eC
                                                     rw [if_neg (fun z => by rcases z.2 with z | z <;> omega)] at eM
                                                     rw [← eM, ← eC]
                                                     exact ih148 (t + 1) _ _ _ _ _ (by omega) (by omega))
                                                  | (have hok := of_decide_eq_false c324
                                                     rw [if_neg hok] at eC
                                                     rw [if_neg (fun z => hok (of_decide_eq_true z.1))] at eM
                                                     rw [← eM, ← eC]
                                                     exact ih148 (t + 1) _ _ _ _ _ (by omega) (by omega))
                                                · rw [bsI_n c331, nI_leI (by omega) (by omega)] at c338
                                                  refine jv_iload h dX12_weighed_341 rfl ?_
                                                  refine jv_goto 348 h dX12_weighed_343 (by decide) ?_
                                                  refine jv_istore h dX12_weighed_348 (lt_nl hnl (by decide)) ?_
                                                  refine jv_iinc (nI (t + 1)) h dX12_weighed_350 rfl (lt_nl hnl (by decide)) (nI_inc t) ?_
                                                  refine jv_goto 148 h dX12_weighed_353 (by decide) ?_
                                                  have hokE : ob = decide (okP (wgN S) (weL (q.2.2 s9) a9) (fun _ => 0) n9 t (S 0)) := by
                                                    cases ob with
                                                    | true => exact (decide_eq_true (fun j hj => by rw [Nat.zero_add]; exact hob.mp rfl j hj)).symm
                                                    | false => exact (decide_eq_false (fun z => by have := hob.mpr (fun j hj => by have := z j hj; rw [Nat.zero_add] at this; exact this); cases this)).symm
                                                  subst hokE
                                                  have eC : smN (fun t => if okP (wgN S) (weL (q.2.2 s9) a9) (fun _ => 0) n9 t (S 0) then 1 else 0) (t + 1) = smN (fun t => if okP (wgN S) (weL (q.2.2 s9) a9) (fun _ => 0) n9 t (S 0) then 1 else 0) t + (if okP (wgN S) (weL (q.2.2 s9) a9) (fun _ => 0) n9 t (S 0) then 1 else 0) := rfl
                                                  have eM := mnN_s (f := fun t => decide (okP (wgN S) (weL (q.2.2 s9) a9) (fun _ => 0) n9 t (S 0))) (g := fun t => seN (n9 + 1) t (S 0)) (t := t)
                                                  first
                                                  | exact absurd (c311.symm.trans c324) (by decide)
                                                  | (have hok := of_decide_eq_true c324
                                                     rw [if_pos hok] at eC
                                                     rw [if_pos (And.intro c324 (Or.inl c331))] at eM
                                                     have eb : bsI (mnN (fun t => decide (okP (wgN S) (weL (q.2.2 s9) a9) (fun _ => 0) n9 t (S 0))) (fun t => seN (n9 + 1) t (S 0)) (t + 1)) = nI (seN (n9 + 1) t (S 0)) := by rw [eM]; exact bsI_n (by omega)
                                                     rw [← eb, ← eC]
                                                     exact ih148 (t + 1) _ _ _ _ _ (by omega) (by omega))
                                                  | (have hok := of_decide_eq_true c324
                                                     rw [if_pos hok] at eC
                                                     rw [if_pos (And.intro c324 (Or.inr (by omega)))] at eM
                                                     have eb : bsI (mnN (fun t => decide (okP (wgN S) (weL (q.2.2 s9) a9) (fun _ => 0) n9 t (S 0))) (fun t => seN (n9 + 1) t (S 0)) (t + 1)) = nI (seN (n9 + 1) t (S 0)) := by rw [eM]; exact bsI_n (by omega)
                                                     rw [← eb, ← eC]
                                                     exact ih148 (t + 1) _ _ _ _ _ (by omega) (by omega))
                                                  | (have hok := of_decide_eq_true c324
                                                     rw [if_pos hok] at eC
                                                     rw [if_neg (fun z => by rcases z.2 with z | z <;> omega)] at eM
                                                     rw [← eM, ← eC]
                                                     exact ih148 (t + 1) _ _ _ _ _ (by omega) (by omega))
                                                  | (have hok := of_decide_eq_false c324
                                                     rw [if_neg hok] at eC
                                                     rw [if_neg (fun z => hok (of_decide_eq_true z.1))] at eM
                                                     rw [← eM, ← eC]
                                                     exact ih148 (t + 1) _ _ _ _ _ (by omega) (by omega))
                                          · refine jv_iconst (nI 1) h dX12_weighed_314 (by decide) ?_
                                            refine jv_goto 319 h dX12_weighed_315 (by decide) ?_
                                            first | refine jv_iaddN h dX12_weighed_319 (by repeat (with_reducible first | exact NF_nI _ | assumption | refine NF_add ?_ ?_ | refine NF_mul ?_ ?_)) (by repeat (with_reducible first | exact NF_nI _ | assumption | refine NF_add ?_ ?_ | refine NF_mul ?_ ?_)) ?_ | refine jv_iadd h dX12_weighed_319 ?_
                                            refine jv_istore h dX12_weighed_320 (lt_nl hnl (by decide)) ?_
                                            refine jv_iload h dX12_weighed_322 rfl ?_
                                            refine jv_beq 346 h dX12_weighed_324 (by decide) (fun c324 => ?_) (fun c324 => ?_)
                                            · refine jv_iload h dX12_weighed_346 rfl ?_
                                              refine jv_istore h dX12_weighed_348 (lt_nl hnl (by decide)) ?_
                                              refine jv_iinc (nI (t + 1)) h dX12_weighed_350 rfl (lt_nl hnl (by decide)) (nI_inc t) ?_
                                              refine jv_goto 148 h dX12_weighed_353 (by decide) ?_
                                              have hokE : ob = decide (okP (wgN S) (weL (q.2.2 s9) a9) (fun _ => 0) n9 t (S 0)) := by
                                                cases ob with
                                                | true => exact (decide_eq_true (fun j hj => by rw [Nat.zero_add]; exact hob.mp rfl j hj)).symm
                                                | false => exact (decide_eq_false (fun z => by have := hob.mpr (fun j hj => by have := z j hj; rw [Nat.zero_add] at this; exact this); cases this)).symm
                                              subst hokE
                                              have eC : smN (fun t => if okP (wgN S) (weL (q.2.2 s9) a9) (fun _ => 0) n9 t (S 0) then 1 else 0) (t + 1) = smN (fun t => if okP (wgN S) (weL (q.2.2 s9) a9) (fun _ => 0) n9 t (S 0) then 1 else 0) t + (if okP (wgN S) (weL (q.2.2 s9) a9) (fun _ => 0) n9 t (S 0) then 1 else 0) := rfl
                                              have eM := mnN_s (f := fun t => decide (okP (wgN S) (weL (q.2.2 s9) a9) (fun _ => 0) n9 t (S 0))) (g := fun t => seN (n9 + 1) t (S 0)) (t := t)
                                              first
                                              | exact absurd (c311.symm.trans c324) (by decide)
                                              | (have hok := of_decide_eq_true c324
                                                 rw [if_pos hok] at eC
                                                 rw [if_pos (And.intro c324 (Or.inl c331))] at eM
                                                 have eb : bsI (mnN (fun t => decide (okP (wgN S) (weL (q.2.2 s9) a9) (fun _ => 0) n9 t (S 0))) (fun t => seN (n9 + 1) t (S 0)) (t + 1)) = nI (seN (n9 + 1) t (S 0)) := by rw [eM]; exact bsI_n (by omega)
                                                 rw [← eb, ← eC]
                                                 exact ih148 (t + 1) _ _ _ _ _ (by omega) (by omega))
                                              | (have hok := of_decide_eq_true c324
                                                 rw [if_pos hok] at eC
                                                 rw [if_pos (And.intro c324 (Or.inr (by omega)))] at eM
                                                 have eb : bsI (mnN (fun t => decide (okP (wgN S) (weL (q.2.2 s9) a9) (fun _ => 0) n9 t (S 0))) (fun t => seN (n9 + 1) t (S 0)) (t + 1)) = nI (seN (n9 + 1) t (S 0)) := by rw [eM]; exact bsI_n (by omega)
                                                 rw [← eb, ← eC]
                                                 exact ih148 (t + 1) _ _ _ _ _ (by omega) (by omega))
                                              | (have hok := of_decide_eq_true c324
                                                 rw [if_pos hok] at eC
                                                 rw [if_neg (fun z => by rcases z.2 with z | z <;> omega)] at eM
                                                 rw [← eM, ← eC]
                                                 exact ih148 (t + 1) _ _ _ _ _ (by omega) (by omega))
                                              | (have hok := of_decide_eq_false c324
                                                 rw [if_neg hok] at eC
                                                 rw [if_neg (fun z => hok (of_decide_eq_true z.1))] at eM
                                                 rw [← eM, ← eC]
                                                 exact ih148 (t + 1) _ _ _ _ _ (by omega) (by omega))
                                            · refine jv_iload h dX12_weighed_327 rfl ?_
                                              refine jv_bipush (-4) h dX12_weighed_329 (by decide) ?_
                                              refine jv_icmp_eq 341 h dX12_weighed_331 (by decide) (fun c331 => ?_) (fun c331 => ?_)
                                              · rw [bsI_4 (by omega)] at c331
                                                refine jv_iload h dX12_weighed_341 rfl ?_
                                                refine jv_goto 348 h dX12_weighed_343 (by decide) ?_
                                                refine jv_istore h dX12_weighed_348 (lt_nl hnl (by decide)) ?_
                                                refine jv_iinc (nI (t + 1)) h dX12_weighed_350 rfl (lt_nl hnl (by decide)) (nI_inc t) ?_
                                                refine jv_goto 148 h dX12_weighed_353 (by decide) ?_
                                                have hokE : ob = decide (okP (wgN S) (weL (q.2.2 s9) a9) (fun _ => 0) n9 t (S 0)) := by
                                                  cases ob with
                                                  | true => exact (decide_eq_true (fun j hj => by rw [Nat.zero_add]; exact hob.mp rfl j hj)).symm
                                                  | false => exact (decide_eq_false (fun z => by have := hob.mpr (fun j hj => by have := z j hj; rw [Nat.zero_add] at this; exact this); cases this)).symm
                                                subst hokE
                                                have eC : smN (fun t => if okP (wgN S) (weL (q.2.2 s9) a9) (fun _ => 0) n9 t (S 0) then 1 else 0) (t + 1) = smN (fun t => if okP (wgN S) (weL (q.2.2 s9) a9) (fun _ => 0) n9 t (S 0) then 1 else 0) t + (if okP (wgN S) (weL (q.2.2 s9) a9) (fun _ => 0) n9 t (S 0) then 1 else 0) := rfl
                                                have eM := mnN_s (f := fun t => decide (okP (wgN S) (weL (q.2.2 s9) a9) (fun _ => 0) n9 t (S 0))) (g := fun t => seN (n9 + 1) t (S 0)) (t := t)
                                                first
                                                | exact absurd (c311.symm.trans c324) (by decide)
                                                | (have hok := of_decide_eq_true c324
                                                   rw [if_pos hok] at eC
                                                   rw [if_pos (And.intro c324 (Or.inl c331))] at eM
                                                   have eb : bsI (mnN (fun t => decide (okP (wgN S) (weL (q.2.2 s9) a9) (fun _ => 0) n9 t (S 0))) (fun t => seN (n9 + 1) t (S 0)) (t + 1)) = nI (seN (n9 + 1) t (S 0)) := by rw [eM]; exact bsI_n (by omega)
                                                   rw [← eb, ← eC]
                                                   exact ih148 (t + 1) _ _ _ _ _ (by omega) (by omega))
                                                | (have hok := of_decide_eq_true c324
                                                   rw [if_pos hok] at eC
                                                   rw [if_pos (And.intro c324 (Or.inr (by omega)))] at eM
                                                   have eb : bsI (mnN (fun t => decide (okP (wgN S) (weL (q.2.2 s9) a9) (fun _ => 0) n9 t (S 0))) (fun t => seN (n9 + 1) t (S 0)) (t + 1)) = nI (seN (n9 + 1) t (S 0)) := by rw [eM]; exact bsI_n (by omega)
                                                   rw [← eb, ← eC]
                                                   exact ih148 (t + 1) _ _ _ _ _ (by omega) (by omega))
                                                | (have hok := of_decide_eq_true c324
                                                   rw [if_pos hok] at eC
                                                   rw [if_neg (fun z => by rcases z.2 with z | z <;> omega)] at eM
                                                   rw [← eM, ← eC]
                                                   exact ih148 (t + 1) _ _ _ _ _ (by omega) (by omega))
                                                | (have hok := of_decide_eq_false c324
                                                   rw [if_neg hok] at eC
                                                   rw [if_neg (fun z => hok (of_decide_eq_true z.1))] at eM
                                                   rw [← eM, ← eC]
                                                   exact ih148 (t + 1) _ _ _ _ _ (by omega) (by omega))
                                              · rw [bsI_4 (by omega)] at c331
                                                refine jv_iload h dX12_weighed_334 rfl ?_
                                                refine jv_iload h dX12_weighed_336 rfl ?_
                                                refine jv_icmp_ge 346 h dX12_weighed_338 (by decide) (fun c338 => ?_) (fun c338 => ?_)
                                                · rw [bsI_n c331, nI_leI (by omega) (by omega)] at c338
                                                  refine jv_iload h dX12_weighed_346 rfl ?_
                                                  refine jv_istore h dX12_weighed_348 (lt_nl hnl (by decide)) ?_
                                                  refine jv_iinc (nI (t + 1)) h dX12_weighed_350 rfl (lt_nl hnl (by decide)) (nI_inc t) ?_
                                                  refine jv_goto 148 h dX12_weighed_353 (by decide) ?_
                                                  have hokE : ob = decide (okP (wgN S) (weL (q.2.2 s9) a9) (fun _ => 0) n9 t (S 0)) := by
                                                    cases ob with
                                                    | true => exact (decide_eq_true (fun j hj => by rw [Nat.zero_add]; exact hob.mp rfl j hj)).symm
                                                    | false => exact (decide_eq_false (fun z => by have := hob.mpr (fun j hj => by have := z j hj; rw [Nat.zero_add] at this; exact this); cases this)).symm
                                                  subst hokE
                                                  have eC : smN (fun t => if okP (wgN S) (weL (q.2.2 s9) a9) (fun _ => 0) n9 t (S 0) then 1 else 0) (t + 1) = smN (fun t => if okP (wgN S) (weL (q.2.2 s9) a9) (fun _ => 0) n9 t (S 0) then 1 else 0) t + (if okP (wgN S) (weL (q.2.2 s9) a9) (fun _ => 0) n9 t (S 0) then 1 else 0) := rfl
                                                  have eM := mnN_s (f := fun t => decide (okP (wgN S) (weL (q.2.2 s9) a9) (fun _ => 0) n9 t (S 0))) (g := fun t => seN (n9 + 1) t (S 0)) (t := t)
                                                  first
                                                  | exact absurd (c311.symm.trans c324) (by decide)
                                                  | (have hok := of_decide_eq_true c324
                                                     rw [if_pos hok] at eC
                                                     rw [if_pos (And.intro c324 (Or.inl c331))] at eM
                                                     have eb : bsI (mnN (fun t => decide (okP (wgN S) (weL (q.2.2 s9) a9) (fun _ => 0) n9 t (S 0))) (fun t => seN (n9 + 1) t (S 0)) (t + 1)) = nI (seN (n9 + 1) t (S 0)) := by rw [eM]; exact bsI_n (by omega)
                                                     rw [← eb, ← eC]
                                                     exact ih148 (t + 1) _ _ _ _ _ (by omega) (by omega))
                                                  | (have hok := of_decide_eq_true c324
                                                     rw [if_pos hok] at eC
                                                     rw [if_pos (And.intro c324 (Or.inr (by omega)))] at eM
                                                     have eb : bsI (mnN (fun t => decide (okP (wgN S) (weL (q.2.2 s9) a9) (fun _ => 0) n9 t (S 0))) (fun t => seN (n9 + 1) t (S 0)) (t + 1)) = nI (seN (n9 + 1) t (S 0)) := by rw [eM]; exact bsI_n (by omega)
                                                     rw [← eb, ← eC]
                                                     exact ih148 (t + 1) _ _ _ _ _ (by omega) (by omega))
                                                  | (have hok := of_decide_eq_true c324
                                                     rw [if_pos hok] at eC
                                                     rw [if_neg (fun z => by rcases z.2 with z | z <;> omega)] at eM
                                                     rw [← eM, ← eC]
                                                     exact ih148 (t + 1) _ _ _ _ _ (by omega) (by omega))
                                                  | (have hok := of_decide_eq_false c324
                                                     rw [if_neg hok] at eC
                                                     rw [if_neg (fun z => hok (of_decide_eq_true z.1))] at eM
                                                     rw [← eM, ← eC]
                                                     exact ih148 (t + 1) _ _ _ _ _ (by omega) (by omega))
                                                · rw [bsI_n c331, nI_leI (by omega) (by omega)] at c338
                                                  refine jv_iload h dX12_weighed_341 rfl ?_
                                                  refine jv_goto 348 h dX12_weighed_343 (by decide) ?_
                                                  refine jv_istore h dX12_weighed_348 (lt_nl hnl (by decide)) ?_
                                                  refine jv_iinc (nI (t + 1)) h dX12_weighed_350 rfl (lt_nl hnl (by decide)) (nI_inc t) ?_
                                                  refine jv_goto 148 h dX12_weighed_353 (by decide) ?_
                                                  have hokE : ob = decide (okP (wgN S) (weL (q.2.2 s9) a9) (fun _ => 0) n9 t (S 0)) := by
                                                    cases ob with
                                                    | true => exact (decide_eq_true (fun j hj => by rw [Nat.zero_add]; exact hob.mp rfl j hj)).symm
                                                    | false => exact (decide_eq_false (fun z => by have := hob.mpr (fun j hj => by have := z j hj; rw [Nat.zero_add] at this; exact this); cases this)).symm
                                                  subst hokE
                                                  have eC : smN (fun t => if okP (wgN S) (weL (q.2.2 s9) a9) (fun _ => 0) n9 t (S 0) then 1 else 0) (t + 1) = smN (fun t => if okP (wgN S) (weL (q.2.2 s9) a9) (fun _ => 0) n9 t (S 0) then 1 else 0) t + (if okP (wgN S) (weL (q.2.2 s9) a9) (fun _ => 0) n9 t (S 0) then 1 else 0) := rfl
                                                  have eM := mnN_s (f := fun t => decide (okP (wgN S) (weL (q.2.2 s9) a9) (fun _ => 0) n9 t (S 0))) (g := fun t => seN (n9 + 1) t (S 0)) (t := t)
                                                  first
                                                  | exact absurd (c311.symm.trans c324) (by decide)
                                                  | (have hok := of_decide_eq_true c324
                                                     rw [if_pos hok] at eC
                                                     rw [if_pos (And.intro c324 (Or.inl c331))] at eM
                                                     have eb : bsI (mnN (fun t => decide (okP (wgN S) (weL (q.2.2 s9) a9) (fun _ => 0) n9 t (S 0))) (fun t => seN (n9 + 1) t (S 0)) (t + 1)) = nI (seN (n9 + 1) t (S 0)) := by rw [eM]; exact bsI_n (by omega)
                                                     rw [← eb, ← eC]
                                                     exact ih148 (t + 1) _ _ _ _ _ (by omega) (by omega))
                                                  | (have hok := of_decide_eq_true c324
                                                     rw [if_pos hok] at eC
                                                     rw [if_pos (And.intro c324 (Or.inr (by omega)))] at eM
                                                     have eb : bsI (mnN (fun t => decide (okP (wgN S) (weL (q.2.2 s9) a9) (fun _ => 0) n9 t (S 0))) (fun t => seN (n9 + 1) t (S 0)) (t + 1)) = nI (seN (n9 + 1) t (S 0)) := by rw [eM]; exact bsI_n (by omega)
                                                     rw [← eb, ← eC]
                                                     exact ih148 (t + 1) _ _ _ _ _ (by omega) (by omega))
                                                  | (have hok := of_decide_eq_true c324
                                                     rw [if_pos hok] at eC
                                                     rw [if_neg (fun z => by rcases z.2 with z | z <;> omega)] at eM
                                                     rw [← eM, ← eC]
                                                     exact ih148 (t + 1) _ _ _ _ _ (by omega) (by omega))
                                                  | (have hok := of_decide_eq_false c324
                                                     rw [if_neg hok] at eC
                                                     rw [if_neg (fun z => hok (of_decide_eq_true z.1))] at eM
                                                     rw [← eM, ← eC]
                                                     exact ih148 (t + 1) _ _ _ _ _ (by omega) (by omega))
                                        · have ht6 := t6 (a9 + c) (by omega)
                                          rw [← Nat.add_assoc] at ht6
                                          obtain ⟨hv1, hv2⟩ := okL_v (hall c (by omega))
                                          rw [← ht6] at hv1
                                          obtain ⟨su1, su2⟩ := su_ex (w := wgN S) (b := n9 + 1) (t := t) (n := S 0) (c := c) (by omega) (by omega) w0 (fun p hp => wgN_le hW hp) (by omega)
                                          have hlc : lcN (wgN S) (n9 + 1) t c (S 0) < 2 ^ 63 := by have := lc_le (w := wgN S) (b := n9 + 1) (t := t) (c := c) (n := S 0) (fun p hp => wgN_le hW hp); omega
                                          refine jv_iload h dX12_weighed_263 rfl ?_
                                          refine jv_beq 298 h dX12_weighed_265 (by decide) (fun c265 => ?_) (fun c265 => ?_)
                                          · refine jv_iconst (nI 0) h dX12_weighed_298 (by decide) ?_
                                            refine jv_istore h dX12_weighed_299 (lt_nl hnl (by decide)) ?_
                                            refine jv_iinc (nI (c + 1)) h dX12_weighed_301 rfl (lt_nl hnl (by decide)) (nI_inc c) ?_
                                            refine jv_goto 256 h dX12_weighed_304 (by decide) ?_
                                            first
                                            | exact ih (c + 1) true (by omega) (by omega) ⟨fun _ j hj => by
                                                by_cases hjc : j = c
                                                · rw [hjc]; exact c291
                                                · exact hob.mp c265 j (by omega), fun _ => rfl⟩
                                            | exact ih (c + 1) false (by omega) (by omega) ⟨fun z => (by cases z), fun z => absurd (z c (by omega)) c291⟩
                                            | exact ih (c + 1) false (by omega) (by omega) ⟨fun z => (by cases z), fun z => by rw [hob.mpr (fun j hj => z j (by omega))] at c265; cases c265⟩
                                          · refine jv_lload h dX12_weighed_268 rfl ?_
                                            refine jv_bipush (nI 10) h dX12_weighed_270 (by decide) ?_
                                            refine jv_iload h dX12_weighed_272 rfl ?_
                                            first | refine jv_imulN h dX12_weighed_274 (by repeat (with_reducible first | exact NF_nI _ | assumption | refine NF_add ?_ ?_ | refine NF_mul ?_ ?_)) (by repeat (with_reducible first | exact NF_nI _ | assumption | refine NF_add ?_ ?_ | refine NF_mul ?_ ?_)) ?_ | refine jv_imul h dX12_weighed_274 ?_
                                            refine jv_lshr h dX12_weighed_275 ?_
                                            refine jv_ldc2 h dX12_weighed_276 gw_1212 ?_
                                            refine jv_land h dX12_weighed_279 ?_
                                            rw [ex_l su1 (by omega), su2]
                                            refine jv_aload_n h dX12_weighed_280 rfl ?_
                                            refine jv_gr 14 h dX12_weighed_281 cf_11 (by decide) gw_914 (by assumption) (by assumption) ?_
                                            refine jv_iload h dX12_weighed_284 rfl ?_
                                            refine jv_iload h dX12_weighed_286 rfl ?_
                                            first | refine jv_iaddN h dX12_weighed_288 (by repeat (with_reducible first | exact NF_nI _ | assumption | refine NF_add ?_ ?_ | refine NF_mul ?_ ?_)) (by repeat (with_reducible first | exact NF_nI _ | assumption | refine NF_add ?_ ?_ | refine NF_mul ?_ ?_)) ?_ | refine jv_iadd h dX12_weighed_288 ?_
                                            refine jv_lald h dX12_weighed_289 (by assumption) (by repeat (with_reducible first | exact NF_nI _ | assumption | refine NF_add ?_ ?_ | refine NF_mul ?_ ?_)) ⟨by omega, by decide⟩ ?_
                                            refine jv_lcmp h dX12_weighed_290 ?_
                                            refine jv_if_ne 298 h dX12_weighed_291 (by decide) (fun c291 => ?_) (fun c291 => ?_)
                                            · rw [lg_cmp_eq0, lN_v hlc hv1] at c291
                                              refine jv_iconst (nI 0) h dX12_weighed_298 (by decide) ?_
                                              refine jv_istore h dX12_weighed_299 (lt_nl hnl (by decide)) ?_
                                              refine jv_iinc (nI (c + 1)) h dX12_weighed_301 rfl (lt_nl hnl (by decide)) (nI_inc c) ?_
                                              refine jv_goto 256 h dX12_weighed_304 (by decide) ?_
                                              first
                                              | exact ih (c + 1) true (by omega) (by omega) ⟨fun _ j hj => by
                                                  by_cases hjc : j = c
                                                  · rw [hjc]; exact c291
                                                  · exact hob.mp c265 j (by omega), fun _ => rfl⟩
                                              | exact ih (c + 1) false (by omega) (by omega) ⟨fun z => (by cases z), fun z => absurd (z c (by omega)) c291⟩
                                              | exact ih (c + 1) false (by omega) (by omega) ⟨fun z => (by cases z), fun z => by rw [hob.mpr (fun j hj => z j (by omega))] at c265; cases c265⟩
                                            · rw [lg_cmp_eq0, lN_v hlc hv1] at c291
                                              refine jv_iconst (nI 1) h dX12_weighed_294 (by decide) ?_
                                              refine jv_goto 299 h dX12_weighed_295 (by decide) ?_
                                              refine jv_istore h dX12_weighed_299 (lt_nl hnl (by decide)) ?_
                                              refine jv_iinc (nI (c + 1)) h dX12_weighed_301 rfl (lt_nl hnl (by decide)) (nI_inc c) ?_
                                              refine jv_goto 256 h dX12_weighed_304 (by decide) ?_
                                              first
                                              | exact ih (c + 1) true (by omega) (by omega) ⟨fun _ j hj => by
                                                  by_cases hjc : j = c
                                                  · rw [hjc]; exact c291
                                                  · exact hob.mp c265 j (by omega), fun _ => rfl⟩
                                              | exact ih (c + 1) false (by omega) (by omega) ⟨fun z => (by cases z), fun z => absurd (z c (by omega)) c291⟩
                                              | exact ih (c + 1) false (by omega) (by omega) ⟨fun z => (by cases z), fun z => by rw [hob.mpr (fun j hj => z j (by omega))] at c265; cases c265⟩
                                    exact hl256 (n9 + 1) 0 true (by omega) (by omega) ⟨fun _ j hj => absurd hj (by omega), fun _ => rfl⟩
                                  · have hx1 : t / (n9 + 1) ^ p ≤ t := Nat.div_le_self _ _
                                    have hse := se_lt (b := n9 + 1) (t := t) p
                                    have hwg := wgN_le hW (show p < S 0 by omega)
                                    have hxs : t / (n9 + 1) ^ p / (n9 + 1) = t / (n9 + 1) ^ (p + 1) := by rw [Nat.div_div_eq_div_mul, Nat.pow_succ]
                                    refine jv_iload h dX12_weighed_179 rfl ?_
                                    refine jv_iload h dX12_weighed_181 rfl ?_
                                    refine jv_iconst (nI 1) h dX12_weighed_183 (by decide) ?_
                                    first | refine jv_iaddN h dX12_weighed_184 (by repeat (with_reducible first | exact NF_nI _ | assumption | refine NF_add ?_ ?_ | refine NF_mul ?_ ?_)) (by repeat (with_reducible first | exact NF_nI _ | assumption | refine NF_add ?_ ?_ | refine NF_mul ?_ ?_)) ?_ | refine jv_iadd h dX12_weighed_184 ?_
                                    refine jv_iremN h dX12_weighed_185 (by repeat (with_reducible first | exact NF_nI _ | assumption | refine NF_add ?_ ?_ | refine NF_mul ?_ ?_)) (by repeat (with_reducible first | exact NF_nI _ | assumption | refine NF_add ?_ ?_ | refine NF_mul ?_ ?_)) (by omega) ⟨by omega, by omega⟩ ?_
                                    generalize hd9 : t / (n9 + 1) ^ p % (n9 + 1) = dd
                                    have hdd : dd < n9 + 1 := by rw [← hd9]; exact Nat.mod_lt _ (by omega)
                                    refine jv_istore h dX12_weighed_186 (lt_nl hnl (by decide)) ?_
                                    refine jv_iload h dX12_weighed_188 rfl ?_
                                    refine jv_iload h dX12_weighed_190 rfl ?_
                                    refine jv_iconst (nI 1) h dX12_weighed_192 (by decide) ?_
                                    first | refine jv_iaddN h dX12_weighed_193 (by repeat (with_reducible first | exact NF_nI _ | assumption | refine NF_add ?_ ?_ | refine NF_mul ?_ ?_)) (by repeat (with_reducible first | exact NF_nI _ | assumption | refine NF_add ?_ ?_ | refine NF_mul ?_ ?_)) ?_ | refine jv_iadd h dX12_weighed_193 ?_
                                    refine jv_idivN h dX12_weighed_194 (by repeat (with_reducible first | exact NF_nI _ | assumption | refine NF_add ?_ ?_ | refine NF_mul ?_ ?_)) (by repeat (with_reducible first | exact NF_nI _ | assumption | refine NF_add ?_ ?_ | refine NF_mul ?_ ?_)) (by omega) ⟨by omega, by omega⟩ ?_
                                    rw [hxs]
                                    refine jv_istore h dX12_weighed_195 (lt_nl hnl (by decide)) ?_
                                    refine jv_iload h dX12_weighed_197 rfl ?_
                                    refine jv_iload h dX12_weighed_199 rfl ?_
                                    refine jv_zne 208 h dX12_weighed_201 (by decide) (by repeat (with_reducible first | exact NF_nI _ | assumption | refine NF_add ?_ ?_ | refine NF_mul ?_ ?_)) (by omega) (fun c201 => ?_) (fun c201 => ?_)
                                    · refine jv_iconst (nI 1) h dX12_weighed_208 (by decide) ?_
                                      refine jv_iload h dX12_weighed_209 rfl ?_
                                      refine jv_ishl h dX12_weighed_211 ?_
                                      refine jv_ior h dX12_weighed_212 ?_
                                      first | rw [nI_or0] | rw [nI_or hse (by omega)]
                                      refine jv_istore h dX12_weighed_213 (lt_nl hnl (by decide)) ?_
                                      refine jv_lload h dX12_weighed_215 rfl ?_
                                      refine jv_iload h dX12_weighed_217 rfl ?_
                                      refine jv_zne 226 h dX12_weighed_219 (by decide) (by repeat (with_reducible first | exact NF_nI _ | assumption | refine NF_add ?_ ?_ | refine NF_mul ?_ ?_)) (by omega) (fun c219 => ?_) (fun c219 => ?_)
                                      · refine jv_aload_n h dX12_weighed_226 rfl ?_
                                        refine jv_iload h dX12_weighed_227 rfl ?_
                                        refine jv_VRi [_] h dX12_weighed_229 cw_X12_58 cf_11 (by assumption) (cm_weighs hM hN hW (NF_nI _) (by omega)) (by decide) rfl rfl (Nat.le_of_ble_eq_true rfl) ⟨Nat.zero_le _, Nat.zero_le _⟩ ?_
                                        refine jv_i2l h dX12_weighed_232 ?_
                                        refine jv_bipush (nI 10) h dX12_weighed_233 (by decide) ?_
                                        refine jv_iload h dX12_weighed_235 rfl ?_
                                        refine jv_iconst (nI 1) h dX12_weighed_237 (by decide) ?_
                                        first | refine jv_isubN h dX12_weighed_238 (by repeat (with_reducible first | exact NF_nI _ | assumption | refine NF_add ?_ ?_ | refine NF_mul ?_ ?_)) (by repeat (with_reducible first | exact NF_nI _ | assumption | refine NF_add ?_ ?_ | refine NF_mul ?_ ?_)) (by omega) ?_ | refine jv_isub h dX12_weighed_238 ?_
                                        first | refine jv_imulN h dX12_weighed_239 (by repeat (with_reducible first | exact NF_nI _ | assumption | refine NF_add ?_ ?_ | refine NF_mul ?_ ?_)) (by repeat (with_reducible first | exact NF_nI _ | assumption | refine NF_add ?_ ?_ | refine NF_mul ?_ ?_)) ?_ | refine jv_imul h dX12_weighed_239 ?_
                                        refine jv_lshl h dX12_weighed_240 ?_
                                        rw [sh_w (by omega) (by omega)]
                                        refine jv_ladd h dX12_weighed_241 ?_
                                        rw [lN_sum]
                                        refine jv_lstore h dX12_weighed_242 (lt_nl hnl (by decide)) ?_
                                        refine jv_iinc (nI (p + 1)) h dX12_weighed_244 rfl (lt_nl hnl (by decide)) (nI_inc p) ?_
                                        refine jv_goto 168 h dX12_weighed_247 (by decide) ?_
                                        have hd8 : dgN (n9 + 1) p t = dd := hd9
                                        first
                                        | exact absurd c219 c201
                                        | exact absurd c201 c219
                                        | (have e1 : seN (n9 + 1) t (p + 1) = seN (n9 + 1) t p + 2 ^ p := by
                                             show seN (n9 + 1) t p + (if dgN (n9 + 1) p t = 0 then 0 else 2 ^ p) = _
                                             rw [hd8, if_neg c201]
                                           have e2 : suN (wgN S) (n9 + 1) t (p + 1) = suN (wgN S) (n9 + 1) t p + wgN S p * 2 ^ (10 * (dd - 1)) := by
                                             show suN (wgN S) (n9 + 1) t p + (if dgN (n9 + 1) p t = 0 then 0 else wgN S p * 2 ^ (10 * (dgN (n9 + 1) p t - 1))) = _
                                             rw [hd8, if_neg c201]
                                           rw [← e1, ← e2]
                                           exact ih (p + 1) _ (by omega) (by omega))
                                        | (have e1 : seN (n9 + 1) t (p + 1) = seN (n9 + 1) t p := by
                                             show seN (n9 + 1) t p + (if dgN (n9 + 1) p t = 0 then 0 else 2 ^ p) = _
                                             rw [hd8, if_pos c201]; rfl
                                           have e2 : suN (wgN S) (n9 + 1) t (p + 1) = suN (wgN S) (n9 + 1) t p + 0 := by
                                             show suN (wgN S) (n9 + 1) t p + (if dgN (n9 + 1) p t = 0 then 0 else wgN S p * 2 ^ (10 * (dgN (n9 + 1) p t - 1))) = _
                                             rw [hd8, if_pos c201]
                                           rw [← e1, ← e2]
                                           exact ih (p + 1) _ (by omega) (by omega))
                                      · refine jv_lconst (lN 0) h dX12_weighed_222 (by decide) ?_
                                        refine jv_goto 241 h dX12_weighed_223 (by decide) ?_
                                        refine jv_ladd h dX12_weighed_241 ?_
                                        rw [lN_sum]
                                        refine jv_lstore h dX12_weighed_242 (lt_nl hnl (by decide)) ?_
                                        refine jv_iinc (nI (p + 1)) h dX12_weighed_244 rfl (lt_nl hnl (by decide)) (nI_inc p) ?_
                                        refine jv_goto 168 h dX12_weighed_247 (by decide) ?_
                                        have hd8 : dgN (n9 + 1) p t = dd := hd9
                                        first
                                        | exact absurd c219 c201
                                        | exact absurd c201 c219
                                        | (have e1 : seN (n9 + 1) t (p + 1) = seN (n9 + 1) t p + 2 ^ p := by
                                             show seN (n9 + 1) t p + (if dgN (n9 + 1) p t = 0 then 0 else 2 ^ p) = _
                                             rw [hd8, if_neg c201]
                                           have e2 : suN (wgN S) (n9 + 1) t (p + 1) = suN (wgN S) (n9 + 1) t p + wgN S p * 2 ^ (10 * (dd - 1)) := by
                                             show suN (wgN S) (n9 + 1) t p + (if dgN (n9 + 1) p t = 0 then 0 else wgN S p * 2 ^ (10 * (dgN (n9 + 1) p t - 1))) = _
                                             rw [hd8, if_neg c201]
                                           rw [← e1, ← e2]
                                           exact ih (p + 1) _ (by omega) (by omega))
                                        | (have e1 : seN (n9 + 1) t (p + 1) = seN (n9 + 1) t p := by
                                             show seN (n9 + 1) t p + (if dgN (n9 + 1) p t = 0 then 0 else 2 ^ p) = _
                                             rw [hd8, if_pos c201]; rfl
                                           have e2 : suN (wgN S) (n9 + 1) t (p + 1) = suN (wgN S) (n9 + 1) t p + 0 := by
                                             show suN (wgN S) (n9 + 1) t p + (if dgN (n9 + 1) p t = 0 then 0 else wgN S p * 2 ^ (10 * (dgN (n9 + 1) p t - 1))) = _
                                             rw [hd8, if_pos c201]
                                           rw [← e1, ← e2]
                                           exact ih (p + 1) _ (by omega) (by omega))
                                    · refine jv_iconst (nI 0) h dX12_weighed_204 (by decide) ?_
                                      refine jv_goto 212 h dX12_weighed_205 (by decide) ?_
                                      refine jv_ior h dX12_weighed_212 ?_
                                      first | rw [nI_or0] | rw [nI_or hse (by omega)]
                                      refine jv_istore h dX12_weighed_213 (lt_nl hnl (by decide)) ?_
                                      refine jv_lload h dX12_weighed_215 rfl ?_
                                      refine jv_iload h dX12_weighed_217 rfl ?_
                                      refine jv_zne 226 h dX12_weighed_219 (by decide) (by repeat (with_reducible first | exact NF_nI _ | assumption | refine NF_add ?_ ?_ | refine NF_mul ?_ ?_)) (by omega) (fun c219 => ?_) (fun c219 => ?_)
                                      · refine jv_aload_n h dX12_weighed_226 rfl ?_
                                        refine jv_iload h dX12_weighed_227 rfl ?_
                                        refine jv_VRi [_] h dX12_weighed_229 cw_X12_58 cf_11 (by assumption) (cm_weighs hM hN hW (NF_nI _) (by omega)) (by decide) rfl rfl (Nat.le_of_ble_eq_true rfl) ⟨Nat.zero_le _, Nat.zero_le _⟩ ?_
                                        refine jv_i2l h dX12_weighed_232 ?_
                                        refine jv_bipush (nI 10) h dX12_weighed_233 (by decide) ?_
                                        refine jv_iload h dX12_weighed_235 rfl ?_
                                        refine jv_iconst (nI 1) h dX12_weighed_237 (by decide) ?_
                                        first | refine jv_isubN h dX12_weighed_238 (by repeat (with_reducible first | exact NF_nI _ | assumption | refine NF_add ?_ ?_ | refine NF_mul ?_ ?_)) (by repeat (with_reducible first | exact NF_nI _ | assumption | refine NF_add ?_ ?_ | refine NF_mul ?_ ?_)) (by omega) ?_ | refine jv_isub h dX12_weighed_238 ?_
                                        first | refine jv_imulN h dX12_weighed_239 (by repeat (with_reducible first | exact NF_nI _ | assumption | refine NF_add ?_ ?_ | refine NF_mul ?_ ?_)) (by repeat (with_reducible first | exact NF_nI _ | assumption | refine NF_add ?_ ?_ | refine NF_mul ?_ ?_)) ?_ | refine jv_imul h dX12_weighed_239 ?_
                                        refine jv_lshl h dX12_weighed_240 ?_
                                        rw [sh_w (by omega) (by omega)]
                                        refine jv_ladd h dX12_weighed_241 ?_
                                        rw [lN_sum]
                                        refine jv_lstore h dX12_weighed_242 (lt_nl hnl (by decide)) ?_
                                        refine jv_iinc (nI (p + 1)) h dX12_weighed_244 rfl (lt_nl hnl (by decide)) (nI_inc p) ?_
                                        refine jv_goto 168 h dX12_weighed_247 (by decide) ?_
                                        have hd8 : dgN (n9 + 1) p t = dd := hd9
                                        first
                                        | exact absurd c219 c201
                                        | exact absurd c201 c219
                                        | (have e1 : seN (n9 + 1) t (p + 1) = seN (n9 + 1) t p + 2 ^ p := by
                                             show seN (n9 + 1) t p + (if dgN (n9 + 1) p t = 0 then 0 else 2 ^ p) = _
                                             rw [hd8, if_neg c201]
                                           have e2 : suN (wgN S) (n9 + 1) t (p + 1) = suN (wgN S) (n9 + 1) t p + wgN S p * 2 ^ (10 * (dd - 1)) := by
                                             show suN (wgN S) (n9 + 1) t p + (if dgN (n9 + 1) p t = 0 then 0 else wgN S p * 2 ^ (10 * (dgN (n9 + 1) p t - 1))) = _
                                             rw [hd8, if_neg c201]
                                           rw [← e1, ← e2]
                                           exact ih (p + 1) _ (by omega) (by omega))
                                        | (have e1 : seN (n9 + 1) t (p + 1) = seN (n9 + 1) t p := by
                                             show seN (n9 + 1) t p + (if dgN (n9 + 1) p t = 0 then 0 else 2 ^ p) = _
                                             rw [hd8, if_pos c201]; rfl
                                           have e2 : suN (wgN S) (n9 + 1) t (p + 1) = suN (wgN S) (n9 + 1) t p + 0 := by
                                             show suN (wgN S) (n9 + 1) t p + (if dgN (n9 + 1) p t = 0 then 0 else wgN S p * 2 ^ (10 * (dgN (n9 + 1) p t - 1))) = _
                                             rw [hd8, if_pos c201]
                                           rw [← e1, ← e2]
                                           exact ih (p + 1) _ (by omega) (by omega))
                                      · refine jv_lconst (lN 0) h dX12_weighed_222 (by decide) ?_
                                        refine jv_goto 241 h dX12_weighed_223 (by decide) ?_
                                        refine jv_ladd h dX12_weighed_241 ?_
                                        rw [lN_sum]
                                        refine jv_lstore h dX12_weighed_242 (lt_nl hnl (by decide)) ?_
                                        refine jv_iinc (nI (p + 1)) h dX12_weighed_244 rfl (lt_nl hnl (by decide)) (nI_inc p) ?_
                                        refine jv_goto 168 h dX12_weighed_247 (by decide) ?_
                                        have hd8 : dgN (n9 + 1) p t = dd := hd9
                                        first
                                        | exact absurd c219 c201
                                        | exact absurd c201 c219
                                        | (have e1 : seN (n9 + 1) t (p + 1) = seN (n9 + 1) t p + 2 ^ p := by
                                             show seN (n9 + 1) t p + (if dgN (n9 + 1) p t = 0 then 0 else 2 ^ p) = _
                                             rw [hd8, if_neg c201]
                                           have e2 : suN (wgN S) (n9 + 1) t (p + 1) = suN (wgN S) (n9 + 1) t p + wgN S p * 2 ^ (10 * (dd - 1)) := by
                                             show suN (wgN S) (n9 + 1) t p + (if dgN (n9 + 1) p t = 0 then 0 else wgN S p * 2 ^ (10 * (dgN (n9 + 1) p t - 1))) = _
                                             rw [hd8, if_neg c201]
                                           rw [← e1, ← e2]
                                           exact ih (p + 1) _ (by omega) (by omega))
                                        | (have e1 : seN (n9 + 1) t (p + 1) = seN (n9 + 1) t p := by
                                             show seN (n9 + 1) t p + (if dgN (n9 + 1) p t = 0 then 0 else 2 ^ p) = _
                                             rw [hd8, if_pos c201]; rfl
                                           have e2 : suN (wgN S) (n9 + 1) t (p + 1) = suN (wgN S) (n9 + 1) t p + 0 := by
                                             show suN (wgN S) (n9 + 1) t p + (if dgN (n9 + 1) p t = 0 then 0 else wgN S p * 2 ^ (10 * (dgN (n9 + 1) p t - 1))) = _
                                             rw [hd8, if_pos c201]
                                           rw [← e1, ← e2]
                                           exact ih (p + 1) _ (by omega) (by omega))
                              have e0 : t = t / (n9 + 1) ^ 0 := by rw [Nat.pow_zero, Nat.div_one]
                              have key := hl168 (S 0 + 1) 0 o17 (by omega) (by omega)
                              rw [← e0] at key
                              exact key
                        exact hl148 ((n9 + 1) ^ S 0 + 1) 0 none none none none none (by omega) (by omega)
                      · refine jv_iload h dX12_weighed_123 rfl ?_
                        refine jv_iload h dX12_weighed_125 rfl ?_
                        refine jv_iconst (nI 1) h dX12_weighed_127 (by decide) ?_
                        first | refine jv_iaddN h dX12_weighed_128 (by repeat (with_reducible first | exact NF_nI _ | assumption | refine NF_add ?_ ?_ | refine NF_mul ?_ ?_)) (by repeat (with_reducible first | exact NF_nI _ | assumption | refine NF_add ?_ ?_ | refine NF_mul ?_ ?_)) ?_ | refine jv_iadd h dX12_weighed_128 ?_
                        first | refine jv_imulN h dX12_weighed_129 (by repeat (with_reducible first | exact NF_nI _ | assumption | refine NF_add ?_ ?_ | refine NF_mul ?_ ?_)) (by repeat (with_reducible first | exact NF_nI _ | assumption | refine NF_add ?_ ?_ | refine NF_mul ?_ ?_)) ?_ | refine jv_imul h dX12_weighed_129 ?_
                        refine jv_istore h dX12_weighed_130 (lt_nl hnl (by decide)) ?_
                        refine jv_iinc (nI (p + 1)) h dX12_weighed_132 rfl (lt_nl hnl (by decide)) (nI_inc p) ?_
                        refine jv_goto 112 h dX12_weighed_135 (by decide) ?_
                        exact ih (p + 1) (by omega) (by omega)
                  exact hl112 (S 0 + 1) 0 (by omega) (by omega)
                · have ht6 := t6 (a9 + c) (by omega)
                  rw [← Nat.add_assoc] at ht6
                  refine jv_aload_n h dX12_weighed_77 rfl ?_
                  refine jv_gr 14 h dX12_weighed_78 cf_11 (by decide) gw_914 (by assumption) (by assumption) ?_
                  refine jv_iload h dX12_weighed_81 rfl ?_
                  refine jv_iload h dX12_weighed_83 rfl ?_
                  first | refine jv_iaddN h dX12_weighed_85 (by repeat (with_reducible first | exact NF_nI _ | assumption | refine NF_add ?_ ?_ | refine NF_mul ?_ ?_)) (by repeat (with_reducible first | exact NF_nI _ | assumption | refine NF_add ?_ ?_ | refine NF_mul ?_ ?_)) ?_ | refine jv_iadd h dX12_weighed_85 ?_
                  refine jv_lald h dX12_weighed_86 (by assumption) (by repeat (with_reducible first | exact NF_nI _ | assumption | refine NF_add ?_ ?_ | refine NF_mul ?_ ?_)) ⟨by omega, by decide⟩ ?_
                  refine jv_lconst (lN 0) h dX12_weighed_87 (by decide) ?_
                  refine jv_ldc2 h dX12_weighed_88 gw_1126 ?_
                  refine jv_SRi [_, _, _] h dX12_weighed_91 cw_X12_44 (c_mwithinL _) (by decide) rfl rfl (Nat.le_of_ble_eq_true rfl) ⟨Nat.zero_le _, Nat.zero_le _⟩ ?_
                  refine jv_bne 100 h dX12_weighed_94 (by decide) (fun c94 => ?_) (fun c94 => ?_)
                  · rw [ht6] at c94
                    refine jv_iinc (nI (c + 1)) h dX12_weighed_100 rfl (lt_nl hnl (by decide)) (nI_inc c) ?_
                    refine jv_goto 70 h dX12_weighed_103 (by decide) ?_
                    exact ih (c + 1) (by omega) (by omega) (fun j hj => by
                      by_cases hjc : j = c
                      · rw [hjc]; exact c94
                      · exact f1 j (by omega))
                  · rw [ht6] at c94
                    refine jv_bipush (-2) h dX12_weighed_97 (by decide) ?_
                    exact jv_iret h hr dX12_weighed_99 ⟨by
    rw [hsp, if_neg (fun z => by
      have h1 := z c (by omega)
      rw [c94] at h1
      cases h1)], rfl, rfl, rfl⟩
            rw [c53']
            exact hl70 (n9 + 1) 0 (by omega) (by omega) (fun j hj => absurd hj (by omega))
          · have c53' : ¬ rfN (q.1 s9) l9 i (nI n9) (q.2.1 s9) = 0 := fun z => c53 (by rw [z]; decide)
            refine jv_iload h dX12_weighed_56 rfl ?_
            exact jv_iret h hr dX12_weighed_58 ⟨by rw [hsp, if_neg c53'], rfl, rfl, rfl⟩
        · refine jv_iconst (-1) h dX12_weighed_38 (by decide) ?_
          exact jv_iret h hr dX12_weighed_39 ⟨by unfold sp_weighed; rw [if_neg (by simp_all)], rfl, rfl, rfl⟩
