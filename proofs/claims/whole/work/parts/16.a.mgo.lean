set_option maxHeartbeats 4000000 in
set_option maxRecDepth 100000 in
theorem cm_goesOn {g : GT} {T : TT} {Mi : MI} {Ml : ML} {Y : Nat} {S : Nat → Nat} (hM : ModS g T Y) (hN : NowR Mi (Y + 1) S) (hW : WF S) (h1 : S 1 < 10100) : Ct g yX12_goesOn cX12_goesOn 3 none 4 0 0 [.ref Y] T Mi Ml (Gv T (fun Mi' Ml' => Ml' = Ml ∧ (∀ a, a ≠ Y + 1 → Mi' a = Mi a) ∧ NowR Mi' (Y + 1) (goS S))) := by
  refine Ct.of' (plainFor_of_name (by decide +kernel)) (by exact Nat.le_of_ble_eq_true rfl) ?_
  intro x hg hR h hr hnm hnl
  subst hg
  obtain ⟨hY, ⟨r0, a0⟩, ⟨r1, a1⟩, ⟨r5, a5⟩, ⟨r6, a6⟩, ⟨r7, a7⟩, ⟨r9, a9⟩, ⟨r12, a12⟩, ⟨r13, a13⟩, ⟨r14, a14⟩, ⟨r15, a15⟩, r16, a16⟩ := id hM
  obtain ⟨w0, w1, w2, w3, w4, w5, w6, w7⟩ := id hW
  refine jv_aload_n h dX12_goesOn_0 rfl ?_
  refine jv_gr 0 h dX12_goesOn_1 cf_11 (by decide) gw_900 (by assumption) (by assumption) ?_
  refine jv_iconst (nI 1) h dX12_goesOn_4 (by decide) ?_
  refine jv_dup2 h dX12_goesOn_5 rfl rfl ?_
  refine jv_iav h dX12_goesOn_6 (by assumption) (by repeat (with_reducible first | exact NF_nI _ | assumption | refine NF_add ?_ ?_ | refine NF_mul ?_ ?_)) ⟨by omega, by decide⟩ (by exact hN.n1) ?_
  refine jv_iconst (nI 1) h dX12_goesOn_7 (by decide) ?_
  first | refine jv_iaddN h dX12_goesOn_8 (by repeat (with_reducible first | exact NF_nI _ | assumption | refine NF_add ?_ ?_ | refine NF_mul ?_ ?_)) (by repeat (with_reducible first | exact NF_nI _ | assumption | refine NF_add ?_ ?_ | refine NF_mul ?_ ?_)) ?_ | refine jv_iadd h dX12_goesOn_8 ?_
  refine jv_iast h dX12_goesOn_9 (by assumption) (by repeat (with_reducible first | exact NF_nI _ | assumption | refine NF_add ?_ ?_ | refine NF_mul ?_ ?_)) ⟨by omega, by decide⟩ ?_
  refine jv_iconst (nI 0) h dX12_goesOn_10 (by decide) ?_
  refine jv_istore_n h dX12_goesOn_11 (lt_nl hnl (by decide)) ?_
  have hl12 : ∀ (n : Nat) (i : Nat) (M1 : MI), S 0 - i < n → i ≤ S 0 → (∀ a, a ≠ Y + 1 → M1 a = Mi a) → NowR M1 (Y + 1) (tuS S i) → V x 0 0 T M1 Ml 12 [some (.ref Y), some (.int (nI i)), none] [] := by
    intro n
    induction n with
    | zero => intro i M1 hN9 hi f1 f2; exact absurd hN9 (by omega)
    | succ n ih =>
      intro i M1 hN9 hi f1 f2
      have hz0 : tuS S i 0 = S 0 := tuS_lo (by decide) (by decide)
      refine jv_iload_n h dX12_goesOn_12 rfl ?_
      refine jv_aload_n h dX12_goesOn_13 rfl ?_
      refine jv_gr 0 h dX12_goesOn_14 cf_11 (by decide) gw_900 (by assumption) (by assumption) ?_
      refine jv_iconst (nI 0) h dX12_goesOn_17 (by decide) ?_
      refine jv_iav h dX12_goesOn_18 (by assumption) (by repeat (with_reducible first | exact NF_nI _ | assumption | refine NF_add ?_ ?_ | refine NF_mul ?_ ?_)) ⟨by omega, by decide⟩ (by first | assumption | exact f2.n0 | exact f2.n1 | exact f2.n2 | exact f2.n3 | exact f2.n4 | exact f2.n5 | exact f2.dy (by omega) | exact f2.p3 (by omega) | exact f2.p0 (by omega) | exact f2.p1 (by omega) | exact f2.p2 (by omega) | exact f2.p4 (by omega) | exact f2.p5 (by omega)) ?_
      refine jv_nge 68 h dX12_goesOn_19 (by decide) (by repeat (with_reducible first | exact NF_nI _ | assumption | refine NF_add ?_ ?_ | refine NF_mul ?_ ?_)) (by repeat (with_reducible first | exact NF_nI _ | assumption | refine NF_add ?_ ?_ | refine NF_mul ?_ ?_)) ⟨by omega, by omega⟩ (fun c19 => ?_) (fun c19 => ?_)
      · have hie : i = S 0 := by rw [tuS_lo (show 0 < 18 by decide) (by decide)] at c19; omega
        subst hie
        refine jv_iconst (nI 0) h dX12_goesOn_68 (by decide) ?_
        refine jv_istore_n h dX12_goesOn_69 (lt_nl hnl (by decide)) ?_
        have hl70 : ∀ (n : Nat) (i : Nat) (M1 : MI), S 0 - i < n → i ≤ S 0 → (∀ a, a ≠ Y + 1 → M1 a = Mi a) → NowR M1 (Y + 1) (lcS S i) → V x 0 0 T M1 Ml 70 [some (.ref Y), some (.int (nI i)), none] [] := by
          intro n
          induction n with
          | zero => intro i M1 hN9 hi f1 f2; exact absurd hN9 (by omega)
          | succ n ih =>
            intro i M1 hN9 hi f1 f2
            have hz0 : lcS S i 0 = S 0 := by rw [lcS_o (by omega), tuS_lo (by decide) (by decide)]
            refine jv_iload_n h dX12_goesOn_70 rfl ?_
            refine jv_aload_n h dX12_goesOn_71 rfl ?_
            refine jv_gr 0 h dX12_goesOn_72 cf_11 (by decide) gw_900 (by assumption) (by assumption) ?_
            refine jv_iconst (nI 0) h dX12_goesOn_75 (by decide) ?_
            refine jv_iav h dX12_goesOn_76 (by assumption) (by repeat (with_reducible first | exact NF_nI _ | assumption | refine NF_add ?_ ?_ | refine NF_mul ?_ ?_)) ⟨by omega, by decide⟩ (by first | assumption | exact f2.n0 | exact f2.n1 | exact f2.n2 | exact f2.n3 | exact f2.n4 | exact f2.n5 | exact f2.dy (by omega) | exact f2.p3 (by omega) | exact f2.p0 (by omega) | exact f2.p1 (by omega) | exact f2.p2 (by omega) | exact f2.p4 (by omega) | exact f2.p5 (by omega)) ?_
            refine jv_nge 152 h dX12_goesOn_77 (by decide) (by repeat (with_reducible first | exact NF_nI _ | assumption | refine NF_add ?_ ?_ | refine NF_mul ?_ ?_)) (by repeat (with_reducible first | exact NF_nI _ | assumption | refine NF_add ?_ ?_ | refine NF_mul ?_ ?_)) ⟨by omega, by omega⟩ (fun c77 => ?_) (fun c77 => ?_)
            · have hie : i = S 0 := by rw [lcS_o (by omega), tuS_lo (show 0 < 18 by decide) (by decide)] at c77; omega
              subst hie
              exact jv_vret h hr dX12_goesOn_152 ⟨rfl, rfl, rfl, f1, f2.cg (fun k _ => (lcS_end k).symm)⟩
            · have hiS : i < S 0 := by rw [lcS_o (by omega), tuS_lo (show 0 < 18 by decide) (by decide)] at c77; exact c77
              have hb := go_bounds hW hiS
              have w7i := w7 i hiS
              have k1 : lcS S i 1 = S 1 + 1 := by rw [lcS_o (by omega)]; rfl
              have k4 : lcS S i 4 = S 4 := by rw [lcS_o (by omega), tuS_lo (by decide) (by decide)]
              have kc : lcS S i (21 + 6 * i) = goC S i := by rw [lcS_o (by omega), tuS_c hiS]
              have kf : lcS S i (20 + 6 * i) = goF S i := by rw [lcS_o (by omega), tuS_f hiS]
              have kl : lcS S i (23 + 6 * i) = S (23 + 6 * i) := by
                rw [lcS_o (by omega)]
                have := tuS_k (S := S) (i := S 0) (p := i) 5 (by omega)
                rw [show 18 + 6 * i + 5 = 23 + 6 * i by omega] at this
                exact this
              have hml := Nat.mod_lt (lcS S i 1) (show 0 < lcS S i 4 by omega)
              have hset : ∀ (z : Nat), z = goL S i → NowR (upd2 M1 (Y + 1) (18 + 6 * i + 5) (nI z)) (Y + 1) (lcS S (i + 1)) := by
                intro z hz
                have := f2.set (j := 18 + 6 * i + 5) (w := goL S i) (v := nI z) (by rw [eN_per (by omega) (by omega), hz])
                rw [show setS (lcS S i) (18 + 6 * i + 5) (goL S i) = lcS S (i + 1) from funext (fun j => by rw [lcS_st, show 18 + 6 * i + 5 = 23 + 6 * i by omega])] at this
                exact this
              refine jv_aload_n h dX12_goesOn_80 rfl ?_
              refine jv_gr 0 h dX12_goesOn_81 cf_11 (by decide) gw_900 (by assumption) (by assumption) ?_
              refine jv_iconst (nI 1) h dX12_goesOn_84 (by decide) ?_
              refine jv_iav h dX12_goesOn_85 (by assumption) (by repeat (with_reducible first | exact NF_nI _ | assumption | refine NF_add ?_ ?_ | refine NF_mul ?_ ?_)) ⟨by omega, by decide⟩ (by first | assumption | exact f2.n0 | exact f2.n1 | exact f2.n2 | exact f2.n3 | exact f2.n4 | exact f2.n5 | exact f2.dy (by omega) | exact f2.p3 (by omega) | exact f2.p0 (by omega) | exact f2.p1 (by omega) | exact f2.p2 (by omega) | exact f2.p4 (by omega) | exact f2.p5 (by omega)) ?_
              refine jv_aload_n h dX12_goesOn_86 rfl ?_
              refine jv_gr 0 h dX12_goesOn_87 cf_11 (by decide) gw_900 (by assumption) (by assumption) ?_
              refine jv_iconst (nI 4) h dX12_goesOn_90 (by decide) ?_
              refine jv_iav h dX12_goesOn_91 (by assumption) (by repeat (with_reducible first | exact NF_nI _ | assumption | refine NF_add ?_ ?_ | refine NF_mul ?_ ?_)) ⟨by omega, by decide⟩ (by first | assumption | exact f2.n0 | exact f2.n1 | exact f2.n2 | exact f2.n3 | exact f2.n4 | exact f2.n5 | exact f2.dy (by omega) | exact f2.p3 (by omega) | exact f2.p0 (by omega) | exact f2.p1 (by omega) | exact f2.p2 (by omega) | exact f2.p4 (by omega) | exact f2.p5 (by omega)) ?_
              refine jv_iremN h dX12_goesOn_92 (by repeat (with_reducible first | exact NF_nI _ | assumption | refine NF_add ?_ ?_ | refine NF_mul ?_ ?_)) (by repeat (with_reducible first | exact NF_nI _ | assumption | refine NF_add ?_ ?_ | refine NF_mul ?_ ?_)) (by omega) ⟨by omega, by omega⟩ ?_
              have hj119 : ∀ (lb : Bool), lb = decide ((S 1 + 1) % S 4 = 0 ∧ goC S i = 0 ∧ goF S i = 0) → V x 0 0 T M1 Ml 119 [some (.ref Y), some (.int (nI i)), none] [.int (bI lb)] := by
                intro lb hlb
                refine jv_istore_n h dX12_goesOn_119 (lt_nl hnl (by decide)) ?_
                refine jv_aload_n h dX12_goesOn_120 rfl ?_
                refine jv_gr 0 h dX12_goesOn_121 cf_11 (by decide) gw_900 (by assumption) (by assumption) ?_
                refine jv_bipush (nI 18) h dX12_goesOn_124 (by decide) ?_
                refine jv_bipush (nI 6) h dX12_goesOn_126 (by decide) ?_
                refine jv_iload_n h dX12_goesOn_128 rfl ?_
                first | refine jv_imulN h dX12_goesOn_129 (by repeat (with_reducible first | exact NF_nI _ | assumption | refine NF_add ?_ ?_ | refine NF_mul ?_ ?_)) (by repeat (with_reducible first | exact NF_nI _ | assumption | refine NF_add ?_ ?_ | refine NF_mul ?_ ?_)) ?_ | refine jv_imul h dX12_goesOn_129 ?_
                first | refine jv_iaddN h dX12_goesOn_130 (by repeat (with_reducible first | exact NF_nI _ | assumption | refine NF_add ?_ ?_ | refine NF_mul ?_ ?_)) (by repeat (with_reducible first | exact NF_nI _ | assumption | refine NF_add ?_ ?_ | refine NF_mul ?_ ?_)) ?_ | refine jv_iadd h dX12_goesOn_130 ?_
                refine jv_iconst (nI 5) h dX12_goesOn_131 (by decide) ?_
                first | refine jv_iaddN h dX12_goesOn_132 (by repeat (with_reducible first | exact NF_nI _ | assumption | refine NF_add ?_ ?_ | refine NF_mul ?_ ?_)) (by repeat (with_reducible first | exact NF_nI _ | assumption | refine NF_add ?_ ?_ | refine NF_mul ?_ ?_)) ?_ | refine jv_iadd h dX12_goesOn_132 ?_
                refine jv_dup2 h dX12_goesOn_133 rfl rfl ?_
                refine jv_iav h dX12_goesOn_134 (by assumption) (by repeat (with_reducible first | exact NF_nI _ | assumption | refine NF_add ?_ ?_ | refine NF_mul ?_ ?_)) ⟨by omega, by decide⟩ (by first | assumption | exact f2.n0 | exact f2.n1 | exact f2.n2 | exact f2.n3 | exact f2.n4 | exact f2.n5 | exact f2.dy (by omega) | exact f2.p3 (by omega) | exact f2.p0 (by omega) | exact f2.p1 (by omega) | exact f2.p2 (by omega) | exact f2.p4 (by omega) | exact f2.p5 (by omega)) ?_
                refine jv_iload_n h dX12_goesOn_135 rfl ?_
                refine jv_beq 143 h dX12_goesOn_136 (by decide) (fun c136 => ?_) (fun c136 => ?_)
                · refine jv_iconst (nI 0) h dX12_goesOn_143 (by decide) ?_
                  first | refine jv_iaddN h dX12_goesOn_144 (by repeat (with_reducible first | exact NF_nI _ | assumption | refine NF_add ?_ ?_ | refine NF_mul ?_ ?_)) (by repeat (with_reducible first | exact NF_nI _ | assumption | refine NF_add ?_ ?_ | refine NF_mul ?_ ?_)) ?_ | refine jv_iadd h dX12_goesOn_144 ?_
                  refine jv_iast h dX12_goesOn_145 (by assumption) (by repeat (with_reducible first | exact NF_nI _ | assumption | refine NF_add ?_ ?_ | refine NF_mul ?_ ?_)) ⟨by omega, by decide⟩ ?_
                  refine jv_iinc (nI (i + 1)) h dX12_goesOn_146 rfl (lt_nl hnl (by decide)) (nI_inc i) ?_
                  refine jv_goto 70 h dX12_goesOn_149 (by decide) ?_
                  refine jv_forget3 ?_
                  first
                  | exact ih (i + 1) _ (by omega) (by omega) (fun a ha => by rw [upd2_row _ _ ha, f1 a ha]) (hset _ (by unfold goL; rw [kl, if_pos (by simpa [c136] using hlb)]))
                  | exact ih (i + 1) _ (by omega) (by omega) (fun a ha => by rw [upd2_row _ _ ha, f1 a ha]) (hset _ (by unfold goL; rw [kl, if_neg (by simpa [c136] using hlb)]))
                · refine jv_iconst (nI 1) h dX12_goesOn_139 (by decide) ?_
                  refine jv_goto 144 h dX12_goesOn_140 (by decide) ?_
                  first | refine jv_iaddN h dX12_goesOn_144 (by repeat (with_reducible first | exact NF_nI _ | assumption | refine NF_add ?_ ?_ | refine NF_mul ?_ ?_)) (by repeat (with_reducible first | exact NF_nI _ | assumption | refine NF_add ?_ ?_ | refine NF_mul ?_ ?_)) ?_ | refine jv_iadd h dX12_goesOn_144 ?_
                  refine jv_iast h dX12_goesOn_145 (by assumption) (by repeat (with_reducible first | exact NF_nI _ | assumption | refine NF_add ?_ ?_ | refine NF_mul ?_ ?_)) ⟨by omega, by decide⟩ ?_
                  refine jv_iinc (nI (i + 1)) h dX12_goesOn_146 rfl (lt_nl hnl (by decide)) (nI_inc i) ?_
                  refine jv_goto 70 h dX12_goesOn_149 (by decide) ?_
                  refine jv_forget3 ?_
                  first
                  | exact ih (i + 1) _ (by omega) (by omega) (fun a ha => by rw [upd2_row _ _ ha, f1 a ha]) (hset _ (by unfold goL; rw [kl, if_pos (by simpa [c136] using hlb)]))
                  | exact ih (i + 1) _ (by omega) (by omega) (fun a ha => by rw [upd2_row _ _ ha, f1 a ha]) (hset _ (by unfold goL; rw [kl, if_neg (by simpa [c136] using hlb)]))
              refine jv_zne 118 h dX12_goesOn_93 (by decide) (by repeat (with_reducible first | exact NF_nI _ | assumption | refine NF_add ?_ ?_ | refine NF_mul ?_ ?_)) (by omega) (fun c93 => ?_) (fun c93 => ?_)
              · refine jv_iconst (nI 0) h dX12_goesOn_118 (by decide) ?_
                first
                | (refine hj119 true ?_; rw [k1, k4] at c93; rw [kc] at c102; rw [kf] at c111; simp at c102; simp [c93, c102, c111])
                | (refine hj119 false ?_; rw [k1, k4] at c93; rw [kc] at c102; rw [kf] at c111; simp; intros; assumption)
                | (refine hj119 false ?_; rw [k1, k4] at c93; rw [kc] at c102; simp; intro q1 q2; exact absurd q2 c102)
                | (refine hj119 false ?_; rw [k1, k4] at c93; simp; intro q1; exact absurd q1 c93)
              · refine jv_aload_n h dX12_goesOn_96 rfl ?_
                refine jv_iload_n h dX12_goesOn_97 rfl ?_
                refine jv_iconst (nI 3) h dX12_goesOn_98 (by decide) ?_
                refine jv_VRi [_, _] h dX12_goesOn_99 cw_X12_54 cf_11 (by assumption) (cm_told hM (NF_nI _) (NF_nI _) (by omega) (f2.p3 (by omega))) (by decide) rfl rfl (Nat.le_of_ble_eq_true rfl) ⟨Nat.zero_le _, Nat.zero_le _⟩ ?_
                refine jv_if_ge 118 h dX12_goesOn_102 (by decide) (fun c102 => ?_) (fun c102 => ?_)
                · rw [i32_le0, carI_neg (by omega)] at c102
                  refine jv_iconst (nI 0) h dX12_goesOn_118 (by decide) ?_
                  first
                  | (refine hj119 true ?_; rw [k1, k4] at c93; rw [kc] at c102; rw [kf] at c111; simp at c102; simp [c93, c102, c111])
                  | (refine hj119 false ?_; rw [k1, k4] at c93; rw [kc] at c102; rw [kf] at c111; simp; intros; assumption)
                  | (refine hj119 false ?_; rw [k1, k4] at c93; rw [kc] at c102; simp; intro q1 q2; exact absurd q2 c102)
                  | (refine hj119 false ?_; rw [k1, k4] at c93; simp; intro q1; exact absurd q1 c93)
                · rw [i32_le0, carI_neg (by omega)] at c102
                  refine jv_aload_n h dX12_goesOn_105 rfl ?_
                  refine jv_iload_n h dX12_goesOn_106 rfl ?_
                  refine jv_iconst (nI 2) h dX12_goesOn_107 (by decide) ?_
                  refine jv_VRi [_, _] h dX12_goesOn_108 cw_X12_54 cf_11 (by assumption) (cm_told hM (NF_nI _) (NF_nI _) (by omega) (f2.p2 (by omega))) (by decide) rfl rfl (Nat.le_of_ble_eq_true rfl) ⟨Nat.zero_le _, Nat.zero_le _⟩ ?_
                  refine jv_zne 118 h dX12_goesOn_111 (by decide) (by repeat (with_reducible first | exact NF_nI _ | assumption | refine NF_add ?_ ?_ | refine NF_mul ?_ ?_)) (by omega) (fun c111 => ?_) (fun c111 => ?_)
                  · refine jv_iconst (nI 0) h dX12_goesOn_118 (by decide) ?_
                    first
                    | (refine hj119 true ?_; rw [k1, k4] at c93; rw [kc] at c102; rw [kf] at c111; simp at c102; simp [c93, c102, c111])
                    | (refine hj119 false ?_; rw [k1, k4] at c93; rw [kc] at c102; rw [kf] at c111; simp; intros; assumption)
                    | (refine hj119 false ?_; rw [k1, k4] at c93; rw [kc] at c102; simp; intro q1 q2; exact absurd q2 c102)
                    | (refine hj119 false ?_; rw [k1, k4] at c93; simp; intro q1; exact absurd q1 c93)
                  · refine jv_iconst (nI 1) h dX12_goesOn_114 (by decide) ?_
                    refine jv_goto 119 h dX12_goesOn_115 (by decide) ?_
                    first
                    | (refine hj119 true ?_; rw [k1, k4] at c93; rw [kc] at c102; rw [kf] at c111; simp at c102; simp [c93, c102, c111])
                    | (refine hj119 false ?_; rw [k1, k4] at c93; rw [kc] at c102; rw [kf] at c111; simp; intros; assumption)
                    | (refine hj119 false ?_; rw [k1, k4] at c93; rw [kc] at c102; simp; intro q1 q2; exact absurd q2 c102)
                    | (refine hj119 false ?_; rw [k1, k4] at c93; simp; intro q1; exact absurd q1 c93)
        refine jv_forget3 ?_
        exact hl70 (S 0 + 1) 0 _ (by omega) (by omega) f1 (f2.cg (fun k _ => lcS_o (by omega)))
      · have ht0 : tuS S i 0 = S 0 := tuS_lo (by decide) (by decide)
        have ht1 : tuS S i 1 = S 1 + 1 := rfl
        have ht2 : tuS S i 2 = S 2 := tuS_lo (by decide) (by decide)
        have hiS : i < S 0 := by omega
        have w7i := w7 i hiS
        have hg9 := tuS_WF hW h1 i (by omega)
        have hc0 : tuS S i (21 + 6 * i) = S (21 + 6 * i) := tuS_hi (by omega)
        have hk0 : tuS S i (18 + 6 * i) = S (18 + 6 * i) := tuS_hi (by omega)
        have hpl := plN_lt (h := S 2) (c := S (21 + 6 * i) - 1) (s := S 1 + 1) (by omega)
        have hpl' := plN_lt (h := tuS S i 2) (c := tuS S i (21 + 6 * i) - 1) (s := tuS S i 1) (by omega)
        refine jv_aload_n h dX12_goesOn_22 rfl ?_
        refine jv_iload_n h dX12_goesOn_23 rfl ?_
        refine jv_iconst (nI 3) h dX12_goesOn_24 (by decide) ?_
        refine jv_VRi [_, _] h dX12_goesOn_25 cw_X12_54 cf_11 (by assumption) (cm_told hM (NF_nI _) (NF_nI _) (by omega) (f2.p3 (by omega))) (by decide) rfl rfl (Nat.le_of_ble_eq_true rfl) ⟨Nat.zero_le _, Nat.zero_le _⟩ ?_
        refine jv_istore_n h dX12_goesOn_28 (lt_nl hnl (by decide)) ?_
        refine jv_iload_n h dX12_goesOn_29 rfl ?_
        refine jv_if_lt 62 h dX12_goesOn_30 (by decide) (fun c30 => ?_) (fun c30 => ?_)
        · rw [carI_neg (by omega)] at c30
          have htn : tnB S i = false := by unfold tnB; rw [← hc0, c30]; rfl
          refine jv_iinc (nI (i + 1)) h dX12_goesOn_62 rfl (lt_nl hnl (by decide)) (nI_inc i) ?_
          refine jv_goto 12 h dX12_goesOn_65 (by decide) ?_
          refine jv_forget3 ?_
          first
          | (have hm9 := hp59.1
             subst hm9
             exact ih (i + 1) _ (by omega) (by omega) (fun a ha => by rw [hp59.2.1 a ha, f1 a ha]) (hp59.2.2.cg (fun k _ => tuS_ou htn (by omega) k)))
          | exact ih (i + 1) _ (by omega) (by omega) f1 (f2.cg (fun k _ => tuS_st htn k))
        · rw [carI_neg (by omega)] at c30
          have hcN : NF (carI (tuS S i (21 + 6 * i))) (tuS S i (21 + 6 * i) - 1) := by unfold NF carI; rw [if_neg c30]
          refine jv_aload_n h dX12_goesOn_33 rfl ?_
          refine jv_aload_n h dX12_goesOn_34 rfl ?_
          refine jv_iload_n h dX12_goesOn_35 rfl ?_
          refine jv_iconst (nI 0) h dX12_goesOn_36 (by decide) ?_
          refine jv_VRi [_, _] h dX12_goesOn_37 cw_X12_54 cf_11 (by assumption) (cm_told hM (NF_nI _) (NF_nI _) (by omega) (f2.p0 (by omega))) (by decide) rfl rfl (Nat.le_of_ble_eq_true rfl) ⟨Nat.zero_le _, Nat.zero_le _⟩ ?_
          refine jv_aload_n h dX12_goesOn_40 rfl ?_
          refine jv_iload_n h dX12_goesOn_41 rfl ?_
          refine jv_aload_n h dX12_goesOn_42 rfl ?_
          refine jv_gr 0 h dX12_goesOn_43 cf_11 (by decide) gw_900 (by assumption) (by assumption) ?_
          refine jv_iconst (nI 1) h dX12_goesOn_46 (by decide) ?_
          refine jv_iav h dX12_goesOn_47 (by assumption) (by repeat (with_reducible first | exact NF_nI _ | assumption | refine NF_add ?_ ?_ | refine NF_mul ?_ ?_)) ⟨by omega, by decide⟩ (by first | assumption | exact f2.n0 | exact f2.n1 | exact f2.n2 | exact f2.n3 | exact f2.n4 | exact f2.n5 | exact f2.dy (by omega) | exact f2.p3 (by omega) | exact f2.p0 (by omega) | exact f2.p1 (by omega) | exact f2.p2 (by omega) | exact f2.p4 (by omega) | exact f2.p5 (by omega)) ?_
          refine jv_VRi [_, _] h dX12_goesOn_48 cw_X12_86 cf_11 (by assumption) (cm_placeOf hM f2 hg9 hcN (NF_nI _) (by omega)) (by decide) rfl rfl (Nat.le_of_ble_eq_true rfl) ⟨Nat.zero_le _, Nat.zero_le _⟩ ?_
          refine jv_VRi [_, _] h dX12_goesOn_51 cw_X12_154 cf_11 (by assumption) (cm_isTurned hM f2 hg9 (NF_nI _) (NF_nI _) (by omega)) (by decide) rfl rfl (Nat.le_of_ble_eq_true rfl) ⟨Nat.zero_le _, Nat.zero_le _⟩ ?_
          refine jv_beq 62 h dX12_goesOn_54 (by decide) (fun c54 => ?_) (fun c54 => ?_)
          · have htn : tnB S i = false := by rw [hc0, hk0, ht1, ht2] at c54; unfold tnB; rw [c54]; simp
            refine jv_iinc (nI (i + 1)) h dX12_goesOn_62 rfl (lt_nl hnl (by decide)) (nI_inc i) ?_
            refine jv_goto 12 h dX12_goesOn_65 (by decide) ?_
            refine jv_forget3 ?_
            first
            | (have hm9 := hp59.1
               subst hm9
               exact ih (i + 1) _ (by omega) (by omega) (fun a ha => by rw [hp59.2.1 a ha, f1 a ha]) (hp59.2.2.cg (fun k _ => tuS_ou htn (by omega) k)))
            | exact ih (i + 1) _ (by omega) (by omega) f1 (f2.cg (fun k _ => tuS_st htn k))
          · have htn : tnB S i = true := by rw [hc0, hk0, ht1, ht2] at c54; rw [hc0] at c30; unfold tnB; rw [c54]; simp [c30]
            refine jv_aload_n h dX12_goesOn_57 rfl ?_
            refine jv_iload_n h dX12_goesOn_58 rfl ?_
            refine jv_VGv [_] h dX12_goesOn_59 cw_X12_151 cf_11 (by assumption) (cm_getsOut hM f2 hg9 (NF_nI _) (by omega) c30) (by decide) rfl rfl (Nat.le_of_ble_eq_true rfl) ⟨Nat.zero_le _, Nat.zero_le _⟩ (fun Mi59 Ml59 hp59 => ?_)
            refine jv_iinc (nI (i + 1)) h dX12_goesOn_62 rfl (lt_nl hnl (by decide)) (nI_inc i) ?_
            refine jv_goto 12 h dX12_goesOn_65 (by decide) ?_
            refine jv_forget3 ?_
            first
            | (have hm9 := hp59.1
               subst hm9
               exact ih (i + 1) _ (by omega) (by omega) (fun a ha => by rw [hp59.2.1 a ha, f1 a ha]) (hp59.2.2.cg (fun k _ => tuS_ou htn (by omega) k)))
            | exact ih (i + 1) _ (by omega) (by omega) f1 (f2.cg (fun k _ => tuS_st htn k))
  refine hl12 (S 0 + 1) 0 _ (by omega) (by omega) (fun a ha => upd2_row _ _ ha) ?_
  have h9 := hN.set (j := 1) (w := S 1 + 1) (v := nI (S 1 + 1)) (by rw [eN_lo (by decide)])
  exact h9.cg (fun k hk => by
    by_cases h : k = 1
    · subst h; rw [setS_s]; rfl
    · rw [setS_o h]
      by_cases h18 : k < 18
      · exact tuS_lo h18 h
      · exact tuS_hi (by omega))
