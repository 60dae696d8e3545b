set_option maxHeartbeats 4000000 in
set_option maxRecDepth 100000 in
theorem cm_block {g : GT} {T : TT} {Mi : MI} {Ml : ML} {Y : Nat} {S : Nat → Nat} (hM : ModS g T Y) (hN : NowR Mi (Y + 1) S) (hW : WF S) {ln : Nat} {t : Nat → Nat} (hT : MTR Mi Y t ln) (hA : TA t ln) : Ct g yX12_block cX12_block 4 (some .int) 4 0 0 [.ref Y] T Mi Ml (Gi T (fun rv Mi' Ml' => rv = (sp_block t ln S).1 ∧ Ml' = Ml ∧ (∀ a, a ≠ Y → a ≠ Y + 1 → a ≠ Y + 3 → a ≠ Y + 4 → Mi' a = Mi a) ∧ (∀ q, q ≠ 2 → q ≠ 3 → q ≠ 4 → q ≠ 8 → Mi' Y q = Mi Y q) ∧ Mi' Y 2 = nI 0 ∧ ((sp_block t ln S).2 = none → Mi' (Y + 1) = Mi (Y + 1) ∧ Mi' Y 8 = Mi Y 8) ∧ ∀ S', (sp_block t ln S).2 = some S' → NowR Mi' (Y + 1) S' ∧ Mi' Y 8 = nI 0)) := by
  refine Ct.of' (plainFor_of_name (by decide +kernel)) (by exact Nat.le_of_ble_eq_true rfl) ?_
  intro x hg hR h hr hnm hnl
  subst hg
  obtain ⟨hY, ⟨r0, a0⟩, ⟨r1, a1⟩, ⟨r5, a5⟩, ⟨r6, a6⟩, ⟨r7, a7⟩, ⟨r9, a9⟩, ⟨r12, a12⟩, ⟨r13, a13⟩, ⟨r14, a14⟩, ⟨r15, a15⟩, r16, a16⟩ := id hM
  obtain ⟨w0, w1, w2, w3, w4, w5, w6, w7⟩ := id hW
  obtain ⟨t1, t2⟩ := id hT
  obtain ⟨n1, n2⟩ := id hA
  refine jv_aload_n h dX12_block_0 rfl ?_
  refine jv_iconst (nI 0) h dX12_block_1 (by decide) ?_
  refine jv_pi 3 h dX12_block_2 cf_11 (by decide) gw_903 (by assumption) rfl rfl rfl ?_
  refine jv_aload_n h dX12_block_5 rfl ?_
  refine jv_iconst (nI 0) h dX12_block_6 (by decide) ?_
  refine jv_pi 4 h dX12_block_7 cf_11 (by decide) gw_904 (by assumption) rfl rfl rfl ?_
  have G0 : FrC Mi (upd2 (upd2 Mi Y 3 (nI 0)) Y 4 (nI 0)) Y := (FrC.rf _ _).p3.p4
  have C0 : MCu (upd2 (upd2 Mi Y 3 (nI 0)) Y 4 (nI 0)) Y 0 false := ⟨(upd2_ne _ _ (by omega)).trans (upd2_same _ _ _ _), upd2_same _ _ _ _⟩
  have hj129 : ∀ (M2 : MI) (v c : Int32) (P : Nat) (fl : Bool), FrB Mi M2 Y → MCu M2 Y P fl → fl = (!(blP t ln D0 Q0).1) → P = (blP t ln D0 Q0).2.1 → (fl = false → v = nI (blP t ln D0 Q0).2.2.1 ∧ c = nI ((blP t ln D0 Q0).2.2.2.2 0) ∧ (∀ k, k < 2 * (blP t ln D0 Q0).2.2.1 → M2 (Y + 3) k = nI ((blP t ln D0 Q0).2.2.2.1 k)) ∧ RdP M2 Y (blP t ln D0 Q0).2.2.2.2) → V x 0 0 T M2 Ml 129 [some (.ref Y), some (.int v), some (.int c), none] [] := by
    intro M2 v c P fl F2 C2 hfl hP hok
    obtain ⟨m3, m4⟩ := id C2
    have m4x : upd2 M2 Y 2 (nI 0) Y 4 = bI fl := (upd2_ne _ _ (by omega)).trans m4
    have m3x : upd2 M2 Y 2 (nI 0) Y 3 = nI P := (upd2_ne _ _ (by omega)).trans m3
    refine jv_aload_n h dX12_block_129 rfl ?_
    refine jv_iconst (nI 0) h dX12_block_130 (by decide) ?_
    refine jv_pi 2 h dX12_block_131 cf_11 (by decide) gw_902 (by assumption) rfl rfl rfl ?_
    refine jv_aload_n h dX12_block_134 rfl ?_
    refine jv_gv 4 h dX12_block_135 cf_11 (by decide) gw_904 (by assumption) (by exact m4x) ?_
    refine jv_beq 149 h dX12_block_138 (by decide) (fun c138 => ?_) (fun c138 => ?_)
    · have hb1 : (blP t ln D0 Q0).1 = true := by rw [c138] at hfl; cases hz : (blP t ln D0 Q0).1 with | true => rfl | false => rw [hz] at hfl; cases hfl
      obtain ⟨ho1, ho2, ho3, ho4⟩ := hok c138
      subst ho1
      subst ho2
      obtain ⟨bt1, bt2, bt3, bt4, bt5⟩ := blP_t hb1
      obtain ⟨hb, hhb⟩ : ∃ z, z = (blP t ln D0 Q0).2.2.1 := ⟨_, rfl⟩
      obtain ⟨Db, hDb⟩ : ∃ z, z = (blP t ln D0 Q0).2.2.2.1 := ⟨_, rfl⟩
      obtain ⟨Qb, hQb⟩ : ∃ z, z = (blP t ln D0 Q0).2.2.2.2 := ⟨_, rfl⟩
      have hspb : sp_block t ln S = (nI (Qb 0), some (rbS S hb Db Qb)) := (by unfold sp_block; rw [if_pos hb1, hhb, hDb, hQb])
      rw [← hhb, ← hDb] at ho3
      rw [← hhb] at bt1
      rw [← hhb, ← hDb] at bt2
      rw [← hhb, ← hQb] at bt3
      rw [← hQb] at ho4
      rw [← hhb, ← hQb]
      have hN2 : NowR (upd2 M2 Y 2 (nI 0)) (Y + 1) S := hN.fr ((upd2_row _ _ (by omega)).trans (F2.1 _ (by omega) (by omega) (by omega)))
      have q6 := bt3.1
      refine jv_aload_n h dX12_block_149 rfl ?_
      refine jv_gr 0 h dX12_block_150 cf_11 (by decide) gw_900 (by assumption) (by assumption) ?_
      refine jv_iconst (nI 2) h dX12_block_153 (by decide) ?_
      refine jv_iload_n h dX12_block_154 rfl ?_
      refine jv_iast h dX12_block_155 (by assumption) (by repeat (with_reducible first | exact NF_nI _ | assumption | refine NF_add ?_ ?_ | refine NF_mul ?_ ?_)) ⟨by omega, by decide⟩ ?_
      refine jv_aload_n h dX12_block_156 rfl ?_
      refine jv_gr 0 h dX12_block_157 cf_11 (by decide) gw_900 (by assumption) (by assumption) ?_
      refine jv_iconst (nI 1) h dX12_block_160 (by decide) ?_
      refine jv_iconst (nI 0) h dX12_block_161 (by decide) ?_
      refine jv_iast h dX12_block_162 (by assumption) (by repeat (with_reducible first | exact NF_nI _ | assumption | refine NF_add ?_ ?_ | refine NF_mul ?_ ?_)) ⟨by omega, by decide⟩ ?_
      refine jv_aload_n h dX12_block_163 rfl ?_
      refine jv_gr 0 h dX12_block_164 cf_11 (by decide) gw_900 (by assumption) (by assumption) ?_
      refine jv_iconst (nI 0) h dX12_block_167 (by decide) ?_
      refine jv_iconst (nI 0) h dX12_block_168 (by decide) ?_
      refine jv_iast h dX12_block_169 (by assumption) (by repeat (with_reducible first | exact NF_nI _ | assumption | refine NF_add ?_ ?_ | refine NF_mul ?_ ?_)) ⟨by omega, by decide⟩ ?_
      refine jv_iconst (nI 0) h dX12_block_170 (by decide) ?_
      refine jv_istore_n h dX12_block_171 (lt_nl hnl (by decide)) ?_
      have hl172 : ∀ (n : Nat) (i : Nat) (M3 : MI), 12 - i < n → i ≤ 2 * hb → (∀ a, a ≠ Y + 1 → M3 a = upd2 M2 Y 2 (nI 0) a) → NowR M3 (Y + 1) (dS0 S hb i Db) → V x 0 0 T M3 Ml 172 [some (.ref Y), some (.int (nI hb)), some (.int (nI (Qb 0))), some (.int (nI i))] [] := by
        intro n
        induction n with
        | zero => intro i M3 hN9 hi f1 f2; exact absurd hN9 (by omega)
        | succ n ih =>
          intro i M3 hN9 hi f1 f2
          refine jv_iload_n h dX12_block_172 rfl ?_
          refine jv_iconst (nI 2) h dX12_block_173 (by decide) ?_
          refine jv_iload_n h dX12_block_174 rfl ?_
          first | refine jv_imulN h dX12_block_175 (by repeat (with_reducible first | exact NF_nI _ | assumption | refine NF_add ?_ ?_ | refine NF_mul ?_ ?_)) (by repeat (with_reducible first | exact NF_nI _ | assumption | refine NF_add ?_ ?_ | refine NF_mul ?_ ?_)) ?_ | refine jv_imul h dX12_block_175 ?_
          refine jv_nge 200 h dX12_block_176 (by decide) (by repeat (with_reducible first | exact NF_nI _ | assumption | refine NF_add ?_ ?_ | refine NF_mul ?_ ?_)) (by repeat (with_reducible first | exact NF_nI _ | assumption | refine NF_add ?_ ?_ | refine NF_mul ?_ ?_)) ⟨by omega, by omega⟩ (fun c176 => ?_) (fun c176 => ?_)
          · refine jv_iconst (nI 0) h dX12_block_200 (by decide) ?_
            refine jv_istore_n h dX12_block_201 (lt_nl hnl (by decide)) ?_
            have hl202 : ∀ (n : Nat) (i : Nat) (M4 : MI), 7 - i < n → i ≤ Qb 0 → (∀ a, a ≠ Y → a ≠ Y + 1 → a ≠ Y + 3 → a ≠ Y + 4 → M4 a = Mi a) → (∀ q, q ≠ 2 → q ≠ 3 → q ≠ 4 → q ≠ 8 → M4 Y q = Mi Y q) → NowR M4 (Y + 1) (rbS S hb Db (setS Qb 0 i)) → M4 Y 2 = nI 0 → M4 (Y + 4) = M2 (Y + 4) → V x 0 0 T M4 Ml 202 [some (.ref Y), some (.int (nI hb)), some (.int (nI (Qb 0))), some (.int (nI i))] [] := by
              intro n
              induction n with
              | zero => intro i M4 hN9 hi f1 f2 f3 f4 f5; exact absurd hN9 (by omega)
              | succ n ih =>
                intro i M4 hN9 hi f1 f2 f3 f4 f5
                refine jv_iload_n h dX12_block_202 rfl ?_
                refine jv_iload_n h dX12_block_203 rfl ?_
                refine jv_nge 255 h dX12_block_204 (by decide) (by repeat (with_reducible first | exact NF_nI _ | assumption | refine NF_add ?_ ?_ | refine NF_mul ?_ ?_)) (by repeat (with_reducible first | exact NF_nI _ | assumption | refine NF_add ?_ ?_ | refine NF_mul ?_ ?_)) ⟨by omega, by omega⟩ (fun c204 => ?_) (fun c204 => ?_)
                · refine jv_aload_n h dX12_block_255 rfl ?_
                  refine jv_iconst (nI 0) h dX12_block_256 (by decide) ?_
                  refine jv_pi 8 h dX12_block_257 cf_11 (by decide) gw_908 (by assumption) rfl rfl rfl ?_
                  refine jv_iload_n h dX12_block_260 rfl ?_
                  exact jv_iret h hr dX12_block_261 ⟨_, rfl, rfl, by
    rw [hspb]
    obtain rfl : i = Qb 0 := by omega
    rw [setS_id] at f3
    refine ⟨rfl, rfl, fun a h1 h2 h3 h4 => by rw [upd2_row _ _ h1]; exact f1 a h1 h2 h3 h4, fun q h1 h2 h3 h4 => by rw [upd2_ne _ _ (by omega)]; exact f2 q h1 h2 h3 h4, by rw [upd2_ne _ _ (by omega)]; exact f4, (fun z => by cases z), fun S' z => ?_⟩
    cases z
    exact ⟨f3.fr (upd2_row _ _ (by omega)), upd2_same _ _ _ _⟩⟩
                · obtain ⟨z1, z2, z3, z4⟩ := ho4 i (by omega)
                  have e4 : M4 (Y + 4) = M2 (Y + 4) := f5
                  rw [← e4] at z1 z2 z3 z4
                  have hWi := rbS_WF (S := S) (D := Db) hW bt1 bt2 (bt3.cut (show i ≤ Qb 0 by omega))
                  have hN9x := f3
                  refine jv_aload_n h dX12_block_207 rfl ?_
                  refine jv_aload_n h dX12_block_208 rfl ?_
                  refine jv_gr 6 h dX12_block_209 cf_11 (by decide) gw_906 (by assumption) (by assumption) ?_
                  refine jv_iconst (nI 4) h dX12_block_212 (by decide) ?_
                  refine jv_iload_n h dX12_block_213 rfl ?_
                  first | refine jv_imulN h dX12_block_214 (by repeat (with_reducible first | exact NF_nI _ | assumption | refine NF_add ?_ ?_ | refine NF_mul ?_ ?_)) (by repeat (with_reducible first | exact NF_nI _ | assumption | refine NF_add ?_ ?_ | refine NF_mul ?_ ?_)) ?_ | refine jv_imul h dX12_block_214 ?_
                  refine jv_iav h dX12_block_215 (by assumption) (by repeat (with_reducible first | exact NF_nI _ | assumption | refine NF_add ?_ ?_ | refine NF_mul ?_ ?_)) ⟨by omega, by decide⟩ (by exact z1) ?_
                  refine jv_aload_n h dX12_block_216 rfl ?_
                  refine jv_gr 6 h dX12_block_217 cf_11 (by decide) gw_906 (by assumption) (by assumption) ?_
                  refine jv_iconst (nI 4) h dX12_block_220 (by decide) ?_
                  refine jv_iload_n h dX12_block_221 rfl ?_
                  first | refine jv_imulN h dX12_block_222 (by repeat (with_reducible first | exact NF_nI _ | assumption | refine NF_add ?_ ?_ | refine NF_mul ?_ ?_)) (by repeat (with_reducible first | exact NF_nI _ | assumption | refine NF_add ?_ ?_ | refine NF_mul ?_ ?_)) ?_ | refine jv_imul h dX12_block_222 ?_
                  refine jv_iconst (nI 1) h dX12_block_223 (by decide) ?_
                  first | refine jv_iaddN h dX12_block_224 (by repeat (with_reducible first | exact NF_nI _ | assumption | refine NF_add ?_ ?_ | refine NF_mul ?_ ?_)) (by repeat (with_reducible first | exact NF_nI _ | assumption | refine NF_add ?_ ?_ | refine NF_mul ?_ ?_)) ?_ | refine jv_iadd h dX12_block_224 ?_
                  refine jv_iav h dX12_block_225 (by assumption) (by repeat (with_reducible first | exact NF_nI _ | assumption | refine NF_add ?_ ?_ | refine NF_mul ?_ ?_)) ⟨by omega, by decide⟩ (by exact z2) ?_
                  refine jv_aload_n h dX12_block_226 rfl ?_
                  refine jv_gr 6 h dX12_block_227 cf_11 (by decide) gw_906 (by assumption) (by assumption) ?_
                  refine jv_iconst (nI 4) h dX12_block_230 (by decide) ?_
                  refine jv_iload_n h dX12_block_231 rfl ?_
                  first | refine jv_imulN h dX12_block_232 (by repeat (with_reducible first | exact NF_nI _ | assumption | refine NF_add ?_ ?_ | refine NF_mul ?_ ?_)) (by repeat (with_reducible first | exact NF_nI _ | assumption | refine NF_add ?_ ?_ | refine NF_mul ?_ ?_)) ?_ | refine jv_imul h dX12_block_232 ?_
                  refine jv_iconst (nI 2) h dX12_block_233 (by decide) ?_
                  first | refine jv_iaddN h dX12_block_234 (by repeat (with_reducible first | exact NF_nI _ | assumption | refine NF_add ?_ ?_ | refine NF_mul ?_ ?_)) (by repeat (with_reducible first | exact NF_nI _ | assumption | refine NF_add ?_ ?_ | refine NF_mul ?_ ?_)) ?_ | refine jv_iadd h dX12_block_234 ?_
                  refine jv_iav h dX12_block_235 (by assumption) (by repeat (with_reducible first | exact NF_nI _ | assumption | refine NF_add ?_ ?_ | refine NF_mul ?_ ?_)) ⟨by omega, by decide⟩ (by exact z3) ?_
                  refine jv_aload_n h dX12_block_236 rfl ?_
                  refine jv_gr 6 h dX12_block_237 cf_11 (by decide) gw_906 (by assumption) (by assumption) ?_
                  refine jv_iconst (nI 4) h dX12_block_240 (by decide) ?_
                  refine jv_iload_n h dX12_block_241 rfl ?_
                  first | refine jv_imulN h dX12_block_242 (by repeat (with_reducible first | exact NF_nI _ | assumption | refine NF_add ?_ ?_ | refine NF_mul ?_ ?_)) (by repeat (with_reducible first | exact NF_nI _ | assumption | refine NF_add ?_ ?_ | refine NF_mul ?_ ?_)) ?_ | refine jv_imul h dX12_block_242 ?_
                  refine jv_iconst (nI 3) h dX12_block_243 (by decide) ?_
                  first | refine jv_iaddN h dX12_block_244 (by repeat (with_reducible first | exact NF_nI _ | assumption | refine NF_add ?_ ?_ | refine NF_mul ?_ ?_)) (by repeat (with_reducible first | exact NF_nI _ | assumption | refine NF_add ?_ ?_ | refine NF_mul ?_ ?_)) ?_ | refine jv_iadd h dX12_block_244 ?_
                  refine jv_iav h dX12_block_245 (by assumption) (by repeat (with_reducible first | exact NF_nI _ | assumption | refine NF_add ?_ ?_ | refine NF_mul ?_ ?_)) ⟨by omega, by decide⟩ (by exact z4) ?_
                  refine jv_VGv [_, _, _, _] h dX12_block_246 cw_X12_77 cf_11 (by assumption) (cm_comesIn hM hN9x hWi (NF_nI _) (NF_nI _) (NF_nI _) (NF_nI _) (by rw [rbS_0, setS_s]; omega)) (by decide) rfl rfl (Nat.le_of_ble_eq_true rfl) ⟨Nat.zero_le _, Nat.zero_le _⟩ (fun Mi246 Ml246 hp246 => ?_)
                  refine jv_iinc (nI (i + 1)) h dX12_block_249 rfl (lt_nl hnl (by decide)) (nI_inc i) ?_
                  refine jv_goto 202 h dX12_block_252 (by decide) ?_
                  have hm9 := hp246.1
                  subst Ml246
                  obtain ⟨-, w1, w2, w3, w4⟩ := hp246
                  exact ih (i + 1) _ (by omega) (by omega) (fun a h1 h2 h3 h4 => by rw [w1 a h2 h1]; exact f1 a h1 h2 h3 h4) (fun q h1 h2 h3 h4 => by rw [w2 q h4]; exact f2 q h1 h2 h3 h4) (w4.cg (fun k _ => rbS_add bt3 (by omega) k)) (by rw [w2 2 (by decide)]; exact f4) (by rw [w1 _ (by omega) (by omega)]; exact f5)
            exact hl202 8 0 _ (by omega) (by omega) (fun a h1 h2 h3 h4 => by rw [f1 a h2, upd2_row _ _ h1]; exact F2.1 a h1 h3 h4) (fun q h1 h2 h3 h4 => by rw [f1 Y (by omega), upd2_ne _ _ (by omega)]; exact F2.2 q h2 h3) (f2.cg (fun k _ => by rw [dS0_r bt1.2, show i = 2 * hb by omega])) (by rw [f1 Y (by omega), upd2_same]) (by rw [f1 _ (by omega), upd2_row _ _ (by omega)])
          · have f8 : M3 (Y + 3) i = nI (Db i) := by rw [f1 _ (by omega), upd2_row _ _ (by omega)]; exact ho3 i (by omega)
            refine jv_aload_n h dX12_block_179 rfl ?_
            refine jv_gr 0 h dX12_block_180 cf_11 (by decide) gw_900 (by assumption) (by assumption) ?_
            refine jv_bipush (nI 6) h dX12_block_183 (by decide) ?_
            refine jv_iload_n h dX12_block_185 rfl ?_
            first | refine jv_iaddN h dX12_block_186 (by repeat (with_reducible first | exact NF_nI _ | assumption | refine NF_add ?_ ?_ | refine NF_mul ?_ ?_)) (by repeat (with_reducible first | exact NF_nI _ | assumption | refine NF_add ?_ ?_ | refine NF_mul ?_ ?_)) ?_ | refine jv_iadd h dX12_block_186 ?_
            refine jv_aload_n h dX12_block_187 rfl ?_
            refine jv_gr 5 h dX12_block_188 cf_11 (by decide) gw_905 (by assumption) (by assumption) ?_
            refine jv_iload_n h dX12_block_191 rfl ?_
            refine jv_iav h dX12_block_192 (by assumption) (by repeat (with_reducible first | exact NF_nI _ | assumption | refine NF_add ?_ ?_ | refine NF_mul ?_ ?_)) ⟨by omega, by decide⟩ (by exact f8) ?_
            refine jv_iast h dX12_block_193 (by assumption) (by repeat (with_reducible first | exact NF_nI _ | assumption | refine NF_add ?_ ?_ | refine NF_mul ?_ ?_)) ⟨by omega, by decide⟩ ?_
            refine jv_iinc (nI (i + 1)) h dX12_block_194 rfl (lt_nl hnl (by decide)) (nI_inc i) ?_
            refine jv_goto 172 h dX12_block_197 (by decide) ?_
            exact ih (i + 1) _ (by omega) (by omega) (fun a ha => by rw [upd2_row _ _ ha]; exact f1 a ha) ((f2.set (j := 6 + i) (w := Db i) (by rw [eN_lo (by omega)])).cg (fun k hk => by
              by_cases hki : k = 6 + i
              · rw [hki, setS_s, dS0_a]
              · rw [setS_o hki, dS0_s hki]))
      refine hl172 13 0 _ (by omega) (by omega) (fun a ha => by rw [upd2_row _ _ ha, upd2_row _ _ ha, upd2_row _ _ ha]) ?_
      exact (((hN2.set (j := 2) (w := hb) (by rw [eN_lo (by omega)])).set (j := 1) (w := 0) (by rw [eN_lo (by omega)])).set (j := 0) (w := 0) (by rw [eN_lo (by omega)])).cg (fun k _ => dS0_0)
    · refine jv_bipush (-20) h dX12_block_141 (by decide) ?_
      refine jv_aload_n h dX12_block_143 rfl ?_
      refine jv_gv 3 h dX12_block_144 cf_11 (by decide) gw_903 (by assumption) (by exact m3x) ?_
      refine jv_isub h dX12_block_147 ?_
      exact jv_iret h hr dX12_block_148 ⟨_, rfl, rfl, by
    have hb1 : (blP t ln D0 Q0).1 = false := by rw [c138] at hfl; cases hz : (blP t ln D0 Q0).1 with | false => rfl | true => rw [hz] at hfl; cases hfl
    have e : sp_block t ln S = (-20 - nI (blP t ln D0 Q0).2.1, none) := (by unfold sp_block; rw [if_neg (by rw [hb1]; decide)])
    rw [e, hP]
    exact ⟨rfl, rfl, fun a h1 h2 h3 h4 => by rw [upd2_row _ _ h1]; exact F2.1 a h1 h3 h4, fun q h1 h2 h3 h4 => by rw [upd2_ne _ _ (by omega)]; exact F2.2 q h2 h3, upd2_same _ _ _ _, (fun _ => ⟨by rw [upd2_row _ _ (by omega)]; exact F2.1 _ (by omega) (by omega) (by omega), by rw [upd2_ne _ _ (by omega)]; exact F2.2 8 (by decide) (by decide)⟩), (fun S' z => by cases z)⟩⟩
  refine jv_aload_n h dX12_block_10 rfl ?_
  refine jv_iconst (nI 2) h dX12_block_11 (by decide) ?_
  refine jv_bipush (nI 6) h dX12_block_12 (by decide) ?_
  refine jv_VGi [_, _] h dX12_block_14 cw_X12_131 cf_11 (by assumption) (cm_digitG hM (hT.fr G0) hA C0 (Nat.zero_le _) (lo := 2) (hi := 7) (by decide) (by decide)) (by decide) rfl rfl (Nat.le_of_ble_eq_true rfl) ⟨Nat.zero_le _, Nat.zero_le _⟩ (fun v_14 Mi14 Ml14 hp14 => ?_)
  have hm9 := hp14.1
  subst Ml14
  obtain ⟨-, d1, k1, hv14⟩ := hp14
  replace k1 : MCu Mi14 Y (poB t ln 0 (dgB t ln 2 7 0)) (!dgB t ln 2 7 0) := k1
  replace hv14 := hv14 rfl
  refine jv_istore_n h dX12_block_17 (lt_nl hnl (by decide)) ?_
  refine jv_aload_n h dX12_block_18 rfl ?_
  refine jv_bipush (nI 59) h dX12_block_19 (by decide) ?_
  refine jv_VGv [_] h dX12_block_21 cw_X12_134 cf_11 (by assumption) (cm_takes hM ((hT.fr G0).fr d1) hA k1 (dg_le (Nat.zero_le _)) (NF_nI _) (by decide)) (by decide) rfl rfl (Nat.le_of_ble_eq_true rfl) ⟨Nat.zero_le _, Nat.zero_le _⟩ (fun Mi21 Ml21 hp21 => ?_)
  have hm9 := hp21.1
  subst Ml21
  obtain ⟨-, d2, k2⟩ := hp21
  obtain ⟨A2, hA2⟩ : ∃ z, z = (if ((!dgB t ln 2 7 0) || !tkB t ln 59 (poB t ln 0 (dgB t ln 2 7 0))) = true then sk t ln (poB t ln 0 (dgB t ln 2 7 0)) else sk t ln (poB t ln 0 (dgB t ln 2 7 0)) + 1) := ⟨_, rfl⟩
  obtain ⟨B2, hB2⟩ : ∃ z, z = ((!dgB t ln 2 7 0) || !tkB t ln 59 (poB t ln 0 (dgB t ln 2 7 0))) := ⟨_, rfl⟩
  rw [← hB2] at hA2
  rw [← hB2, ← hA2] at k2
  have F21 : FrB Mi Mi21 Y := ⟨fun a h1 _ _ => (G0.tr (d1.tr d2)).1 a h1, (G0.tr (d1.tr d2)).2⟩
  have hst : A2 ≤ ln ∧ (B2 = true → FLT t ln A2) ∧ (B2 = false → (dgB t ln 2 7 0 = true ∧ tkB t ln 59 (sk t ln 0 + 1) = true) ∧ A2 = sk t ln (sk t ln 0 + 1) + 1) := by
    cases h1 : dgB t ln 2 7 0 with
    | false =>
      have e1 : poB t ln 0 false = sk t ln 0 := dg_q rfl
      rw [h1, e1] at hA2 hB2
      have b : B2 = true := by rw [hB2]; rfl
      rw [if_pos b, sk_i (Nat.zero_le _)] at hA2
      exact ⟨by rw [hA2]; exact (sk_c (Nat.zero_le _)).2.1, fun _ => ⟨(bl_1 h1).1, by rw [(bl_1 h1).2, hA2], by rw [hA2, sk_i (Nat.zero_le _)]⟩, fun z => by rw [b] at z; cases z⟩
    | true =>
      have e1 : poB t ln 0 true = sk t ln 0 + 1 := dg_p rfl
      have q1 : sk t ln 0 + 1 ≤ ln := (dg_t h1).1
      rw [h1, e1] at hA2 hB2
      cases h2 : tkB t ln 59 (sk t ln 0 + 1) with
      | false =>
        have b : B2 = true := by rw [hB2, h2]; rfl
        rw [if_pos b] at hA2
        exact ⟨by rw [hA2]; exact (sk_c q1).2.1, fun _ => ⟨(bl_2 h1 h2).1, by rw [(bl_2 h1 h2).2, hA2], by rw [hA2, sk_i q1]⟩, fun z => by rw [b] at z; cases z⟩
      | true =>
        have b : B2 = false := by rw [hB2, h2]; rfl
        rw [b, if_neg (by decide)] at hA2
        exact ⟨by rw [hA2]; exact tk_t h2, (fun z => by rw [b] at z; cases z), fun _ => ⟨⟨rfl, rfl⟩, hA2⟩⟩
  obtain ⟨hA2l, hst1, hst2⟩ := hst
  have hj59 : ∀ (i p1 : Nat) (M1 : MI) (fl : Bool), p1 ≤ ln → FrB Mi M1 Y → MCu M1 Y p1 fl → (fl = true → FLT t ln p1) → (fl = false → (dgB t ln 2 7 0 = true ∧ tkB t ln 59 (sk t ln 0 + 1) = true) ∧ (dyX t ln).1 = true ∧ (dyX t ln).2.1 = p1 ∧ (∀ k, k < 2 * (dgV t ln 0) → M1 (Y + 3) k = nI ((dyX t ln).2.2 k))) → V x 0 0 T M1 Ml 59 [some (.ref Y), some (.int v_14), some (.int (nI i)), none] [] := by
    intro i p1 M1 fl hp1 f2 f3 f4 f5
    refine jv_aload_n h dX12_block_59 rfl ?_
    refine jv_bipush (nI 59) h dX12_block_60 (by decide) ?_
    refine jv_VGv [_] h dX12_block_62 cw_X12_134 cf_11 (by assumption) (cm_takes hM (hT.frB f2) hA f3 hp1 (NF_nI _) (by decide)) (by decide) rfl rfl (Nat.le_of_ble_eq_true rfl) ⟨Nat.zero_le _, Nat.zero_le _⟩ (fun Mi62 Ml62 hp62 => ?_)
    have hm9 := hp62.1
    subst Ml62
    obtain ⟨-, d4, k4⟩ := hp62
    obtain ⟨B3, hB3⟩ : ∃ z, z = (fl || !tkB t ln 59 p1) := ⟨_, rfl⟩
    obtain ⟨A3, hA3⟩ : ∃ z, z = (if B3 = true then sk t ln p1 else sk t ln p1 + 1) := ⟨_, rfl⟩
    rw [← hB3, ← hA3] at k4
    have hs : A3 ≤ ln ∧ (B3 = true → FLT t ln A3) ∧ (B3 = false → ((dgB t ln 2 7 0 = true ∧ tkB t ln 59 (sk t ln 0 + 1) = true) ∧ (dyX t ln).1 = true ∧ tkB t ln 59 (dyX t ln).2.1 = true) ∧ A3 = sk t ln (dyX t ln).2.1 + 1 ∧ (∀ k, k < 2 * (dgV t ln 0) → M1 (Y + 3) k = nI ((dyX t ln).2.2 k))) := by
      cases hfl : fl with
      | true =>
        rw [hfl] at hB3
        have b : B3 = true := by rw [hB3]; rfl
        obtain ⟨x1, x2, x3⟩ := f4 hfl
        rw [if_pos b, x3] at hA3
        exact ⟨by rw [hA3]; exact hp1, fun _ => by rw [hA3]; exact ⟨x1, x2, x3⟩, fun z => by rw [b] at z; cases z⟩
      | false =>
        rw [hfl] at hB3
        obtain ⟨o2, o3, o4, o5⟩ := f5 hfl
        cases h4 : tkB t ln 59 p1 with
        | false =>
          have b : B3 = true := by rw [hB3, h4]; rfl
          have b4 := bl_4 o2.1 o2.2 o3 (by rw [o4]; exact h4)
          rw [if_pos b] at hA3
          exact ⟨by rw [hA3]; exact (sk_c hp1).2.1, fun _ => ⟨b4.1, by rw [b4.2, o4, hA3], by rw [hA3, sk_i hp1]⟩, fun z => by rw [b] at z; cases z⟩
        | true =>
          have b : B3 = false := by rw [hB3, h4]; rfl
          rw [b, if_neg (by decide)] at hA3
          exact ⟨by rw [hA3]; exact tk_t h4, (fun z => by rw [b] at z; cases z), fun _ => ⟨⟨o2, o3, by rw [o4]; exact h4⟩, by rw [o4]; exact hA3, o5⟩⟩
    obtain ⟨hA3l, hs1, hs2⟩ := hs
    refine jv_iconst (nI 0) h dX12_block_65 (by decide) ?_
    refine jv_istore_n h dX12_block_66 (lt_nl hnl (by decide)) ?_
    have hl67 : ∀ (n : Nat) (c p2 : Nat) (Q1 : Nat → Nat) (M2 : MI) (fl : Bool), 8 - c < n → c ≤ 7 → p2 ≤ ln → FrB Mi M2 Y → MCu M2 Y p2 fl → (fl = true → FLT t ln p2) → (fl = false → ((dgB t ln 2 7 0 = true ∧ tkB t ln 59 (sk t ln 0 + 1) = true) ∧ (dyX t ln).1 = true ∧ tkB t ln 59 (dyX t ln).2.1 = true) ∧ c ≤ 6 ∧ Q1 0 = c ∧ RdP M2 Y Q1 ∧ (∀ k, k < 2 * (dgV t ln 0) → M2 (Y + 3) k = nI ((dyX t ln).2.2 k)) ∧ (c = 0 → ppP t ln (dgV t ln 0) 6 Q1 p2 = ppX t ln) ∧ (c ≠ 0 → stP t ln (dgV t ln 0) (6 - c) Q1 p2 = ppX t ln)) → V x 0 0 T M2 Ml 67 [some (.ref Y), some (.int v_14), some (.int (nI c)), none] [] := by
      intro n
      induction n with
      | zero => intro c p2 Q1 M2 fl hN9 hc hp2 f2 f3 f4 f5; exact absurd hN9 (by omega)
      | succ n ih =>
        intro c p2 Q1 M2 fl hN9 hc hp2 f2 f3 f4 f5
        obtain ⟨m3, m4⟩ := id f3
        refine jv_aload_n h dX12_block_67 rfl ?_
        refine jv_gv 4 h dX12_block_68 cf_11 (by decide) gw_904 (by assumption) (by assumption) ?_
        refine jv_bne 129 h dX12_block_71 (by decide) (fun c71 => ?_) (fun c71 => ?_)
        · first
          | exact hj129 M2 _ _ p2 true f2 (show MCu M2 Y p2 true from c71 ▸ f3) (by rw [(f4 c71).1]; rfl) (f4 c71).2.1.symm (fun z => by cases z)
          | (have hend : ln ≤ sk t ln p2 := by
               by_cases hz : sk t ln p2 < ln
               · have hx : heN t ln p2 = t (sk t ln p2) := by unfold heN; rw [if_pos hz]
                 have hy := (n2 _ hz).1
                 omega
               · omega
             have hs := o1 c75
             unfold stP at hs
             rw [if_neg (fun z => by have := tk_t z.2; omega), decide_eq_true hend] at hs
             rw [← hs] at hbl
             refine hj129 Mi79 _ _ (sk t ln p2) false (f2.c e2) (show MCu Mi79 Y (sk t ln p2) false from c71 ▸ e3) (by rw [hbl]; rfl) (by rw [hbl]) (fun _ => ⟨by rw [hbl]; exact V0, by rw [hbl]; show nI c = nI (Q1 0); rw [oq], fun k hk => ?_, by rw [hbl]; exact or9.fr (e2.1 _ (by omega))⟩)
             rw [hbl] at hk ⊢
             rw [e2.1 _ (by omega)]
             exact od k hk)
        · obtain ⟨o4, oc, oq, or9, od, o0, o1⟩ := f5 c71
          have V0 : NF v_14 (dgV t ln 0) := hv14 o4.1.1
          have hh2 := dg_t o4.1.1
          have hbl := bl_5 o4.1.1 o4.1.2 o4.2.1 o4.2.2
          have hj110 : ∀ (M3 : MI) (p3 : Nat) (fl3 : Bool), p3 ≤ ln → FrB Mi M3 Y → MCu M3 Y p3 fl3 → (fl3 = true → FLT t ln p3) → (fl3 = false → c < 6 ∧ ppP t ln (dgV t ln 0) (6 - c) Q1 p3 = ppX t ln ∧ RdP M3 Y Q1 ∧ (∀ k, k < 2 * (dgV t ln 0) → M3 (Y + 3) k = nI ((dyX t ln).2.2 k))) → V x 0 0 T M3 Ml 110 [some (.ref Y), some (.int v_14), some (.int (nI c)), none] [] := by
            intro M3 p3 fl3 hp3 g2 g3 g5 g6
            obtain ⟨m3, m4⟩ := id g3
            refine jv_aload_n h dX12_block_110 rfl ?_
            refine jv_gv 4 h dX12_block_111 cf_11 (by decide) gw_904 (by assumption) (by assumption) ?_
            refine jv_bne 123 h dX12_block_114 (by decide) (fun c114 => ?_) (fun c114 => ?_)
            · refine jv_iinc (nI (c + 1)) h dX12_block_123 rfl (lt_nl hnl (by decide)) (nI_inc c) ?_
              refine jv_goto 67 h dX12_block_126 (by decide) ?_
              first
              | exact ih (c + 1) p3 Q1 M3 true (by omega) (by omega) hp3 g2 (show MCu M3 Y p3 true from c114 ▸ g3) (fun _ => g5 c114) (fun z => by cases z)
              | (have hfb : FrB Mi Mi120 Y := ⟨fun a h1 h3 h4 => by rw [y1 a h1 h4]; exact g2.1 a h1 h3 h4, fun q h3 h4 => by rw [y2 q h3 h4]; exact g2.2 q h3 h4⟩
                 rw [show 6 - c = (6 - (c + 1)) + 1 by omega] at x0
                 cases hpe : (peP t ln (dgV t ln 0) p3).1 with
                 | true =>
                   rw [hpe] at y4
                   rw [pp_t hpe] at x0
                   exact ih (c + 1) _ (adP Q1 (peP t ln (dgV t ln 0) p3).2.2) _ false (by omega) (by omega) (pe_le hp3) hfb y4 (fun z => by cases z) (fun _ => ⟨o4, by omega, by show Q1 0 + 1 = c + 1; omega, x1.add oq y3 (y5 hpe), fun k hk => by rw [y1 _ (by omega) (by omega)]; exact x2 k hk, fun z => absurd z (by omega), fun _ => x0⟩)
                 | false =>
                   rw [hpe] at y4
                   rw [pp_f hpe] at x0
                   exact ih (c + 1) _ Q1 _ true (by omega) (by omega) (pe_le hp3) hfb y4 (fun _ => ⟨by rw [hbl, ← x0], by rw [hbl, ← x0], pe_sk hp3 hpe⟩) (fun z => by cases z))
            · obtain ⟨x6, x0, x1, x2⟩ := g6 c114
              refine jv_aload_n h dX12_block_117 rfl ?_
              refine jv_iload_n h dX12_block_118 rfl ?_
              refine jv_iload_n h dX12_block_119 rfl ?_
              refine jv_VGv [_, _] h dX12_block_120 cw_X12_138 cf_11 (by assumption) (cm_readPerson hM (hT.frB g2) hA (show MCu M3 Y p3 false from c114 ▸ g3) hp3 (NF_nI _) V0 (by omega) ⟨by omega, by omega⟩) (by decide) rfl rfl (Nat.le_of_ble_eq_true rfl) ⟨Nat.zero_le _, Nat.zero_le _⟩ (fun Mi120 Ml120 hp120 => ?_)
              have hm9 := hp120.1
              subst Ml120
              obtain ⟨-, y1, y2, y3, y4, y5⟩ := hp120
              refine jv_iinc (nI (c + 1)) h dX12_block_123 rfl (lt_nl hnl (by decide)) (nI_inc c) ?_
              refine jv_goto 67 h dX12_block_126 (by decide) ?_
              first
              | exact ih (c + 1) p3 Q1 M3 true (by omega) (by omega) hp3 g2 (show MCu M3 Y p3 true from c114 ▸ g3) (fun _ => g5 c114) (fun z => by cases z)
              | (have hfb : FrB Mi Mi120 Y := ⟨fun a h1 h3 h4 => by rw [y1 a h1 h4]; exact g2.1 a h1 h3 h4, fun q h3 h4 => by rw [y2 q h3 h4]; exact g2.2 q h3 h4⟩
                 rw [show 6 - c = (6 - (c + 1)) + 1 by omega] at x0
                 cases hpe : (peP t ln (dgV t ln 0) p3).1 with
                 | true =>
                   rw [hpe] at y4
                   rw [pp_t hpe] at x0
                   exact ih (c + 1) _ (adP Q1 (peP t ln (dgV t ln 0) p3).2.2) _ false (by omega) (by omega) (pe_le hp3) hfb y4 (fun z => by cases z) (fun _ => ⟨o4, by omega, by show Q1 0 + 1 = c + 1; omega, x1.add oq y3 (y5 hpe), fun k hk => by rw [y1 _ (by omega) (by omega)]; exact x2 k hk, fun z => absurd z (by omega), fun _ => x0⟩)
                 | false =>
                   rw [hpe] at y4
                   rw [pp_f hpe] at x0
                   exact ih (c + 1) _ Q1 _ true (by omega) (by omega) (pe_le hp3) hfb y4 (fun _ => ⟨by rw [hbl, ← x0], by rw [hbl, ← x0], pe_sk hp3 hpe⟩) (fun z => by cases z))
          have hj89 : ∀ (M4 : MI), FrB Mi M4 Y → MCu M4 Y (sk t ln p2) false → sk t ln p2 < ln → c ≠ 0 → RdP M4 Y Q1 → (∀ k, k < 2 * (dgV t ln 0) → M4 (Y + 3) k = nI ((dyX t ln).2.2 k)) → V x 0 0 T M4 Ml 89 [some (.ref Y), some (.int v_14), some (.int (nI c)), none] [] := by
            intro M4 g2 g4 gl gc gr gd
            refine jv_aload_n h dX12_block_89 rfl ?_
            refine jv_iload_n h dX12_block_90 rfl ?_
            refine jv_bipush (nI 6) h dX12_block_91 (by decide) ?_
            refine jv_nge 100 h dX12_block_93 (by decide) (by repeat (with_reducible first | exact NF_nI _ | assumption | refine NF_add ?_ ?_ | refine NF_mul ?_ ?_)) (by repeat (with_reducible first | exact NF_nI _ | assumption | refine NF_add ?_ ?_ | refine NF_mul ?_ ?_)) ⟨by omega, by omega⟩ (fun c93 => ?_) (fun c93 => ?_)
            · refine jv_iconst (nI 0) h dX12_block_100 (by decide) ?_
              first | rw [show nI 1 = bI (decide (c < 6)) from by rw [decide_eq_true c93]; rfl] | rw [show nI 0 = bI (decide (c < 6)) from by rw [decide_eq_false (by omega)]; rfl]
              refine jv_VGv [_] h dX12_block_101 cw_X12_127 cf_11 (by assumption) (cm_must (fb := false) (b := decide (c < 6)) hM g4.2) (by decide) rfl rfl (Nat.le_of_ble_eq_true rfl) ⟨Nat.zero_le _, Nat.zero_le _⟩ (fun Mi101 Ml101 hp101 => ?_)
              have hm9 := hp101.1
              subst Ml101
              obtain ⟨-, rfl⟩ := hp101
              refine jv_aload_n h dX12_block_104 rfl ?_
              refine jv_bipush (nI 44) h dX12_block_105 (by decide) ?_
              refine jv_VGv [_] h dX12_block_107 cw_X12_134 cf_11 (by assumption) (cm_takes hM (hT.frB (g2.c (FrC.rf _ _).p4)) hA ⟨(upd2_ne _ _ (by omega)).trans g4.1, upd2_same _ _ _ _⟩ (sk_c hp2).2.1 (NF_nI _) (by decide)) (by decide) rfl rfl (Nat.le_of_ble_eq_true rfl) ⟨Nat.zero_le _, Nat.zero_le _⟩ (fun Mi107 Ml107 hp107 => ?_)
              have hm9 := hp107.1
              subst Ml107
              obtain ⟨-, d5, k5⟩ := hp107
              have tk5 : tkB t ln 44 (sk t ln p2) = tkB t ln 44 p2 := by unfold tkB; rw [sk_i hp2]
              rw [tk5, sk_i hp2] at k5
              have hs := o1 gc
              have A5l : (if ((false || !decide (c < 6)) || !tkB t ln 44 p2) = true then sk t ln p2 else sk t ln p2 + 1) ≤ ln := by split <;> omega
              have A5t : ((false || !decide (c < 6)) || !tkB t ln 44 p2) = true → FLT t ln (if ((false || !decide (c < 6)) || !tkB t ln 44 p2) = true then sk t ln p2 else sk t ln p2 + 1) := fun z => by
                rw [if_pos z]
                have hno : ¬ (6 - c ≠ 0 ∧ tkB t ln 44 p2 = true) := fun y => by
                  rw [y.2, decide_eq_true (by omega)] at z
                  cases z
                unfold stP at hs
                rw [if_neg hno, decide_eq_false (by omega)] at hs
                exact ⟨by rw [hbl, ← hs], by rw [hbl, ← hs], sk_i hp2⟩
              have A5f : ((false || !decide (c < 6)) || !tkB t ln 44 p2) = false → c < 6 ∧ ppP t ln (dgV t ln 0) (6 - c) Q1 (if ((false || !decide (c < 6)) || !tkB t ln 44 p2) = true then sk t ln p2 else sk t ln p2 + 1) = ppX t ln ∧ RdP Mi107 Y Q1 ∧ (∀ k, k < 2 * (dgV t ln 0) → Mi107 (Y + 3) k = nI ((dyX t ln).2.2 k)) := fun z => by
                have hc6 : c < 6 := by
                  by_cases h : c < 6
                  · exact h
                  · rw [decide_eq_false h] at z; cases z
                have htk : tkB t ln 44 p2 = true := by
                  cases h : tkB t ln 44 p2 with
                  | true => rfl
                  | false => rw [h, decide_eq_true hc6] at z; cases z
                unfold stP at hs
                rw [if_pos ⟨by omega, htk⟩] at hs
                refine ⟨hc6, ?_, gr.fr ((d5.1 _ (by omega)).trans (upd2_row _ _ (by omega))), fun k hk => by rw [d5.1 _ (by omega), upd2_row _ _ (by omega)]; exact gd k hk⟩
                rw [if_neg (by rw [z]; decide)]
                exact hs
              exact hj110 Mi107 _ _ A5l (g2.c ((FrC.rf _ _).p4.tr d5)) k5 A5t A5f
            · refine jv_iconst (nI 1) h dX12_block_96 (by decide) ?_
              refine jv_goto 101 h dX12_block_97 (by decide) ?_
              first | rw [show nI 1 = bI (decide (c < 6)) from by rw [decide_eq_true c93]; rfl] | rw [show nI 0 = bI (decide (c < 6)) from by rw [decide_eq_false (by omega)]; rfl]
              refine jv_VGv [_] h dX12_block_101 cw_X12_127 cf_11 (by assumption) (cm_must (fb := false) (b := decide (c < 6)) hM g4.2) (by decide) rfl rfl (Nat.le_of_ble_eq_true rfl) ⟨Nat.zero_le _, Nat.zero_le _⟩ (fun Mi101 Ml101 hp101 => ?_)
              have hm9 := hp101.1
              subst Ml101
              obtain ⟨-, rfl⟩ := hp101
              refine jv_aload_n h dX12_block_104 rfl ?_
              refine jv_bipush (nI 44) h dX12_block_105 (by decide) ?_
              refine jv_VGv [_] h dX12_block_107 cw_X12_134 cf_11 (by assumption) (cm_takes hM (hT.frB (g2.c (FrC.rf _ _).p4)) hA ⟨(upd2_ne _ _ (by omega)).trans g4.1, upd2_same _ _ _ _⟩ (sk_c hp2).2.1 (NF_nI _) (by decide)) (by decide) rfl rfl (Nat.le_of_ble_eq_true rfl) ⟨Nat.zero_le _, Nat.zero_le _⟩ (fun Mi107 Ml107 hp107 => ?_)
              have hm9 := hp107.1
              subst Ml107
              obtain ⟨-, d5, k5⟩ := hp107
              have tk5 : tkB t ln 44 (sk t ln p2) = tkB t ln 44 p2 := by unfold tkB; rw [sk_i hp2]
              rw [tk5, sk_i hp2] at k5
              have hs := o1 gc
              have A5l : (if ((false || !decide (c < 6)) || !tkB t ln 44 p2) = true then sk t ln p2 else sk t ln p2 + 1) ≤ ln := by split <;> omega
              have A5t : ((false || !decide (c < 6)) || !tkB t ln 44 p2) = true → FLT t ln (if ((false || !decide (c < 6)) || !tkB t ln 44 p2) = true then sk t ln p2 else sk t ln p2 + 1) := fun z => by
                rw [if_pos z]
                have hno : ¬ (6 - c ≠ 0 ∧ tkB t ln 44 p2 = true) := fun y => by
                  rw [y.2, decide_eq_true (by omega)] at z
                  cases z
                unfold stP at hs
                rw [if_neg hno, decide_eq_false (by omega)] at hs
                exact ⟨by rw [hbl, ← hs], by rw [hbl, ← hs], sk_i hp2⟩
              have A5f : ((false || !decide (c < 6)) || !tkB t ln 44 p2) = false → c < 6 ∧ ppP t ln (dgV t ln 0) (6 - c) Q1 (if ((false || !decide (c < 6)) || !tkB t ln 44 p2) = true then sk t ln p2 else sk t ln p2 + 1) = ppX t ln ∧ RdP Mi107 Y Q1 ∧ (∀ k, k < 2 * (dgV t ln 0) → Mi107 (Y + 3) k = nI ((dyX t ln).2.2 k)) := fun z => by
                have hc6 : c < 6 := by
                  by_cases h : c < 6
                  · exact h
                  · rw [decide_eq_false h] at z; cases z
                have htk : tkB t ln 44 p2 = true := by
                  cases h : tkB t ln 44 p2 with
                  | true => rfl
                  | false => rw [h, decide_eq_true hc6] at z; cases z
                unfold stP at hs
                rw [if_pos ⟨by omega, htk⟩] at hs
                refine ⟨hc6, ?_, gr.fr ((d5.1 _ (by omega)).trans (upd2_row _ _ (by omega))), fun k hk => by rw [d5.1 _ (by omega), upd2_row _ _ (by omega)]; exact gd k hk⟩
                rw [if_neg (by rw [z]; decide)]
                exact hs
              exact hj110 Mi107 _ _ A5l (g2.c ((FrC.rf _ _).p4.tr d5)) k5 A5t A5f
          refine jv_iload_n h dX12_block_74 rfl ?_
          refine jv_zeq 85 h dX12_block_75 (by decide) (by repeat (with_reducible first | exact NF_nI _ | assumption | refine NF_add ?_ ?_ | refine NF_mul ?_ ?_)) (by omega) (fun c75 => ?_) (fun c75 => ?_)
          · refine jv_iload_n h dX12_block_85 rfl ?_
            first
            | exact jv_zle 110 h dX12_block_86 (by decide) (NF_nI _) (by omega) (fun _ => hj110 M2 p2 fl hp2 f2 f3 (fun z => by rw [c71] at z; cases z) (fun _ => ⟨by omega, by have := o0 c75; rw [c75]; exact this, or9, od⟩)) (fun z => absurd c75 (by omega))
            | exact jv_zle 110 h dX12_block_86 (by decide) (NF_nI _) (by omega) (fun z => absurd z c75) (fun _ => hj89 Mi79 (f2.c e2) (show MCu Mi79 Y (sk t ln p2) false from c71 ▸ e3) (by
                by_cases hz : sk t ln p2 < ln
                · exact hz
                · exact absurd (show heN t ln p2 = 0 by unfold heN; rw [if_neg hz]) c82) c75 (or9.fr (e2.1 _ (by omega))) (fun k hk => by rw [e2.1 _ (by omega)]; exact od k hk))
          · refine jv_aload_n h dX12_block_78 rfl ?_
            refine jv_VGi [] h dX12_block_79 cw_X12_124 cf_11 (by assumption) (cm_here hM (hT.frB f2) hA f3 hp2) (by decide) rfl rfl (Nat.le_of_ble_eq_true rfl) ⟨Nat.zero_le _, Nat.zero_le _⟩ (fun v_79 Mi79 Ml79 hp79 => ?_)
            have hm9 := hp79.2.1
            subst Ml79
            obtain ⟨v7, -, e2, e3⟩ := hp79
            subst v_79
            have hlt := he_lt (p := p2) hA
            refine jv_zeq 129 h dX12_block_82 (by decide) (by repeat (with_reducible first | exact NF_nI _ | assumption | refine NF_add ?_ ?_ | refine NF_mul ?_ ?_)) (by omega) (fun c82 => ?_) (fun c82 => ?_)
            · first
              | exact hj129 M2 _ _ p2 true f2 (show MCu M2 Y p2 true from c71 ▸ f3) (by rw [(f4 c71).1]; rfl) (f4 c71).2.1.symm (fun z => by cases z)
              | (have hend : ln ≤ sk t ln p2 := by
                   by_cases hz : sk t ln p2 < ln
                   · have hx : heN t ln p2 = t (sk t ln p2) := by unfold heN; rw [if_pos hz]
                     have hy := (n2 _ hz).1
                     omega
                   · omega
                 have hs := o1 c75
                 unfold stP at hs
                 rw [if_neg (fun z => by have := tk_t z.2; omega), decide_eq_true hend] at hs
                 rw [← hs] at hbl
                 refine hj129 Mi79 _ _ (sk t ln p2) false (f2.c e2) (show MCu Mi79 Y (sk t ln p2) false from c71 ▸ e3) (by rw [hbl]; rfl) (by rw [hbl]) (fun _ => ⟨by rw [hbl]; exact V0, by rw [hbl]; show nI c = nI (Q1 0); rw [oq], fun k hk => ?_, by rw [hbl]; exact or9.fr (e2.1 _ (by omega))⟩)
                 rw [hbl] at hk ⊢
                 rw [e2.1 _ (by omega)]
                 exact od k hk)
            · refine jv_iload_n h dX12_block_85 rfl ?_
              first
              | exact jv_zle 110 h dX12_block_86 (by decide) (NF_nI _) (by omega) (fun _ => hj110 M2 p2 fl hp2 f2 f3 (fun z => by rw [c71] at z; cases z) (fun _ => ⟨by omega, by have := o0 c75; rw [c75]; exact this, or9, od⟩)) (fun z => absurd c75 (by omega))
              | exact jv_zle 110 h dX12_block_86 (by decide) (NF_nI _) (by omega) (fun z => absurd z c75) (fun _ => hj89 Mi79 (f2.c e2) (show MCu Mi79 Y (sk t ln p2) false from c71 ▸ e3) (by
                  by_cases hz : sk t ln p2 < ln
                  · exact hz
                  · exact absurd (show heN t ln p2 = 0 by unfold heN; rw [if_neg hz]) c82) c75 (or9.fr (e2.1 _ (by omega))) (fun k hk => by rw [e2.1 _ (by omega)]; exact od k hk))
    exact hl67 9 0 A3 Q0 Mi62 B3 (by omega) (by omega) hA3l (f2.c d4) k4 hs1 (fun z => ⟨(hs2 z).1, by omega, rfl, fun i hi => absurd hi (by show ¬ i < 0; omega), fun k hk => by rw [d4.1 _ (by omega)]; exact (hs2 z).2.2 k hk, fun _ => by rw [(hs2 z).2.1], fun q => absurd rfl q⟩)
  refine jv_iconst (nI 0) h dX12_block_24 (by decide) ?_
  refine jv_istore_n h dX12_block_25 (lt_nl hnl (by decide)) ?_
  have hl26 : ∀ (n : Nat) (i p1 : Nat) (D1 : Nat → Nat) (M1 : MI) (fl : Bool), 13 - i < n → i ≤ 12 → p1 ≤ ln → FrB Mi M1 Y → MCu M1 Y p1 fl → (fl = true → FLT t ln p1) → (fl = false → (dgB t ln 2 7 0 = true ∧ tkB t ln 59 (sk t ln 0 + 1) = true) ∧ i ≤ 2 * (dgV t ln 0) ∧ dyP t ln (2 * (dgV t ln 0) - i) i p1 D1 = dyX t ln ∧ ∀ k, k < i → M1 (Y + 3) k = nI (D1 k)) → V x 0 0 T M1 Ml 26 [some (.ref Y), some (.int v_14), some (.int (nI i)), none] [] := by
    intro n
    induction n with
    | zero => intro i p1 D1 M1 fl hN9 hi hp1 f2 f3 f4 f5; exact absurd hN9 (by omega)
    | succ n ih =>
      intro i p1 D1 M1 fl hN9 hi hp1 f2 f3 f4 f5
      obtain ⟨m3, m4⟩ := id f3
      refine jv_iload_n h dX12_block_26 rfl ?_
      refine jv_iconst (nI 2) h dX12_block_27 (by decide) ?_
      refine jv_iload_n h dX12_block_28 rfl ?_
      refine jv_imul h dX12_block_29 ?_
      refine jv_icmp_ge 59 h dX12_block_30 (by decide) (fun c30 => ?_) (fun c30 => ?_)
      · first
        | exact hj59 i p1 M1 fl hp1 f2 f3 f4 (fun z => by rw [c37] at z; cases z)
        | exact hj59 i p1 M1 fl hp1 f2 f3 f4 (fun z => by
            obtain ⟨o1, o2, o3, o4⟩ := f5 z
            have hh2 := dg_t o1.1
            rw [hv14 o1.1, pk_mul, nI_leI (by omega) (by omega)] at c30
            obtain rfl : i = 2 * dgV t ln 0 := by omega
            rw [Nat.sub_self] at o3
            have o5 : dyX t ln = (true, p1, D1) := o3.symm
            exact ⟨o1, by rw [o5], by rw [o5], fun k hk => by rw [o5]; exact o4 k hk⟩)
      · refine jv_aload_n h dX12_block_33 rfl ?_
        refine jv_gv 4 h dX12_block_34 cf_11 (by decide) gw_904 (by assumption) (by assumption) ?_
        refine jv_bne 59 h dX12_block_37 (by decide) (fun c37 => ?_) (fun c37 => ?_)
        · first
          | exact hj59 i p1 M1 fl hp1 f2 f3 f4 (fun z => by rw [c37] at z; cases z)
          | exact hj59 i p1 M1 fl hp1 f2 f3 f4 (fun z => by
              obtain ⟨o1, o2, o3, o4⟩ := f5 z
              have hh2 := dg_t o1.1
              rw [hv14 o1.1, pk_mul, nI_leI (by omega) (by omega)] at c30
              obtain rfl : i = 2 * dgV t ln 0 := by omega
              rw [Nat.sub_self] at o3
              have o5 : dyX t ln = (true, p1, D1) := o3.symm
              exact ⟨o1, by rw [o5], by rw [o5], fun k hk => by rw [o5]; exact o4 k hk⟩)
        · obtain ⟨o1, o2, o3, o4⟩ := f5 c37
          have hh2 := dg_t o1.1
          rw [hv14 o1.1, pk_mul, nI_leI (by omega) (by omega)] at c30
          refine jv_aload_n h dX12_block_40 rfl ?_
          refine jv_gr 5 h dX12_block_41 cf_11 (by decide) gw_905 (by assumption) (by assumption) ?_
          refine jv_iload_n h dX12_block_44 rfl ?_
          refine jv_aload_n h dX12_block_45 rfl ?_
          refine jv_iconst (nI 0) h dX12_block_46 (by decide) ?_
          refine jv_bipush (nI 6) h dX12_block_47 (by decide) ?_
          refine jv_VGi [_, _] h dX12_block_49 cw_X12_131 cf_11 (by assumption) (cm_digitG hM (hT.frB f2) hA (show MCu M1 Y p1 false from c37 ▸ f3) hp1 (lo := 0) (hi := 7) (by decide) (by decide)) (by decide) rfl rfl (Nat.le_of_ble_eq_true rfl) ⟨Nat.zero_le _, Nat.zero_le _⟩ (fun v_49 Mi49 Ml49 hp49 => ?_)
          have hm9 := hp49.1
          subst Ml49
          obtain ⟨-, d3, k3, r3⟩ := hp49
          replace k3 : MCu Mi49 Y (poB t ln p1 (dgB t ln 0 7 p1)) (!dgB t ln 0 7 p1) := k3
          replace r3 := r3 rfl
          refine jv_iast h dX12_block_52 (by assumption) (by repeat (with_reducible first | exact NF_nI _ | assumption | refine NF_add ?_ ?_ | refine NF_mul ?_ ?_)) ⟨by omega, by decide⟩ ?_
          refine jv_iinc (nI (i + 1)) h dX12_block_53 rfl (lt_nl hnl (by decide)) (nI_inc i) ?_
          refine jv_goto 26 h dX12_block_56 (by decide) ?_
          have hfb : FrB Mi (upd2 Mi49 (Y + 3) i v_49) Y := ⟨fun a h1 h3 h4 => by rw [upd2_row _ _ h3]; exact (f2.c d3).1 a h1 h3 h4, fun q h3 h4 => by rw [upd2_row _ _ (by omega)]; exact (f2.c d3).2 q h3 h4⟩
          have hcu : MCu (upd2 Mi49 (Y + 3) i v_49) Y (poB t ln p1 (dgB t ln 0 7 p1)) (!dgB t ln 0 7 p1) := ⟨by rw [upd2_row _ _ (by omega)]; exact k3.1, by rw [upd2_row _ _ (by omega)]; exact k3.2⟩
          rw [show 2 * dgV t ln 0 - i = (2 * dgV t ln 0 - (i + 1)) + 1 by omega] at o3
          cases hb : dgB t ln 0 7 p1 with
          | true =>
            rw [hb, dg_p rfl] at hcu
            rw [dyP_t hb] at o3
            exact ih (i + 1) _ (setS D1 i (dgV t ln p1)) _ false (by omega) (by omega) (dg_t hb).1 hfb hcu (fun z => by cases z) (fun _ => ⟨o1, by omega, o3, fun k hk => by
              by_cases hki : k = i
              · rw [hki, upd2_same, setS_s]; exact r3 hb
              · rw [upd2_ne _ _ (by omega), setS_o hki, d3.1 _ (by omega)]; exact o4 k (by omega)⟩)
          | false =>
            rw [hb, dg_q rfl] at hcu
            rw [dyP_f hb] at o3
            have b3 := bl_3 o1.1 o1.2 (by rw [← o3])
            exact ih (i + 1) _ D1 _ true (by omega) (by omega) (sk_c hp1).2.1 hfb hcu (fun _ => ⟨b3.1, by rw [b3.2, ← o3], sk_i hp1⟩) (fun z => by cases z)
  exact hl26 14 0 A2 D0 Mi21 B2 (by omega) (by omega) hA2l F21 k2 hst1 (fun z => ⟨(hst2 z).1, by omega, by rw [(hst2 z).2]; rfl, fun k hk => absurd hk (by omega)⟩)
