theorem cm_digitG {g : GT} {T : TT} {Mi : MI} {Ml : ML} {Y ln p : Nat} {t : Nat → Nat} {fb : Bool} (hM : ModS g T Y) (hT : MTR Mi Y t ln) (hA : TA t ln) (hc : MCu Mi Y p fb) (hp : p ≤ ln) {v w : Int32} {lo hi : Nat} (hv : v.toInt = (lo : Int)) (hw : w.toInt + 1 = (hi : Int)) : Ct g yX12_digit cX12_digit 4 (some .int) 2 0 0 [.ref Y, .int v, .int w] T Mi Ml (Gi T (fun rv Mi' Ml' => Ml' = Ml ∧ FrC Mi Mi' Y ∧ MCu Mi' Y (if fb = true then p else poB t ln p (dgB t ln lo hi p)) (fb || !dgB t ln lo hi p) ∧ (fb = false → dgB t ln lo hi p = true → rv = nI (dgV t ln p)))) := by
  cases fb with
  | true => exact (cm_digitF hM hT hA hc hp hv hw).weaken (fun r T' Mi' Ml' hq => by
      obtain ⟨rv, h1, h2, h3, h4, h5, h6⟩ := hq
      exact ⟨rv, h1, h2, h4, h5, h6, fun z => by cases z⟩)
  | false => exact (cm_digit hM hT hA hc hp hv hw).weaken (fun r T' Mi' Ml' hq => by
      obtain ⟨rv, h1, h2, h3, h4, h5, h6⟩ := hq
      exact ⟨rv, h1, h2, h4, h5, h6, fun _ => h3⟩)
def kvI (x : Nat) : Int32 := if kiN x < 5 then nI (kiN x) else -1
theorem kv_neg {x : Nat} : kvI x < 0 ↔ ¬ kiN x < 5 := by
  unfold kvI
  by_cases h : kiN x < 5
  · rw [if_pos h]; exact ⟨fun z => absurd z (nI_pos (by omega)), fun z => absurd h z⟩
  · rw [if_neg h]; exact ⟨fun _ => h, fun _ => by decide⟩
theorem ki_he {t : Nat → Nat} {ln p : Nat} : kiB t ln p = decide (kiN (heN t ln p) < 5) := by
  unfold kiB heN
  apply decide_eq_decide.mpr
  by_cases h : sk t ln p < ln
  · rw [if_pos h]; exact ⟨fun z => z.2, fun z => ⟨h, z⟩⟩
  · rw [if_neg h]; exact ⟨fun z => absurd z.1 h, fun z => absurd z (by decide)⟩

set_option maxHeartbeats 4000000 in
set_option maxRecDepth 100000 in
theorem cm_readPerson {g : GT} {T : TT} {Mi : MI} {Ml : ML} {Y ln p : Nat} {t : Nat → Nat} (hM : ModS g T Y) (hT : MTR Mi Y t ln) (hA : TA t ln) (hc : MCu Mi Y p false) (hp : p ≤ ln) {v w : Int32} {i hh : Nat} (hv : NF v i) (hw : NF w hh) (hi : i < 6) (hh6 : 2 ≤ hh ∧ hh ≤ 6) : Ct g yX12_readPerson cX12_readPerson 8 none 3 0 0 [.ref Y, .int v, .int w] T Mi Ml (Gv T (fun Mi' Ml' => Ml' = Ml ∧ (∀ a, a ≠ Y → a ≠ Y + 4 → Mi' a = Mi a) ∧ (∀ q, q ≠ 3 → q ≠ 4 → Mi' Y q = Mi Y q) ∧ (∀ k, (k < 4 * i ∨ 4 * i + 4 ≤ k) → Mi' (Y + 4) k = Mi (Y + 4) k) ∧ MCu Mi' Y (peP t ln hh p).2.1 (!(peP t ln hh p).1) ∧ ((peP t ln hh p).1 = true → Mi' (Y + 4) (4 * i) = nI (peP t ln hh p).2.2.1 ∧ Mi' (Y + 4) (4 * i + 1) = nI (peP t ln hh p).2.2.2.1 ∧ Mi' (Y + 4) (4 * i + 2) = nI (peP t ln hh p).2.2.2.2.1 ∧ Mi' (Y + 4) (4 * i + 3) = nI (peP t ln hh p).2.2.2.2.2))) := by
  refine Ct.of' (plainFor_of_name (by decide +kernel)) (by exact Nat.le_of_ble_eq_true rfl) ?_
  intro x hg hR h hr hnm hnl
  subst hg
  obtain ⟨hY, ⟨r0, a0⟩, ⟨r1, a1⟩, ⟨r5, a5⟩, ⟨r6, a6⟩, ⟨r7, a7⟩, ⟨r9, a9⟩, ⟨r12, a12⟩, ⟨r13, a13⟩, ⟨r14, a14⟩, ⟨r15, a15⟩, r16, a16⟩ := id hM
  obtain ⟨t1, t2⟩ := id hT
  obtain ⟨u1, u2⟩ := id hc
  obtain ⟨n1, n2⟩ := id hA
  obtain rfl : v = nI i := hv
  obtain rfl : w = nI hh := hw
  have hlt := he_lt (p := p) hA
  obtain ⟨Q1, hQ1⟩ : ∃ z, z = (poB t ln p (kiB t ln p)) := ⟨_, rfl⟩
  obtain ⟨Q2, hQ2⟩ : ∃ z, z = (if (!kiB t ln p) = true then Q1 else poB t ln Q1 (dgB t ln 1 10 Q1)) := ⟨_, rfl⟩
  obtain ⟨B2, hB2⟩ : ∃ z, z = ((!kiB t ln p) || !dgB t ln 1 10 Q1) := ⟨_, rfl⟩
  obtain ⟨Q3, hQ3⟩ : ∃ z, z = (if B2 = true then Q2 else poB t ln Q2 (dgB t ln 0 hh Q2)) := ⟨_, rfl⟩
  obtain ⟨B3, hB3⟩ : ∃ z, z = (B2 || !dgB t ln 0 hh Q2) := ⟨_, rfl⟩
  obtain ⟨Q4, hQ4⟩ : ∃ z, z = (if B3 = true then Q3 else poB t ln Q3 (dgB t ln 0 7 Q3)) := ⟨_, rfl⟩
  obtain ⟨B4, hB4⟩ : ∃ z, z = (B3 || !dgB t ln 0 7 Q3) := ⟨_, rfl⟩
  have q1 : Q1 ≤ ln := by rw [hQ1]; exact ki_le hp
  have q2 : Q2 ≤ ln := by rw [hQ2]; split; exact q1; exact dg_le q1
  have q3 : Q3 ≤ ln := by rw [hQ3]; split; exact q2; exact dg_le q2
  have hpe : (peP t ln hh p).1 = !B4 ∧ (peP t ln hh p).2.1 = Q4 ∧ (B4 = false → (peP t ln hh p).2.2 = (kiN (t (sk t ln p)), dgV t ln Q1, dgV t ln Q2, dgV t ln Q3) ∧ kiB t ln p = true ∧ dgB t ln 1 10 Q1 = true ∧ B2 = false ∧ dgB t ln 0 hh Q2 = true ∧ B3 = false ∧ dgB t ln 0 7 Q3 = true) := by
    unfold peP
    cases h1 : kiB t ln p with
    | false =>
      have e1 : Q1 = sk t ln p := by rw [hQ1, h1]; exact dg_q rfl
      have e2 : Q2 = Q1 := by rw [hQ2, h1, if_pos (by decide)]
      have b2 : B2 = true := by rw [hB2, h1]; rfl
      have e3 : Q3 = Q2 := by rw [hQ3, if_pos b2]
      have b3 : B3 = true := by rw [hB3, b2]; rfl
      have e4 : Q4 = Q3 := by rw [hQ4, if_pos b3]
      have b4 : B4 = true := by rw [hB4, b3]; rfl
      rw [if_neg (by decide), b4]
      exact ⟨rfl, by rw [e4, e3, e2, e1], fun z => by cases z⟩
    | true =>
      have e1 : Q1 = sk t ln p + 1 := by rw [hQ1, h1]; exact dg_p rfl
      rw [if_pos rfl, ← e1]
      cases h2 : dgB t ln 1 10 Q1 with
      | false =>
        have e2 : Q2 = sk t ln Q1 := by rw [hQ2, h1, if_neg (by decide), h2]; exact dg_q rfl
        have b2 : B2 = true := by rw [hB2, h1, h2]; rfl
        have e3 : Q3 = Q2 := by rw [hQ3, if_pos b2]
        have b3 : B3 = true := by rw [hB3, b2]; rfl
        have e4 : Q4 = Q3 := by rw [hQ4, if_pos b3]
        have b4 : B4 = true := by rw [hB4, b3]; rfl
        rw [if_neg (by decide), b4]
        exact ⟨rfl, by rw [e4, e3, e2], fun z => by cases z⟩
      | true =>
        have e2 : Q2 = sk t ln Q1 + 1 := by rw [hQ2, h1, if_neg (by decide), h2]; exact dg_p rfl
        have b2 : B2 = false := by rw [hB2, h1, h2]; rfl
        rw [if_pos rfl, ← e2]
        cases h3 : dgB t ln 0 hh Q2 with
        | false =>
          have e3 : Q3 = sk t ln Q2 := by rw [hQ3, b2, if_neg (by decide), h3]; exact dg_q rfl
          have b3 : B3 = true := by rw [hB3, b2, h3]; rfl
          have e4 : Q4 = Q3 := by rw [hQ4, if_pos b3]
          have b4 : B4 = true := by rw [hB4, b3]; rfl
          rw [if_neg (by decide), b4]
          exact ⟨rfl, by rw [e4, e3], fun z => by cases z⟩
        | true =>
          have e3 : Q3 = sk t ln Q2 + 1 := by rw [hQ3, b2, if_neg (by decide), h3]; exact dg_p rfl
          have b3 : B3 = false := by rw [hB3, b2, h3]; rfl
          rw [if_pos rfl, ← e3]
          cases h4 : dgB t ln 0 7 Q3 with
          | false =>
            have e4 : Q4 = sk t ln Q3 := by rw [hQ4, b3, if_neg (by decide), h4]; exact dg_q rfl
            have b4 : B4 = true := by rw [hB4, b3, h4]; rfl
            rw [if_neg (by decide), b4]
            exact ⟨rfl, by rw [e4], fun z => by cases z⟩
          | true =>
            have e4 : Q4 = sk t ln Q3 + 1 := by rw [hQ4, b3, if_neg (by decide), h4]; exact dg_p rfl
            have b4 : B4 = false := by rw [hB4, b3, h4]; rfl
            rw [if_pos rfl, b4]
            exact ⟨rfl, by rw [e4], fun _ => ⟨rfl, rfl, rfl, b2, rfl, b3, rfl⟩⟩
  refine jv_aload_n h dX12_readPerson_0 rfl ?_
  refine jv_VGi [] h dX12_readPerson_1 cw_X12_124 cf_11 (by assumption) (cm_here hM hT hA hc hp) (by decide) rfl rfl (Nat.le_of_ble_eq_true rfl) ⟨Nat.zero_le _, Nat.zero_le _⟩ (fun v_1 Mi1 Ml1 hp1 => ?_)
  have hm9 := hp1.2.1
  subst Ml1
  obtain ⟨v9, -, e2, e3, e4⟩ := hp1
  subst v_1
  refine jv_istore_n h dX12_readPerson_4 (lt_nl hnl (by decide)) ?_
  have hj56 : ∀ (kv : Int32), kv = kvI (heN t ln p) → V x 0 0 T Mi1 Ml 56 [some (.ref Y), some (.int (nI i)), some (.int (nI hh)), some (.int (nI (heN t ln p))), none, none, none, none] [.int kv] := by
    intro kv hkv
    subst hkv
    refine jv_istore h dX12_readPerson_56 (lt_nl hnl (by decide)) ?_
    have hj93 : ∀ (M2 : MI), FrC Mi M2 Y → MCu M2 Y Q1 (!kiB t ln p) → V x 0 0 T M2 Ml 93 [some (.ref Y), some (.int (nI i)), some (.int (nI hh)), some (.int (nI (heN t ln p))), some (.int (kvI (heN t ln p))), none, none, none] [] := by
      intro M2 F93 C93
      refine jv_aload_n h dX12_readPerson_93 rfl ?_
      refine jv_iconst (nI 1) h dX12_readPerson_94 (by decide) ?_
      refine jv_bipush (nI 9) h dX12_readPerson_95 (by decide) ?_
      refine jv_VGi [_, _] h dX12_readPerson_97 cw_X12_131 cf_11 (by assumption) (cm_digitG hM (hT.fr F93) hA C93 q1 (lo := 1) (hi := 10) (by decide) (by decide)) (by decide) rfl rfl (Nat.le_of_ble_eq_true rfl) ⟨Nat.zero_le _, Nat.zero_le _⟩ (fun v_97 Mi97 Ml97 hp97 => ?_)
      have hm9 := hp97.1
      subst Ml97
      obtain ⟨-, d2, k2, r22⟩ := hp97
      rw [← hQ2, ← hB2] at k2
      refine jv_istore h dX12_readPerson_100 (lt_nl hnl (by decide)) ?_
      refine jv_aload_n h dX12_readPerson_102 rfl ?_
      refine jv_iconst (nI 0) h dX12_readPerson_103 (by decide) ?_
      refine jv_iload_n h dX12_readPerson_104 rfl ?_
      refine jv_iconst (nI 1) h dX12_readPerson_105 (by decide) ?_
      first | refine jv_isubN h dX12_readPerson_106 (by repeat (with_reducible first | exact NF_nI _ | assumption | refine NF_add ?_ ?_ | refine NF_mul ?_ ?_)) (by repeat (with_reducible first | exact NF_nI _ | assumption | refine NF_add ?_ ?_ | refine NF_mul ?_ ?_)) (by omega) ?_ | refine jv_isub h dX12_readPerson_106 ?_
      refine jv_VGi [_, _] h dX12_readPerson_107 cw_X12_131 cf_11 (by assumption) (cm_digitG hM ((hT.fr F93).fr d2) hA k2 q2 (lo := 0) (hi := hh) (by decide) (b_pr' (by omega) (by omega))) (by decide) rfl rfl (Nat.le_of_ble_eq_true rfl) ⟨Nat.zero_le _, Nat.zero_le _⟩ (fun v_107 Mi107 Ml107 hp107 => ?_)
      have hm9 := hp107.1
      subst Ml107
      obtain ⟨-, d3, k3, r23⟩ := hp107
      rw [← hQ3, ← hB3] at k3
      refine jv_istore h dX12_readPerson_110 (lt_nl hnl (by decide)) ?_
      refine jv_aload_n h dX12_readPerson_112 rfl ?_
      refine jv_iconst (nI 0) h dX12_readPerson_113 (by decide) ?_
      refine jv_bipush (nI 6) h dX12_readPerson_114 (by decide) ?_
      refine jv_VGi [_, _] h dX12_readPerson_116 cw_X12_131 cf_11 (by assumption) (cm_digitG hM (((hT.fr F93).fr d2).fr d3) hA k3 q3 (lo := 0) (hi := 7) (by decide) (by decide)) (by decide) rfl rfl (Nat.le_of_ble_eq_true rfl) ⟨Nat.zero_le _, Nat.zero_le _⟩ (fun v_116 Mi116 Ml116 hp116 => ?_)
      have hm9 := hp116.1
      subst Ml116
      obtain ⟨-, d4, k4, r24⟩ := hp116
      rw [← hQ4, ← hB4] at k4
      have F5 := ((F93.tr d2).tr d3).tr d4
      have k5 := k4.2
      refine jv_istore h dX12_readPerson_119 (lt_nl hnl (by decide)) ?_
      refine jv_aload_n h dX12_readPerson_121 rfl ?_
      refine jv_gv 4 h dX12_readPerson_122 cf_11 (by decide) gw_904 (by assumption) (by assumption) ?_
      refine jv_bne 174 h dX12_readPerson_125 (by decide) (fun c125 => ?_) (fun c125 => ?_)
      · exact jv_vret h hr dX12_readPerson_174 ⟨rfl, rfl, rfl, (fun a h1 _ => F5.1 a h1), F5.2, (fun k _ => by rw [F5.1 _ (by omega)]), by
  rw [hpe.1, hpe.2.1, Bool.not_not]; exact k4, fun z => by rw [hpe.1, c125] at z; cases z⟩
      · obtain ⟨w0, w1, w2, w3, w4, w5, w6⟩ := hpe.2.2 c125
        have x1 := r22 (by rw [w1]; rfl) w2
        have x2 := r23 w3 w4
        have x3 := r24 w5 w6
        subst x1
        subst x2
        subst x3
        have hkk : kiN (heN t ln p) < 5 := by rw [ki_he] at w1; exact of_decide_eq_true w1
        have hks : heN t ln p = t (sk t ln p) := by have := (of_decide_eq_true (show decide (sk t ln p < ln ∧ kiN (t (sk t ln p)) < 5) = true from w1)).1; unfold heN; rw [if_pos this]
        have hkv : kvI (heN t ln p) = nI (kiN (t (sk t ln p))) := by unfold kvI; rw [if_pos hkk, hks]
        rw [hkv]
        refine jv_aload_n h dX12_readPerson_128 rfl ?_
        refine jv_gr 6 h dX12_readPerson_129 cf_11 (by decide) gw_906 (by assumption) (by assumption) ?_
        refine jv_iconst (nI 4) h dX12_readPerson_132 (by decide) ?_
        refine jv_iload_n h dX12_readPerson_133 rfl ?_
        first | refine jv_imulN h dX12_readPerson_134 (by repeat (with_reducible first | exact NF_nI _ | assumption | refine NF_add ?_ ?_ | refine NF_mul ?_ ?_)) (by repeat (with_reducible first | exact NF_nI _ | assumption | refine NF_add ?_ ?_ | refine NF_mul ?_ ?_)) ?_ | refine jv_imul h dX12_readPerson_134 ?_
        refine jv_iload h dX12_readPerson_135 rfl ?_
        refine jv_iast h dX12_readPerson_137 (by assumption) (by repeat (with_reducible first | exact NF_nI _ | assumption | refine NF_add ?_ ?_ | refine NF_mul ?_ ?_)) ⟨by omega, by decide⟩ ?_
        refine jv_aload_n h dX12_readPerson_138 rfl ?_
        refine jv_gr 6 h dX12_readPerson_139 cf_11 (by decide) gw_906 (by assumption) (by assumption) ?_
        refine jv_iconst (nI 4) h dX12_readPerson_142 (by decide) ?_
        refine jv_iload_n h dX12_readPerson_143 rfl ?_
        first | refine jv_imulN h dX12_readPerson_144 (by repeat (with_reducible first | exact NF_nI _ | assumption | refine NF_add ?_ ?_ | refine NF_mul ?_ ?_)) (by repeat (with_reducible first | exact NF_nI _ | assumption | refine NF_add ?_ ?_ | refine NF_mul ?_ ?_)) ?_ | refine jv_imul h dX12_readPerson_144 ?_
        refine jv_iconst (nI 1) h dX12_readPerson_145 (by decide) ?_
        first | refine jv_iaddN h dX12_readPerson_146 (by repeat (with_reducible first | exact NF_nI _ | assumption | refine NF_add ?_ ?_ | refine NF_mul ?_ ?_)) (by repeat (with_reducible first | exact NF_nI _ | assumption | refine NF_add ?_ ?_ | refine NF_mul ?_ ?_)) ?_ | refine jv_iadd h dX12_readPerson_146 ?_
        refine jv_iload h dX12_readPerson_147 rfl ?_
        refine jv_iast h dX12_readPerson_149 (by assumption) (by repeat (with_reducible first | exact NF_nI _ | assumption | refine NF_add ?_ ?_ | refine NF_mul ?_ ?_)) ⟨by omega, by decide⟩ ?_
        refine jv_aload_n h dX12_readPerson_150 rfl ?_
        refine jv_gr 6 h dX12_readPerson_151 cf_11 (by decide) gw_906 (by assumption) (by assumption) ?_
        refine jv_iconst (nI 4) h dX12_readPerson_154 (by decide) ?_
        refine jv_iload_n h dX12_readPerson_155 rfl ?_
        first | refine jv_imulN h dX12_readPerson_156 (by repeat (with_reducible first | exact NF_nI _ | assumption | refine NF_add ?_ ?_ | refine NF_mul ?_ ?_)) (by repeat (with_reducible first | exact NF_nI _ | assumption | refine NF_add ?_ ?_ | refine NF_mul ?_ ?_)) ?_ | refine jv_imul h dX12_readPerson_156 ?_
        refine jv_iconst (nI 2) h dX12_readPerson_157 (by decide) ?_
        first | refine jv_iaddN h dX12_readPerson_158 (by repeat (with_reducible first | exact NF_nI _ | assumption | refine NF_add ?_ ?_ | refine NF_mul ?_ ?_)) (by repeat (with_reducible first | exact NF_nI _ | assumption | refine NF_add ?_ ?_ | refine NF_mul ?_ ?_)) ?_ | refine jv_iadd h dX12_readPerson_158 ?_
        refine jv_iload h dX12_readPerson_159 rfl ?_
        refine jv_iast h dX12_readPerson_161 (by assumption) (by repeat (with_reducible first | exact NF_nI _ | assumption | refine NF_add ?_ ?_ | refine NF_mul ?_ ?_)) ⟨by omega, by decide⟩ ?_
        refine jv_aload_n h dX12_readPerson_162 rfl ?_
        refine jv_gr 6 h dX12_readPerson_163 cf_11 (by decide) gw_906 (by assumption) (by assumption) ?_
        refine jv_iconst (nI 4) h dX12_readPerson_166 (by decide) ?_
        refine jv_iload_n h dX12_readPerson_167 rfl ?_
        first | refine jv_imulN h dX12_readPerson_168 (by repeat (with_reducible first | exact NF_nI _ | assumption | refine NF_add ?_ ?_ | refine NF_mul ?_ ?_)) (by repeat (with_reducible first | exact NF_nI _ | assumption | refine NF_add ?_ ?_ | refine NF_mul ?_ ?_)) ?_ | refine jv_imul h dX12_readPerson_168 ?_
        refine jv_iconst (nI 3) h dX12_readPerson_169 (by decide) ?_
        first | refine jv_iaddN h dX12_readPerson_170 (by repeat (with_reducible first | exact NF_nI _ | assumption | refine NF_add ?_ ?_ | refine NF_mul ?_ ?_)) (by repeat (with_reducible first | exact NF_nI _ | assumption | refine NF_add ?_ ?_ | refine NF_mul ?_ ?_)) ?_ | refine jv_iadd h dX12_readPerson_170 ?_
        refine jv_iload h dX12_readPerson_171 rfl ?_
        refine jv_iast h dX12_readPerson_173 (by assumption) (by repeat (with_reducible first | exact NF_nI _ | assumption | refine NF_add ?_ ?_ | refine NF_mul ?_ ?_)) ⟨by omega, by decide⟩ ?_
        exact jv_vret h hr dX12_readPerson_174 ⟨rfl, rfl, rfl, (fun a h1 h2 => by rw [upd2_row _ _ h2, upd2_row _ _ h2, upd2_row _ _ h2, upd2_row _ _ h2]; exact F5.1 a h1), (fun q h1 h2 => by rw [upd2_row _ _ (by omega), upd2_row _ _ (by omega), upd2_row _ _ (by omega), upd2_row _ _ (by omega)]; exact F5.2 q h1 h2), (fun k hk => by rw [upd2_ne _ _ (by omega), upd2_ne _ _ (by omega), upd2_ne _ _ (by omega), upd2_ne _ _ (by omega), F5.1 _ (by omega)]), by
  rw [hpe.1, hpe.2.1, Bool.not_not]
  exact ⟨by rw [upd2_row _ _ (by omega), upd2_row _ _ (by omega), upd2_row _ _ (by omega), upd2_row _ _ (by omega)]; exact k4.1, by rw [upd2_row _ _ (by omega), upd2_row _ _ (by omega), upd2_row _ _ (by omega), upd2_row _ _ (by omega)]; exact k4.2⟩, fun _ => by
  rw [w0]
  exact ⟨by rw [upd2_ne _ _ (by omega), upd2_ne _ _ (by omega), upd2_ne _ _ (by omega), upd2_same], by rw [upd2_ne _ _ (by omega), upd2_ne _ _ (by omega), upd2_same], by rw [upd2_ne _ _ (by omega), upd2_same], upd2_same _ _ _ _⟩⟩
    refine jv_aload_n h dX12_readPerson_58 rfl ?_
    refine jv_iload h dX12_readPerson_59 rfl ?_
    refine jv_if_lt 68 h dX12_readPerson_61 (by decide) (fun c61 => ?_) (fun c61 => ?_)
    · refine jv_iconst (nI 0) h dX12_readPerson_68 (by decide) ?_
      first | rw [show nI 1 = bI (kiB t ln p) from by rw [ki_he, decide_eq_true (by rw [kv_neg] at c61; simpa using c61)]; rfl] | rw [show nI 0 = bI (kiB t ln p) from by rw [ki_he, decide_eq_false (kv_neg.mp c61)]; rfl]
      refine jv_VGv [_] h dX12_readPerson_69 cw_X12_127 cf_11 (by assumption) (cm_must (fb := false) (b := kiB t ln p) hM e4) (by decide) rfl rfl (Nat.le_of_ble_eq_true rfl) ⟨Nat.zero_le _, Nat.zero_le _⟩ (fun Mi69 Ml69 hp69 => ?_)
      have hm9 := hp69.1
      subst Ml69
      obtain ⟨-, rfl⟩ := hp69
      have g3 : upd2 Mi1 Y 4 (bI (false || !kiB t ln p)) Y 3 = nI (sk t ln p) := (upd2_ne _ _ (by omega)).trans e3
      have g4 : upd2 Mi1 Y 4 (bI (false || !kiB t ln p)) Y 4 = bI (!kiB t ln p) := upd2_same _ _ _ _
      refine jv_aload_n h dX12_readPerson_72 rfl ?_
      refine jv_dup h dX12_readPerson_73 rfl ?_
      refine jv_gv 3 h dX12_readPerson_74 cf_11 (by decide) gw_903 (by assumption) (by assumption) ?_
      refine jv_aload_n h dX12_readPerson_77 rfl ?_
      refine jv_gv 4 h dX12_readPerson_78 cf_11 (by decide) gw_904 (by assumption) (by assumption) ?_
      refine jv_beq 88 h dX12_readPerson_81 (by decide) (fun c81 => ?_) (fun c81 => ?_)
      · refine jv_iconst (nI 1) h dX12_readPerson_88 (by decide) ?_
        first | refine jv_iaddN h dX12_readPerson_89 (by repeat (with_reducible first | exact NF_nI _ | assumption | refine NF_add ?_ ?_ | refine NF_mul ?_ ?_)) (by repeat (with_reducible first | exact NF_nI _ | assumption | refine NF_add ?_ ?_ | refine NF_mul ?_ ?_)) ?_ | refine jv_iadd h dX12_readPerson_89 ?_
        refine jv_pi 3 h dX12_readPerson_90 cf_11 (by decide) gw_903 (by assumption) rfl rfl rfl ?_
        exact hj93 _ e2.p4.p3 ⟨by rw [upd2_same, hQ1]; first | (rw [dg_q (by simpa using c81), Nat.add_zero]; done) | (rw [dg_p (by simpa using c81)]), by rw [upd2_ne _ _ (by omega)]; exact g4⟩
      · refine jv_iconst (nI 0) h dX12_readPerson_84 (by decide) ?_
        refine jv_goto 89 h dX12_readPerson_85 (by decide) ?_
        first | refine jv_iaddN h dX12_readPerson_89 (by repeat (with_reducible first | exact NF_nI _ | assumption | refine NF_add ?_ ?_ | refine NF_mul ?_ ?_)) (by repeat (with_reducible first | exact NF_nI _ | assumption | refine NF_add ?_ ?_ | refine NF_mul ?_ ?_)) ?_ | refine jv_iadd h dX12_readPerson_89 ?_
        refine jv_pi 3 h dX12_readPerson_90 cf_11 (by decide) gw_903 (by assumption) rfl rfl rfl ?_
        exact hj93 _ e2.p4.p3 ⟨by rw [upd2_same, hQ1]; first | (rw [dg_q (by simpa using c81), Nat.add_zero]; done) | (rw [dg_p (by simpa using c81)]), by rw [upd2_ne _ _ (by omega)]; exact g4⟩
    · refine jv_iconst (nI 1) h dX12_readPerson_64 (by decide) ?_
      refine jv_goto 69 h dX12_readPerson_65 (by decide) ?_
      first | rw [show nI 1 = bI (kiB t ln p) from by rw [ki_he, decide_eq_true (by rw [kv_neg] at c61; simpa using c61)]; rfl] | rw [show nI 0 = bI (kiB t ln p) from by rw [ki_he, decide_eq_false (kv_neg.mp c61)]; rfl]
      refine jv_VGv [_] h dX12_readPerson_69 cw_X12_127 cf_11 (by assumption) (cm_must (fb := false) (b := kiB t ln p) hM e4) (by decide) rfl rfl (Nat.le_of_ble_eq_true rfl) ⟨Nat.zero_le _, Nat.zero_le _⟩ (fun Mi69 Ml69 hp69 => ?_)
      have hm9 := hp69.1
      subst Ml69
      obtain ⟨-, rfl⟩ := hp69
      have g3 : upd2 Mi1 Y 4 (bI (false || !kiB t ln p)) Y 3 = nI (sk t ln p) := (upd2_ne _ _ (by omega)).trans e3
      have g4 : upd2 Mi1 Y 4 (bI (false || !kiB t ln p)) Y 4 = bI (!kiB t ln p) := upd2_same _ _ _ _
      refine jv_aload_n h dX12_readPerson_72 rfl ?_
      refine jv_dup h dX12_readPerson_73 rfl ?_
      refine jv_gv 3 h dX12_readPerson_74 cf_11 (by decide) gw_903 (by assumption) (by assumption) ?_
      refine jv_aload_n h dX12_readPerson_77 rfl ?_
      refine jv_gv 4 h dX12_readPerson_78 cf_11 (by decide) gw_904 (by assumption) (by assumption) ?_
      refine jv_beq 88 h dX12_readPerson_81 (by decide) (fun c81 => ?_) (fun c81 => ?_)
      · refine jv_iconst (nI 1) h dX12_readPerson_88 (by decide) ?_
        first | refine jv_iaddN h dX12_readPerson_89 (by repeat (with_reducible first | exact NF_nI _ | assumption | refine NF_add ?_ ?_ | refine NF_mul ?_ ?_)) (by repeat (with_reducible first | exact NF_nI _ | assumption | refine NF_add ?_ ?_ | refine NF_mul ?_ ?_)) ?_ | refine jv_iadd h dX12_readPerson_89 ?_
        refine jv_pi 3 h dX12_readPerson_90 cf_11 (by decide) gw_903 (by assumption) rfl rfl rfl ?_
        exact hj93 _ e2.p4.p3 ⟨by rw [upd2_same, hQ1]; first | (rw [dg_q (by simpa using c81), Nat.add_zero]; done) | (rw [dg_p (by simpa using c81)]), by rw [upd2_ne _ _ (by omega)]; exact g4⟩
      · refine jv_iconst (nI 0) h dX12_readPerson_84 (by decide) ?_
        refine jv_goto 89 h dX12_readPerson_85 (by decide) ?_
        first | refine jv_iaddN h dX12_readPerson_89 (by repeat (with_reducible first | exact NF_nI _ | assumption | refine NF_add ?_ ?_ | refine NF_mul ?_ ?_)) (by repeat (with_reducible first | exact NF_nI _ | assumption | refine NF_add ?_ ?_ | refine NF_mul ?_ ?_)) ?_ | refine jv_iadd h dX12_readPerson_89 ?_
        refine jv_pi 3 h dX12_readPerson_90 cf_11 (by decide) gw_903 (by assumption) rfl rfl rfl ?_
        exact hj93 _ e2.p4.p3 ⟨by rw [upd2_same, hQ1]; first | (rw [dg_q (by simpa using c81), Nat.add_zero]; done) | (rw [dg_p (by simpa using c81)]), by rw [upd2_ne _ _ (by omega)]; exact g4⟩
  refine jv_iload_n h dX12_readPerson_5 rfl ?_
  refine jv_bipush (nI 112) h dX12_readPerson_6 (by decide) ?_
  refine jv_nne 15 h dX12_readPerson_8 (by decide) (by repeat (with_reducible first | exact NF_nI _ | assumption | refine NF_add ?_ ?_ | refine NF_mul ?_ ?_)) (by repeat (with_reducible first | exact NF_nI _ | assumption | refine NF_add ?_ ?_ | refine NF_mul ?_ ?_)) ⟨by omega, by omega⟩ (fun c8 => ?_) (fun c8 => ?_)
  · refine jv_iload_n h dX12_readPerson_15 rfl ?_
    refine jv_bipush (nI 115) h dX12_readPerson_16 (by decide) ?_
    refine jv_nne 25 h dX12_readPerson_18 (by decide) (by repeat (with_reducible first | exact NF_nI _ | assumption | refine NF_add ?_ ?_ | refine NF_mul ?_ ?_)) (by repeat (with_reducible first | exact NF_nI _ | assumption | refine NF_add ?_ ?_ | refine NF_mul ?_ ?_)) ⟨by omega, by omega⟩ (fun c18 => ?_) (fun c18 => ?_)
    · refine jv_iload_n h dX12_readPerson_25 rfl ?_
      refine jv_bipush (nI 104) h dX12_readPerson_26 (by decide) ?_
      refine jv_nne 35 h dX12_readPerson_28 (by decide) (by repeat (with_reducible first | exact NF_nI _ | assumption | refine NF_add ?_ ?_ | refine NF_mul ?_ ?_)) (by repeat (with_reducible first | exact NF_nI _ | assumption | refine NF_add ?_ ?_ | refine NF_mul ?_ ?_)) ⟨by omega, by omega⟩ (fun c28 => ?_) (fun c28 => ?_)
      · refine jv_iload_n h dX12_readPerson_35 rfl ?_
        refine jv_bipush (nI 107) h dX12_readPerson_36 (by decide) ?_
        refine jv_nne 45 h dX12_readPerson_38 (by decide) (by repeat (with_reducible first | exact NF_nI _ | assumption | refine NF_add ?_ ?_ | refine NF_mul ?_ ?_)) (by repeat (with_reducible first | exact NF_nI _ | assumption | refine NF_add ?_ ?_ | refine NF_mul ?_ ?_)) ⟨by omega, by omega⟩ (fun c38 => ?_) (fun c38 => ?_)
        · refine jv_iload_n h dX12_readPerson_45 rfl ?_
          refine jv_bipush (nI 97) h dX12_readPerson_46 (by decide) ?_
          refine jv_nne 55 h dX12_readPerson_48 (by decide) (by repeat (with_reducible first | exact NF_nI _ | assumption | refine NF_add ?_ ?_ | refine NF_mul ?_ ?_)) (by repeat (with_reducible first | exact NF_nI _ | assumption | refine NF_add ?_ ?_ | refine NF_mul ?_ ?_)) ⟨by omega, by omega⟩ (fun c48 => ?_) (fun c48 => ?_)
          · refine jv_iconst (-1) h dX12_readPerson_55 (by decide) ?_
            exact hj56 _ (by first | (rw [c8]; rfl) | (rw [c18]; rfl) | (rw [c28]; rfl) | (rw [c38]; rfl) | (rw [c48]; rfl) | (unfold kvI kiN; rw [if_neg c8, if_neg c18, if_neg c28, if_neg c38, if_neg c48]; rfl))
          · refine jv_iconst (nI 4) h dX12_readPerson_51 (by decide) ?_
            refine jv_goto 56 h dX12_readPerson_52 (by decide) ?_
            exact hj56 _ (by first | (rw [c8]; rfl) | (rw [c18]; rfl) | (rw [c28]; rfl) | (rw [c38]; rfl) | (rw [c48]; rfl) | (unfold kvI kiN; rw [if_neg c8, if_neg c18, if_neg c28, if_neg c38, if_neg c48]; rfl))
        · refine jv_iconst (nI 3) h dX12_readPerson_41 (by decide) ?_
          refine jv_goto 56 h dX12_readPerson_42 (by decide) ?_
          exact hj56 _ (by first | (rw [c8]; rfl) | (rw [c18]; rfl) | (rw [c28]; rfl) | (rw [c38]; rfl) | (rw [c48]; rfl) | (unfold kvI kiN; rw [if_neg c8, if_neg c18, if_neg c28, if_neg c38, if_neg c48]; rfl))
      · refine jv_iconst (nI 2) h dX12_readPerson_31 (by decide) ?_
        refine jv_goto 56 h dX12_readPerson_32 (by decide) ?_
        exact hj56 _ (by first | (rw [c8]; rfl) | (rw [c18]; rfl) | (rw [c28]; rfl) | (rw [c38]; rfl) | (rw [c48]; rfl) | (unfold kvI kiN; rw [if_neg c8, if_neg c18, if_neg c28, if_neg c38, if_neg c48]; rfl))
    · refine jv_iconst (nI 1) h dX12_readPerson_21 (by decide) ?_
      refine jv_goto 56 h dX12_readPerson_22 (by decide) ?_
      exact hj56 _ (by first | (rw [c8]; rfl) | (rw [c18]; rfl) | (rw [c28]; rfl) | (rw [c38]; rfl) | (rw [c48]; rfl) | (unfold kvI kiN; rw [if_neg c8, if_neg c18, if_neg c28, if_neg c38, if_neg c48]; rfl))
  · refine jv_iconst (nI 0) h dX12_readPerson_11 (by decide) ?_
    refine jv_goto 56 h dX12_readPerson_12 (by decide) ?_
    exact hj56 _ (by first | (rw [c8]; rfl) | (rw [c18]; rfl) | (rw [c28]; rfl) | (rw [c38]; rfl) | (rw [c48]; rfl) | (unfold kvI kiN; rw [if_neg c8, if_neg c18, if_neg c28, if_neg c38, if_neg c48]; rfl))
