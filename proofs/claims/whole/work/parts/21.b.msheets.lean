def FrM (Mi : MI) (Ml : ML) (Mi' : MI) (Ml' : ML) (Y : Nat) : Prop := (∀ a, a ≠ Y + 7 → a ≠ Y + 8 → Mi' a = Mi a) ∧ ∀ a, a ≠ Y + 9 → a ≠ Y + 10 → Ml' a = Ml a
theorem FrM.rf (Mi : MI) (Ml : ML) (Y : Nat) : FrM Mi Ml Mi Ml Y := ⟨fun _ _ _ => rfl, fun _ _ _ => rfl⟩
theorem ShM.upd {Mi Mi' : MI} {Ml Ml' : ML} {Y : Nat} {h : SH} {s ln sz : Nat} {it : Nat → Int64} (hc : ShM Mi Ml Y h) (hs : s < 4) (e7 : ∀ k, k ≠ s → Mi' (Y + 7) k = Mi (Y + 7) k) (e8 : ∀ k, k ≠ s → Mi' (Y + 8) k = Mi (Y + 8) k) (e9 : ∀ k, (k < 24 * s ∨ 24 * s + 24 ≤ k) → Ml' (Y + 9) k = Ml (Y + 9) k) (h1 : Mi' (Y + 7) s = carI ln) (h2 : ln ≤ 4) (h3 : ln ≠ 0 → Mi' (Y + 8) s = nI sz ∧ sz ≤ 24 ∧ ∀ k, k < 24 → Ml' (Y + 9) (24 * s + k) = it k) : ShM Mi' Ml' Y (shSet h s ln sz it) := by
  intro k hk
  unfold shSet
  dsimp only
  by_cases hks : k = s
  · subst hks
    rw [if_pos rfl, if_pos rfl, if_pos rfl]
    exact ⟨h1, h2, h3⟩
  · rw [if_neg hks, if_neg hks, if_neg hks]
    obtain ⟨g1, g2, g3⟩ := hc k hk
    refine ⟨by rw [e7 _ hks]; exact g1, g2, fun z => ?_⟩
    obtain ⟨k1, k2, k3⟩ := g3 z
    exact ⟨by rw [e8 _ hks]; exact k1, k2, fun j hj => by rw [e9 _ (by omega)]; exact k3 j hj⟩

theorem rfN_ge {ln l sz : Nat} {i n : Int32} (h : 0 ≤ rfN ln l i n sz) : rfN ln l i n sz = 0 := by
  unfold rfN at h ⊢
  by_cases h1 : ln = 0
  · rw [if_pos h1] at h; exact absurd h (by decide)
  · rw [if_neg h1] at h ⊢
    by_cases h2 : l + 1 ≠ ln
    · rw [if_pos h2] at h; exact absurd h (by decide)
    · rw [if_neg h2] at h ⊢
      by_cases h3 : hoB i n sz = true
      · rw [if_pos h3]
      · rw [if_neg h3] at h; exact absurd h (by decide)
theorem rfN_ok {ln l sz : Nat} {i n : Int32} (h : ln = l + 1) : rfN ln l i n sz = if hoB i n sz = true then 0 else -13 := by
  unfold rfN
  rw [if_neg (by omega), if_neg (by omega)]
theorem rfN_no {ln l sz : Nat} {i n : Int32} (h0 : ln ≠ 0) (h : ln ≠ l + 1) : rfN ln l i n sz = -12 := by
  unfold rfN
  rw [if_neg h0, if_pos (by omega)]

set_option maxHeartbeats 4000000 in
set_option maxRecDepth 100000 in
theorem cm_why {g : GT} {T : TT} {Mi : MI} {Ml : ML} {Y : Nat} {q : SH} (hM : ModS g T Y) (hC : ShM Mi Ml Y q) {s l : Int32} {s9 l9 : Nat} (hs : NF s s9) (hs9 : s9 < 4) (hl : NF l l9) (hl9 : l9 < 4) (i n : Int32) : Ct g yX12_why cX12_why 5 (some .int) 1 0 0 [.ref Y, .int s, .int l, .int i, .int n] T Mi Ml (Ri T Mi Ml (rfN (q.1 s9) l9 i n (q.2.1 s9))) := by
  refine Ct.of' (plainFor_of_name (by decide +kernel)) (by exact Nat.le_of_ble_eq_true rfl) ?_
  intro x hg hR h hr hnm hnl
  subst hg
  obtain ⟨hY, ⟨r0, a0⟩, ⟨r1, a1⟩, ⟨r5, a5⟩, ⟨r6, a6⟩, ⟨r7, a7⟩, ⟨r9, a9⟩, ⟨r12, a12⟩, ⟨r13, a13⟩, ⟨r14, a14⟩, ⟨r15, a15⟩, r16, a16⟩ := id hM
  obtain rfl : s = nI s9 := hs
  obtain rfl : l = nI l9 := hl
  obtain ⟨e1, e2, e3⟩ := hC s9 hs9
  refine jv_aload_n h dX12_why_0 rfl ?_
  refine jv_gr 12 h dX12_why_1 cf_11 (by decide) gw_912 (by assumption) (by assumption) ?_
  refine jv_iload_n h dX12_why_4 rfl ?_
  refine jv_iav h dX12_why_5 (by assumption) (by repeat (with_reducible first | exact NF_nI _ | assumption | refine NF_add ?_ ?_ | refine NF_mul ?_ ?_)) ⟨by omega, by decide⟩ (by assumption) ?_
  refine jv_if_ge 12 h dX12_why_6 (by decide) (fun c6 => ?_) (fun c6 => ?_)
  · rw [i32_le0, carI_neg (by omega)] at c6
    obtain ⟨e4, e5, e6⟩ := e3 c6
    refine jv_aload_n h dX12_why_12 rfl ?_
    refine jv_gr 12 h dX12_why_13 cf_11 (by decide) gw_912 (by assumption) (by assumption) ?_
    refine jv_iload_n h dX12_why_16 rfl ?_
    refine jv_iav h dX12_why_17 (by assumption) (by repeat (with_reducible first | exact NF_nI _ | assumption | refine NF_add ?_ ?_ | refine NF_mul ?_ ?_)) ⟨by omega, by decide⟩ (by assumption) ?_
    refine jv_iload_n h dX12_why_18 rfl ?_
    refine jv_icmp_eq 25 h dX12_why_19 (by decide) (fun c19 => ?_) (fun c19 => ?_)
    · rw [carI_eq (by omega) (by omega)] at c19
      refine jv_iload_n h dX12_why_25 rfl ?_
      refine jv_if_lt 51 h dX12_why_26 (by decide) (fun c26 => ?_) (fun c26 => ?_)
      · refine jv_bipush (-13) h dX12_why_51 (by decide) ?_
        refine jv_goto 57 h dX12_why_53 (by decide) ?_
        exact jv_iret h hr dX12_why_57 ⟨by
      unfold rfN
      rw [if_neg c6, if_neg (by omega)]
      first
      | (rw [ho_neg (Or.inl c26)]; rfl)
      | (rw [ho_neg (Or.inr c31)]; rfl)
      | (rw [Int32.lt_iff_toInt_lt, show (0 : Int32).toInt = 0 from rfl] at c26 c31
         first
         | (have hh : hoB i n (q.2.1 s9) = true := (by unfold hoB; rw [decide_eq_true_iff]; omega)
            rw [if_pos hh]; first | done | rfl)
         | (have hh : ¬ hoB i n (q.2.1 s9) = true := (by unfold hoB; rw [decide_eq_true_iff]; omega)
            rw [if_neg hh]; first | done | rfl)), rfl, rfl, rfl⟩
      · refine jv_iload h dX12_why_29 rfl ?_
        refine jv_if_lt 51 h dX12_why_31 (by decide) (fun c31 => ?_) (fun c31 => ?_)
        · refine jv_bipush (-13) h dX12_why_51 (by decide) ?_
          refine jv_goto 57 h dX12_why_53 (by decide) ?_
          exact jv_iret h hr dX12_why_57 ⟨by
      unfold rfN
      rw [if_neg c6, if_neg (by omega)]
      first
      | (rw [ho_neg (Or.inl c26)]; rfl)
      | (rw [ho_neg (Or.inr c31)]; rfl)
      | (rw [Int32.lt_iff_toInt_lt, show (0 : Int32).toInt = 0 from rfl] at c26 c31
         first
         | (have hh : hoB i n (q.2.1 s9) = true := (by unfold hoB; rw [decide_eq_true_iff]; omega)
            rw [if_pos hh]; first | done | rfl)
         | (have hh : ¬ hoB i n (q.2.1 s9) = true := (by unfold hoB; rw [decide_eq_true_iff]; omega)
            rw [if_neg hh]; first | done | rfl)), rfl, rfl, rfl⟩
        · refine jv_iload_n h dX12_why_34 rfl ?_
          refine jv_i2l h dX12_why_35 ?_
          refine jv_iload h dX12_why_36 rfl ?_
          refine jv_i2l h dX12_why_38 ?_
          refine jv_ladd h dX12_why_39 ?_
          refine jv_aload_n h dX12_why_40 rfl ?_
          refine jv_gr 13 h dX12_why_41 cf_11 (by decide) gw_913 (by assumption) (by assumption) ?_
          refine jv_iload_n h dX12_why_44 rfl ?_
          refine jv_iav h dX12_why_45 (by assumption) (by repeat (with_reducible first | exact NF_nI _ | assumption | refine NF_add ?_ ?_ | refine NF_mul ?_ ?_)) ⟨by omega, by decide⟩ (by assumption) ?_
          refine jv_i2l h dX12_why_46 ?_
          refine jv_lcmp h dX12_why_47 ?_
          refine jv_if_le 56 h dX12_why_48 (by decide) (fun c48 => ?_) (fun c48 => ?_)
          · rw [ho_lng e5] at c48
            refine jv_iconst (nI 0) h dX12_why_56 (by decide) ?_
            exact jv_iret h hr dX12_why_57 ⟨by
      unfold rfN
      rw [if_neg c6, if_neg (by omega)]
      first
      | (rw [ho_neg (Or.inl c26)]; rfl)
      | (rw [ho_neg (Or.inr c31)]; rfl)
      | (rw [Int32.lt_iff_toInt_lt, show (0 : Int32).toInt = 0 from rfl] at c26 c31
         first
         | (have hh : hoB i n (q.2.1 s9) = true := (by unfold hoB; rw [decide_eq_true_iff]; omega)
            rw [if_pos hh]; first | done | rfl)
         | (have hh : ¬ hoB i n (q.2.1 s9) = true := (by unfold hoB; rw [decide_eq_true_iff]; omega)
            rw [if_neg hh]; first | done | rfl)), rfl, rfl, rfl⟩
          · rw [ho_lng e5] at c48
            refine jv_bipush (-13) h dX12_why_51 (by decide) ?_
            refine jv_goto 57 h dX12_why_53 (by decide) ?_
            exact jv_iret h hr dX12_why_57 ⟨by
      unfold rfN
      rw [if_neg c6, if_neg (by omega)]
      first
      | (rw [ho_neg (Or.inl c26)]; rfl)
      | (rw [ho_neg (Or.inr c31)]; rfl)
      | (rw [Int32.lt_iff_toInt_lt, show (0 : Int32).toInt = 0 from rfl] at c26 c31
         first
         | (have hh : hoB i n (q.2.1 s9) = true := (by unfold hoB; rw [decide_eq_true_iff]; omega)
            rw [if_pos hh]; first | done | rfl)
         | (have hh : ¬ hoB i n (q.2.1 s9) = true := (by unfold hoB; rw [decide_eq_true_iff]; omega)
            rw [if_neg hh]; first | done | rfl)), rfl, rfl, rfl⟩
    · rw [carI_eq (by omega) (by omega)] at c19
      refine jv_bipush (-12) h dX12_why_22 (by decide) ?_
      exact jv_iret h hr dX12_why_24 ⟨by unfold rfN; rw [if_neg c6, if_pos (by omega)], rfl, rfl, rfl⟩
  · rw [i32_le0, carI_neg (by omega)] at c6
    simp at c6
    refine jv_bipush (-11) h dX12_why_9 (by decide) ?_
    exact jv_iret h hr dX12_why_11 ⟨by unfold rfN; rw [if_pos c6], rfl, rfl, rfl⟩
set_option maxHeartbeats 4000000 in
set_option maxRecDepth 100000 in
theorem cm_sheet {g : GT} {T : TT} {Mi : MI} {Ml : ML} {Y : Nat} {q : SH} (hM : ModS g T Y) (hC : ShM Mi Ml Y q) (s l n : Int32) : Ct g yX12_sheet cX12_sheet 5 (some .int) 3 0 0 [.ref Y, .int s, .int l, .int n] T Mi Ml (Gi T (fun rv Mi' Ml' => rv = (sp_sheet q s l n).1 ∧ FrM Mi Ml Mi' Ml' Y ∧ ShM Mi' Ml' Y (sp_sheet q s l n).2)) := by
  refine Ct.of' (plainFor_of_name (by decide +kernel)) (by exact Nat.le_of_ble_eq_true rfl) ?_
  intro x hg hR h hr hnm hnl
  subst hg
  obtain ⟨hY, ⟨r0, a0⟩, ⟨r1, a1⟩, ⟨r5, a5⟩, ⟨r6, a6⟩, ⟨r7, a7⟩, ⟨r9, a9⟩, ⟨r12, a12⟩, ⟨r13, a13⟩, ⟨r14, a14⟩, ⟨r15, a15⟩, r16, a16⟩ := id hM
  refine jv_iload_n h dX12_sheet_0 rfl ?_
  refine jv_SRi [_] h dX12_sheet_1 cw_X12_214 (cm_isSheet _) (by decide) rfl rfl (Nat.le_of_ble_eq_true rfl) ⟨Nat.zero_le _, Nat.zero_le _⟩ ?_
  refine jv_beq 20 h dX12_sheet_4 (by decide) (fun c4 => ?_) (fun c4 => ?_)
  · refine jv_iconst (-1) h dX12_sheet_20 (by decide) ?_
    exact jv_iret h hr dX12_sheet_21 ⟨_, rfl, rfl, by
    have e : sp_sheet q s l n = (-1, q) := (by unfold sp_sheet; rw [if_neg (by first | (simp_all; done) | (intro z; exact absurd ((i32_le24 n).mpr z.2.2) c17))])
    rw [e]
    exact ⟨rfl, FrM.rf _ _ _, hC⟩⟩
  · refine jv_iload_n h dX12_sheet_7 rfl ?_
    refine jv_SRi [_] h dX12_sheet_8 cw_X12_217 (cm_isLane _) (by decide) rfl rfl (Nat.le_of_ble_eq_true rfl) ⟨Nat.zero_le _, Nat.zero_le _⟩ ?_
    refine jv_beq 20 h dX12_sheet_11 (by decide) (fun c11 => ?_) (fun c11 => ?_)
    · refine jv_iconst (-1) h dX12_sheet_20 (by decide) ?_
      exact jv_iret h hr dX12_sheet_21 ⟨_, rfl, rfl, by
    have e : sp_sheet q s l n = (-1, q) := (by unfold sp_sheet; rw [if_neg (by first | (simp_all; done) | (intro z; exact absurd ((i32_le24 n).mpr z.2.2) c17))])
    rw [e]
    exact ⟨rfl, FrM.rf _ _ _, hC⟩⟩
    · refine jv_iload_n h dX12_sheet_14 rfl ?_
      refine jv_bipush (nI 24) h dX12_sheet_15 (by decide) ?_
      refine jv_icmp_le 22 h dX12_sheet_17 (by decide) (fun c17 => ?_) (fun c17 => ?_)
      · refine jv_iload_n h dX12_sheet_22 rfl ?_
        refine jv_if_ge 29 h dX12_sheet_23 (by decide) (fun c23 => ?_) (fun c23 => ?_)
        · obtain ⟨s9, rfl, -, hs9⟩ := isB_t c4
          obtain ⟨l9, rfl, -, hl9⟩ := isB_t c11
          obtain ⟨n9, hn9, rfl⟩ := nI_of ((i32_le0 n).mp c23)
          rw [i32_le24, nI_toInt hn9] at c17
          refine jv_aload_n h dX12_sheet_29 rfl ?_
          refine jv_gr 12 h dX12_sheet_30 cf_11 (by decide) gw_912 (by assumption) (by assumption) ?_
          refine jv_iload_n h dX12_sheet_33 rfl ?_
          refine jv_iload_n h dX12_sheet_34 rfl ?_
          refine jv_iast h dX12_sheet_35 (by assumption) (by repeat (with_reducible first | exact NF_nI _ | assumption | refine NF_add ?_ ?_ | refine NF_mul ?_ ?_)) ⟨by omega, by decide⟩ ?_
          refine jv_aload_n h dX12_sheet_36 rfl ?_
          refine jv_gr 13 h dX12_sheet_37 cf_11 (by decide) gw_913 (by assumption) (by assumption) ?_
          refine jv_iload_n h dX12_sheet_40 rfl ?_
          refine jv_iload_n h dX12_sheet_41 rfl ?_
          refine jv_iast h dX12_sheet_42 (by assumption) (by repeat (with_reducible first | exact NF_nI _ | assumption | refine NF_add ?_ ?_ | refine NF_mul ?_ ?_)) ⟨by omega, by decide⟩ ?_
          refine jv_iconst (nI 0) h dX12_sheet_43 (by decide) ?_
          refine jv_istore h dX12_sheet_44 (lt_nl hnl (by decide)) ?_
          have hl46 : ∀ (n : Nat) (i : Nat) (L1 : ML), 24 - i < n → i ≤ 24 → (∀ k, k ≠ Y + 9 → L1 k = Ml k) → (∀ k, (k < 24 * s9 ∨ 24 * s9 + i ≤ k) → L1 (Y + 9) k = Ml (Y + 9) k) → (∀ k, k < i → L1 (Y + 9) (24 * s9 + k) = 0) → V x 0 0 T (upd2 (upd2 Mi (Y + 7) s9 (nI l9)) (Y + 8) s9 (nI n9)) L1 46 [some (.ref Y), some (.int (nI s9)), some (.int (nI l9)), some (.int (nI n9)), some (.int (nI i))] [] := by
            intro n
            induction n with
            | zero => intro i L1 hN9 hi f1 f2 f3; exact absurd hN9 (by omega)
            | succ n ih =>
              intro i L1 hN9 hi f1 f2 f3
              refine jv_iload h dX12_sheet_46 rfl ?_
              refine jv_bipush (nI 24) h dX12_sheet_48 (by decide) ?_
              refine jv_nge 72 h dX12_sheet_50 (by decide) (by repeat (with_reducible first | exact NF_nI _ | assumption | refine NF_add ?_ ?_ | refine NF_mul ?_ ?_)) (by repeat (with_reducible first | exact NF_nI _ | assumption | refine NF_add ?_ ?_ | refine NF_mul ?_ ?_)) ⟨by omega, by omega⟩ (fun c50 => ?_) (fun c50 => ?_)
              · refine jv_iload_n h dX12_sheet_72 rfl ?_
                exact jv_iret h hr dX12_sheet_73 ⟨_, rfl, rfl, by
    have e : sp_sheet q (nI s9) (nI l9) (nI n9) = (nI n9, shSet q s9 (l9 + 1) n9 (fun _ => 0)) := (by unfold sp_sheet; rw [if_pos ⟨by assumption, by assumption, by rw [nI_toInt hn9]; exact c17⟩, if_neg (nI_pos hn9), pn_nI (by omega), pn_nI (by omega), pn_nI (by omega)])
    rw [e]
    obtain rfl : i = 24 := by omega
    refine ⟨rfl, ⟨fun a h1 h2 => by rw [upd2_row _ _ h2, upd2_row _ _ h1], fun a h1 _ => f1 a h1⟩, hC.upd hs9 (fun k hk => by rw [upd2_row _ _ (by omega), upd2_ne _ _ (by omega)]) (fun k hk => by rw [upd2_ne _ _ (by omega), upd2_row _ _ (by omega)]) f2 (by rw [upd2_row _ _ (by omega), upd2_same, carI_s]) (by omega) (fun _ => ⟨by rw [upd2_same], by omega, fun k hk => f3 k (by omega)⟩)⟩⟩
              · refine jv_aload_n h dX12_sheet_53 rfl ?_
                refine jv_gr 14 h dX12_sheet_54 cf_11 (by decide) gw_914 (by assumption) (by assumption) ?_
                refine jv_bipush (nI 24) h dX12_sheet_57 (by decide) ?_
                refine jv_iload_n h dX12_sheet_59 rfl ?_
                first | refine jv_imulN h dX12_sheet_60 (by repeat (with_reducible first | exact NF_nI _ | assumption | refine NF_add ?_ ?_ | refine NF_mul ?_ ?_)) (by repeat (with_reducible first | exact NF_nI _ | assumption | refine NF_add ?_ ?_ | refine NF_mul ?_ ?_)) ?_ | refine jv_imul h dX12_sheet_60 ?_
                refine jv_iload h dX12_sheet_61 rfl ?_
                first | refine jv_iaddN h dX12_sheet_63 (by repeat (with_reducible first | exact NF_nI _ | assumption | refine NF_add ?_ ?_ | refine NF_mul ?_ ?_)) (by repeat (with_reducible first | exact NF_nI _ | assumption | refine NF_add ?_ ?_ | refine NF_mul ?_ ?_)) ?_ | refine jv_iadd h dX12_sheet_63 ?_
                refine jv_lconst (lN 0) h dX12_sheet_64 (by decide) ?_
                refine jv_last h dX12_sheet_65 (by assumption) (by repeat (with_reducible first | exact NF_nI _ | assumption | refine NF_add ?_ ?_ | refine NF_mul ?_ ?_)) ⟨by omega, by decide⟩ ?_
                refine jv_iinc (nI (i + 1)) h dX12_sheet_66 rfl (lt_nl hnl (by decide)) (nI_inc i) ?_
                refine jv_goto 46 h dX12_sheet_69 (by decide) ?_
                exact ih (i + 1) _ (by omega) (by omega) (fun k hk => by rw [upd2_row _ _ hk, f1 k hk]) (fun k hk => by rw [upd2_ne _ _ (by omega)]; exact f2 k (by omega)) (fun k hk => by
                  by_cases hki : k = i
                  · rw [hki, upd2_same]; first | done | rfl
                  · rw [upd2_ne _ _ (by omega)]; exact f3 k (by omega))
          exact hl46 25 0 _ (by omega) (by omega) (fun q _ => rfl) (fun k hk => rfl) (fun k hk => absurd hk (by omega))
        · refine jv_bipush (-14) h dX12_sheet_26 (by decide) ?_
          exact jv_iret h hr dX12_sheet_28 ⟨_, rfl, rfl, by
    have e : sp_sheet q s l n = (-14, q) := (by unfold sp_sheet; rw [if_pos ⟨by assumption, by assumption, (i32_le24 n).mp c17⟩, if_pos (by rw [i32_le0] at c23; simpa using c23)])
    rw [e]
    exact ⟨rfl, FrM.rf _ _ _, hC⟩⟩
      · refine jv_iconst (-1) h dX12_sheet_20 (by decide) ?_
        exact jv_iret h hr dX12_sheet_21 ⟨_, rfl, rfl, by
    have e : sp_sheet q s l n = (-1, q) := (by unfold sp_sheet; rw [if_neg (by first | (simp_all; done) | (intro z; exact absurd ((i32_le24 n).mpr z.2.2) c17))])
    rw [e]
    exact ⟨rfl, FrM.rf _ _ _, hC⟩⟩
set_option maxHeartbeats 4000000 in
set_option maxRecDepth 100000 in
theorem cm_drop {g : GT} {T : TT} {Mi : MI} {Ml : ML} {Y : Nat} {q : SH} (hM : ModS g T Y) (hC : ShM Mi Ml Y q) (s : Int32) : Ct g yX12_drop cX12_drop 2 (some .int) 3 0 0 [.ref Y, .int s] T Mi Ml (Gi T (fun rv Mi' Ml' => rv = (sp_drop q s).1 ∧ FrM Mi Ml Mi' Ml' Y ∧ ShM Mi' Ml' Y (sp_drop q s).2)) := by
  refine Ct.of' (plainFor_of_name (by decide +kernel)) (by exact Nat.le_of_ble_eq_true rfl) ?_
  intro x hg hR h hr hnm hnl
  subst hg
  obtain ⟨hY, ⟨r0, a0⟩, ⟨r1, a1⟩, ⟨r5, a5⟩, ⟨r6, a6⟩, ⟨r7, a7⟩, ⟨r9, a9⟩, ⟨r12, a12⟩, ⟨r13, a13⟩, ⟨r14, a14⟩, ⟨r15, a15⟩, r16, a16⟩ := id hM
  refine jv_iload_n h dX12_drop_0 rfl ?_
  refine jv_SRi [_] h dX12_drop_1 cw_X12_214 (cm_isSheet _) (by decide) rfl rfl (Nat.le_of_ble_eq_true rfl) ⟨Nat.zero_le _, Nat.zero_le _⟩ ?_
  refine jv_bne 9 h dX12_drop_4 (by decide) (fun c4 => ?_) (fun c4 => ?_)
  · obtain ⟨s9, rfl, -, hs9⟩ := isB_t c4
    obtain ⟨e1, e2, e3⟩ := hC s9 hs9
    have hsp : sp_drop q (nI s9) = (if q.1 s9 = 0 then (-11, q) else (nI (q.2.1 s9), shSet q s9 0 (q.2.1 s9) (q.2.2 s9))) := (by unfold sp_drop; rw [if_pos c4, pn_nI (by omega)])
    refine jv_aload_n h dX12_drop_9 rfl ?_
    refine jv_gr 12 h dX12_drop_10 cf_11 (by decide) gw_912 (by assumption) (by assumption) ?_
    refine jv_iload_n h dX12_drop_13 rfl ?_
    refine jv_iav h dX12_drop_14 (by assumption) (by repeat (with_reducible first | exact NF_nI _ | assumption | refine NF_add ?_ ?_ | refine NF_mul ?_ ?_)) ⟨by omega, by decide⟩ (by assumption) ?_
    refine jv_if_ge 21 h dX12_drop_15 (by decide) (fun c15 => ?_) (fun c15 => ?_)
    · rw [i32_le0, carI_neg (by omega)] at c15
      obtain ⟨e4, e5, e6⟩ := e3 c15
      have e7 : upd2 Mi (Y + 7) s9 (-1) (Y + 8) s9 = nI (q.2.1 s9) := by rw [upd2_row _ _ (by omega)]; exact e4
      refine jv_aload_n h dX12_drop_21 rfl ?_
      refine jv_gr 12 h dX12_drop_22 cf_11 (by decide) gw_912 (by assumption) (by assumption) ?_
      refine jv_iload_n h dX12_drop_25 rfl ?_
      refine jv_iconst (-1) h dX12_drop_26 (by decide) ?_
      refine jv_iast h dX12_drop_27 (by assumption) (by repeat (with_reducible first | exact NF_nI _ | assumption | refine NF_add ?_ ?_ | refine NF_mul ?_ ?_)) ⟨by omega, by decide⟩ ?_
      refine jv_aload_n h dX12_drop_28 rfl ?_
      refine jv_gr 13 h dX12_drop_29 cf_11 (by decide) gw_913 (by assumption) (by assumption) ?_
      refine jv_iload_n h dX12_drop_32 rfl ?_
      refine jv_iav h dX12_drop_33 (by assumption) (by repeat (with_reducible first | exact NF_nI _ | assumption | refine NF_add ?_ ?_ | refine NF_mul ?_ ?_)) ⟨by omega, by decide⟩ (by assumption) ?_
      exact jv_iret h hr dX12_drop_34 ⟨_, rfl, rfl, by
    rw [hsp, if_neg c15]
    exact ⟨rfl, ⟨fun a h1 _ => upd2_row _ _ h1, fun _ _ _ => rfl⟩, hC.upd hs9 (fun k hk => by rw [upd2_ne _ _ (by omega)]) (fun k hk => by rw [upd2_row _ _ (by omega)]) (fun _ _ => rfl) (by rw [upd2_same, carI_0]) (by omega) (fun z => absurd rfl z)⟩⟩
    · rw [i32_le0, carI_neg (by omega)] at c15
      simp at c15
      refine jv_bipush (-11) h dX12_drop_18 (by decide) ?_
      exact jv_iret h hr dX12_drop_20 ⟨_, rfl, rfl, by
    have e : sp_drop q (nI s9) = (-11, q) := (by rw [hsp, if_pos c15])
    rw [e]
    exact ⟨rfl, FrM.rf _ _ _, hC⟩⟩
  · refine jv_iconst (-1) h dX12_drop_7 (by decide) ?_
    exact jv_iret h hr dX12_drop_8 ⟨_, rfl, rfl, by
    have e : sp_drop q s = (-1, q) := (by unfold sp_drop; rw [if_neg (by simp [c4])])
    rw [e]
    exact ⟨rfl, FrM.rf _ _ _, hC⟩⟩
set_option maxHeartbeats 4000000 in
set_option maxRecDepth 100000 in
theorem cm_item {g : GT} {T : TT} {Mi : MI} {Ml : ML} {Y : Nat} {q : SH} (hM : ModS g T Y) (hC : ShM Mi Ml Y q) (s l i : Int32) (v : Int64) : Ct g yX12_item cX12_item 7 (some .int) 3 0 0 [.ref Y, .int s, .int l, .int i, .long v] T Mi Ml (Gi T (fun rv Mi' Ml' => rv = (sp_item q s l i v).1 ∧ FrM Mi Ml Mi' Ml' Y ∧ ShM Mi' Ml' Y (sp_item q s l i v).2)) := by
  refine Ct.of' (plainFor_of_name (by decide +kernel)) (by exact Nat.le_of_ble_eq_true rfl) ?_
  intro x hg hR h hr hnm hnl
  subst hg
  obtain ⟨hY, ⟨r0, a0⟩, ⟨r1, a1⟩, ⟨r5, a5⟩, ⟨r6, a6⟩, ⟨r7, a7⟩, ⟨r9, a9⟩, ⟨r12, a12⟩, ⟨r13, a13⟩, ⟨r14, a14⟩, ⟨r15, a15⟩, r16, a16⟩ := id hM
  refine jv_iload_n h dX12_item_0 rfl ?_
  refine jv_SRi [_] h dX12_item_1 cw_X12_214 (cm_isSheet _) (by decide) rfl rfl (Nat.le_of_ble_eq_true rfl) ⟨Nat.zero_le _, Nat.zero_le _⟩ ?_
  refine jv_beq 14 h dX12_item_4 (by decide) (fun c4 => ?_) (fun c4 => ?_)
  · refine jv_iconst (-1) h dX12_item_14 (by decide) ?_
    exact jv_iret h hr dX12_item_15 ⟨_, rfl, rfl, by
    have e : sp_item q s l i v = (-1, q) := (by unfold sp_item; rw [if_neg (by simp_all)])
    rw [e]
    exact ⟨rfl, FrM.rf _ _ _, hC⟩⟩
  · refine jv_iload_n h dX12_item_7 rfl ?_
    refine jv_SRi [_] h dX12_item_8 cw_X12_217 (cm_isLane _) (by decide) rfl rfl (Nat.le_of_ble_eq_true rfl) ⟨Nat.zero_le _, Nat.zero_le _⟩ ?_
    refine jv_bne 16 h dX12_item_11 (by decide) (fun c11 => ?_) (fun c11 => ?_)
    · obtain ⟨s9, rfl, -, hs9⟩ := isB_t c4
      obtain ⟨l9, rfl, -, hl9⟩ := isB_t c11
      obtain ⟨e1, e2, e3⟩ := hC s9 hs9
      have hsp : sp_item q (nI s9) (nI l9) i v = (if rfN (q.1 s9) l9 i (nI 1) (q.2.1 s9) = 0 then (nI 1, shSet q s9 (q.1 s9) (q.2.1 s9) (itSet (q.2.2 s9) (pn i) (cvL l9 v))) else (rfN (q.1 s9) l9 i (nI 1) (q.2.1 s9), q)) := (by unfold sp_item; rw [if_pos ⟨by assumption, by assumption⟩, pn_nI (by omega), pn_nI (by omega)])
      refine jv_aload_n h dX12_item_16 rfl ?_
      refine jv_iload_n h dX12_item_17 rfl ?_
      refine jv_iload_n h dX12_item_18 rfl ?_
      refine jv_iload_n h dX12_item_19 rfl ?_
      refine jv_iconst (nI 1) h dX12_item_20 (by decide) ?_
      refine jv_VRi [_, _, _, _] h dX12_item_21 cw_X12_220 cf_11 (by assumption) (cm_why (by assumption) (by assumption) (by repeat (with_reducible first | exact NF_nI _ | assumption | refine NF_add ?_ ?_ | refine NF_mul ?_ ?_)) (by omega) (by repeat (with_reducible first | exact NF_nI _ | assumption | refine NF_add ?_ ?_ | refine NF_mul ?_ ?_)) (by omega) _ _) (by decide) rfl rfl (Nat.le_of_ble_eq_true rfl) ⟨Nat.zero_le _, Nat.zero_le _⟩ ?_
      refine jv_istore h dX12_item_24 (lt_nl hnl (by decide)) ?_
      refine jv_iload h dX12_item_26 rfl ?_
      refine jv_if_ge 34 h dX12_item_28 (by decide) (fun c28 => ?_) (fun c28 => ?_)
      · have c26' := rfN_ge c28
        obtain ⟨k1, k2⟩ := rfN_0 c26'
        obtain ⟨e4, e5, e6⟩ := e3 (by omega)
        obtain ⟨a9, b9, rfl, hb9, hab⟩ := hoB_t k2
        have hb1 : 1 = b9 := by have := NF_inj hb9 (by decide) (by omega); exact this
        refine jv_aload_n h dX12_item_34 rfl ?_
        refine jv_gr 14 h dX12_item_35 cf_11 (by decide) gw_914 (by assumption) (by assumption) ?_
        refine jv_bipush (nI 24) h dX12_item_38 (by decide) ?_
        refine jv_iload_n h dX12_item_40 rfl ?_
        first | refine jv_imulN h dX12_item_41 (by repeat (with_reducible first | exact NF_nI _ | assumption | refine NF_add ?_ ?_ | refine NF_mul ?_ ?_)) (by repeat (with_reducible first | exact NF_nI _ | assumption | refine NF_add ?_ ?_ | refine NF_mul ?_ ?_)) ?_ | refine jv_imul h dX12_item_41 ?_
        refine jv_iload_n h dX12_item_42 rfl ?_
        first | refine jv_iaddN h dX12_item_43 (by repeat (with_reducible first | exact NF_nI _ | assumption | refine NF_add ?_ ?_ | refine NF_mul ?_ ?_)) (by repeat (with_reducible first | exact NF_nI _ | assumption | refine NF_add ?_ ?_ | refine NF_mul ?_ ?_)) ?_ | refine jv_iadd h dX12_item_43 ?_
        refine jv_iload_n h dX12_item_44 rfl ?_
        refine jv_zne 56 h dX12_item_45 (by decide) (by repeat (with_reducible first | exact NF_nI _ | assumption | refine NF_add ?_ ?_ | refine NF_mul ?_ ?_)) (by omega) (fun c45 => ?_) (fun c45 => ?_)
        · refine jv_iload_n h dX12_item_56 rfl ?_
          refine jv_iconst (nI 1) h dX12_item_57 (by decide) ?_
          refine jv_nne 69 h dX12_item_58 (by decide) (by repeat (with_reducible first | exact NF_nI _ | assumption | refine NF_add ?_ ?_ | refine NF_mul ?_ ?_)) (by repeat (with_reducible first | exact NF_nI _ | assumption | refine NF_add ?_ ?_ | refine NF_mul ?_ ?_)) ⟨by omega, by omega⟩ (fun c58 => ?_) (fun c58 => ?_)
          · refine jv_iload_n h dX12_item_69 rfl ?_
            refine jv_iconst (nI 2) h dX12_item_70 (by decide) ?_
            refine jv_nne 81 h dX12_item_71 (by decide) (by repeat (with_reducible first | exact NF_nI _ | assumption | refine NF_add ?_ ?_ | refine NF_mul ?_ ?_)) (by repeat (with_reducible first | exact NF_nI _ | assumption | refine NF_add ?_ ?_ | refine NF_mul ?_ ?_)) ⟨by omega, by omega⟩ (fun c71 => ?_) (fun c71 => ?_)
            · refine jv_lload h dX12_item_81 rfl ?_
              refine jv_last h dX12_item_83 (by assumption) (by repeat (with_reducible first | exact NF_nI _ | assumption | refine NF_add ?_ ?_ | refine NF_mul ?_ ?_)) ⟨by omega, by decide⟩ ?_
              refine jv_iconst (nI 1) h dX12_item_84 (by decide) ?_
              exact jv_iret h hr dX12_item_85 ⟨_, rfl, rfl, by
    rw [hsp, if_pos c26', pn_nI (by omega)]
    refine ⟨rfl, ⟨fun _ _ _ => rfl, fun a h1 _ => upd2_row _ _ h1⟩, hC.upd hs9 (fun k hk => rfl) (fun k hk => rfl) (fun k hk => by rw [upd2_ne _ _ (by omega)]) e1 e2 (fun _ => ⟨e4, e5, fun k hk => ?_⟩)⟩
    unfold itSet
    by_cases hka : k = a9
    · rw [if_pos hka, hka, upd2_same]
      unfold cvL
      first
      | (rw [if_pos c45]; done)
      | (rw [if_neg c45, if_pos c58]; done)
      | (rw [if_neg c45, if_neg c58, if_pos c71]; done)
      | (rw [if_neg c45, if_neg c58, if_neg c71])
    · rw [if_neg hka, upd2_ne _ _ (by omega)]; exact e6 k hk⟩
            · refine jv_lload h dX12_item_74 rfl ?_
              refine jv_l2i h dX12_item_76 ?_
              refine jv_i2l h dX12_item_77 ?_
              refine jv_goto 83 h dX12_item_78 (by decide) ?_
              refine jv_last h dX12_item_83 (by assumption) (by repeat (with_reducible first | exact NF_nI _ | assumption | refine NF_add ?_ ?_ | refine NF_mul ?_ ?_)) ⟨by omega, by decide⟩ ?_
              refine jv_iconst (nI 1) h dX12_item_84 (by decide) ?_
              exact jv_iret h hr dX12_item_85 ⟨_, rfl, rfl, by
    rw [hsp, if_pos c26', pn_nI (by omega)]
    refine ⟨rfl, ⟨fun _ _ _ => rfl, fun a h1 _ => upd2_row _ _ h1⟩, hC.upd hs9 (fun k hk => rfl) (fun k hk => rfl) (fun k hk => by rw [upd2_ne _ _ (by omega)]) e1 e2 (fun _ => ⟨e4, e5, fun k hk => ?_⟩)⟩
    unfold itSet
    by_cases hka : k = a9
    · rw [if_pos hka, hka, upd2_same]
      unfold cvL
      first
      | (rw [if_pos c45]; done)
      | (rw [if_neg c45, if_pos c58]; done)
      | (rw [if_neg c45, if_neg c58, if_pos c71]; done)
      | (rw [if_neg c45, if_neg c58, if_neg c71])
    · rw [if_neg hka, upd2_ne _ _ (by omega)]; exact e6 k hk⟩
          · refine jv_lload h dX12_item_61 rfl ?_
            refine jv_l2i h dX12_item_63 ?_
            refine jv_i2s h dX12_item_64 ?_
            refine jv_i2l h dX12_item_65 ?_
            refine jv_goto 83 h dX12_item_66 (by decide) ?_
            refine jv_last h dX12_item_83 (by assumption) (by repeat (with_reducible first | exact NF_nI _ | assumption | refine NF_add ?_ ?_ | refine NF_mul ?_ ?_)) ⟨by omega, by decide⟩ ?_
            refine jv_iconst (nI 1) h dX12_item_84 (by decide) ?_
            exact jv_iret h hr dX12_item_85 ⟨_, rfl, rfl, by
    rw [hsp, if_pos c26', pn_nI (by omega)]
    refine ⟨rfl, ⟨fun _ _ _ => rfl, fun a h1 _ => upd2_row _ _ h1⟩, hC.upd hs9 (fun k hk => rfl) (fun k hk => rfl) (fun k hk => by rw [upd2_ne _ _ (by omega)]) e1 e2 (fun _ => ⟨e4, e5, fun k hk => ?_⟩)⟩
    unfold itSet
    by_cases hka : k = a9
    · rw [if_pos hka, hka, upd2_same]
      unfold cvL
      first
      | (rw [if_pos c45]; done)
      | (rw [if_neg c45, if_pos c58]; done)
      | (rw [if_neg c45, if_neg c58, if_pos c71]; done)
      | (rw [if_neg c45, if_neg c58, if_neg c71])
    · rw [if_neg hka, upd2_ne _ _ (by omega)]; exact e6 k hk⟩
        · refine jv_lload h dX12_item_48 rfl ?_
          refine jv_l2i h dX12_item_50 ?_
          refine jv_i2b h dX12_item_51 ?_
          refine jv_i2l h dX12_item_52 ?_
          refine jv_goto 83 h dX12_item_53 (by decide) ?_
          refine jv_last h dX12_item_83 (by assumption) (by repeat (with_reducible first | exact NF_nI _ | assumption | refine NF_add ?_ ?_ | refine NF_mul ?_ ?_)) ⟨by omega, by decide⟩ ?_
          refine jv_iconst (nI 1) h dX12_item_84 (by decide) ?_
          exact jv_iret h hr dX12_item_85 ⟨_, rfl, rfl, by
    rw [hsp, if_pos c26', pn_nI (by omega)]
    refine ⟨rfl, ⟨fun _ _ _ => rfl, fun a h1 _ => upd2_row _ _ h1⟩, hC.upd hs9 (fun k hk => rfl) (fun k hk => rfl) (fun k hk => by rw [upd2_ne _ _ (by omega)]) e1 e2 (fun _ => ⟨e4, e5, fun k hk => ?_⟩)⟩
    unfold itSet
    by_cases hka : k = a9
    · rw [if_pos hka, hka, upd2_same]
      unfold cvL
      first
      | (rw [if_pos c45]; done)
      | (rw [if_neg c45, if_pos c58]; done)
      | (rw [if_neg c45, if_neg c58, if_pos c71]; done)
      | (rw [if_neg c45, if_neg c58, if_neg c71])
    · rw [if_neg hka, upd2_ne _ _ (by omega)]; exact e6 k hk⟩
      · have c26' : ¬ rfN (q.1 s9) l9 i (nI 1) (q.2.1 s9) = 0 := fun z => c28 (by rw [z]; decide)
        refine jv_iload h dX12_item_31 rfl ?_
        exact jv_iret h hr dX12_item_33 ⟨_, rfl, rfl, by
    have e : sp_item q (nI s9) (nI l9) i v = (rfN (q.1 s9) l9 i (nI 1) (q.2.1 s9), q) := (by rw [hsp, if_neg c26'])
    rw [e]
    exact ⟨rfl, FrM.rf _ _ _, hC⟩⟩
    · refine jv_iconst (-1) h dX12_item_14 (by decide) ?_
      exact jv_iret h hr dX12_item_15 ⟨_, rfl, rfl, by
    have e : sp_item q s l i v = (-1, q) := (by unfold sp_item; rw [if_neg (by simp_all)])
    rw [e]
    exact ⟨rfl, FrM.rf _ _ _, hC⟩⟩
set_option maxHeartbeats 4000000 in
set_option maxRecDepth 100000 in
theorem cm_copy {g : GT} {T : TT} {Mi : MI} {Ml : ML} {Y : Nat} {q : SH} (hM : ModS g T Y) (hC : ShM Mi Ml Y q) (f i t j n : Int32) : Ct g yX12_copy cX12_copy 8 (some .int) 3 0 0 [.ref Y, .int f, .int i, .int t, .int j, .int n] T Mi Ml (Gi T (fun rv Mi' Ml' => rv = (sp_copy q f i t j n).1 ∧ FrM Mi Ml Mi' Ml' Y ∧ ShM Mi' Ml' Y (sp_copy q f i t j n).2)) := by
  refine Ct.of' (plainFor_of_name (by decide +kernel)) (by exact Nat.le_of_ble_eq_true rfl) ?_
  intro x hg hR h hr hnm hnl
  subst hg
  obtain ⟨hY, ⟨r0, a0⟩, ⟨r1, a1⟩, ⟨r5, a5⟩, ⟨r6, a6⟩, ⟨r7, a7⟩, ⟨r9, a9⟩, ⟨r12, a12⟩, ⟨r13, a13⟩, ⟨r14, a14⟩, ⟨r15, a15⟩, r16, a16⟩ := id hM
  refine jv_iload_n h dX12_copy_0 rfl ?_
  refine jv_SRi [_] h dX12_copy_1 cw_X12_214 (cm_isSheet _) (by decide) rfl rfl (Nat.le_of_ble_eq_true rfl) ⟨Nat.zero_le _, Nat.zero_le _⟩ ?_
  refine jv_beq 14 h dX12_copy_4 (by decide) (fun c4 => ?_) (fun c4 => ?_)
  · refine jv_iconst (-1) h dX12_copy_14 (by decide) ?_
    exact jv_iret h hr dX12_copy_15 ⟨_, rfl, rfl, by
    have e : sp_copy q f i t j n = (-1, q) := (by unfold sp_copy; rw [if_neg (by simp_all)])
    rw [e]
    exact ⟨rfl, FrM.rf _ _ _, hC⟩⟩
  · refine jv_iload_n h dX12_copy_7 rfl ?_
    refine jv_SRi [_] h dX12_copy_8 cw_X12_214 (cm_isSheet _) (by decide) rfl rfl (Nat.le_of_ble_eq_true rfl) ⟨Nat.zero_le _, Nat.zero_le _⟩ ?_
    refine jv_bne 16 h dX12_copy_11 (by decide) (fun c11 => ?_) (fun c11 => ?_)
    · obtain ⟨f9, rfl, -, hf9⟩ := isB_t c4
      obtain ⟨t9, rfl, -, ht9⟩ := isB_t c11
      obtain ⟨e1, e2, e3⟩ := hC f9 hf9
      obtain ⟨k1, k2, k3⟩ := hC t9 ht9
      have hsp : sp_copy q (nI f9) i (nI t9) j n = (if q.1 f9 = 0 ∨ q.1 t9 = 0 then (-11, q) else if q.1 f9 ≠ q.1 t9 then (-12, q) else if hoB i n (q.2.1 f9) = true ∧ hoB j n (q.2.1 t9) = true then (n, shSet q t9 (q.1 t9) (q.2.1 t9) (cpI (q.2.2 f9) (q.2.2 t9) (pn i) (pn j) (pn n))) else (-13, q)) := (by unfold sp_copy; rw [if_pos ⟨by assumption, by assumption⟩, pn_nI (by omega), pn_nI (by omega)])
      refine jv_aload_n h dX12_copy_16 rfl ?_
      refine jv_gr 12 h dX12_copy_17 cf_11 (by decide) gw_912 (by assumption) (by assumption) ?_
      refine jv_iload_n h dX12_copy_20 rfl ?_
      refine jv_iav h dX12_copy_21 (by assumption) (by repeat (with_reducible first | exact NF_nI _ | assumption | refine NF_add ?_ ?_ | refine NF_mul ?_ ?_)) ⟨by omega, by decide⟩ (by assumption) ?_
      refine jv_if_lt 34 h dX12_copy_22 (by decide) (fun c22 => ?_) (fun c22 => ?_)
      · rw [carI_neg (by omega)] at c22
        refine jv_bipush (-11) h dX12_copy_34 (by decide) ?_
        exact jv_iret h hr dX12_copy_36 ⟨_, rfl, rfl, by
    have e : sp_copy q (nI f9) i (nI t9) j n = (-11, q) := (by rw [hsp, if_pos (by omega)])
    rw [e]
    exact ⟨rfl, FrM.rf _ _ _, hC⟩⟩
      · rw [carI_neg (by omega)] at c22
        refine jv_aload_n h dX12_copy_25 rfl ?_
        refine jv_gr 12 h dX12_copy_26 cf_11 (by decide) gw_912 (by assumption) (by assumption) ?_
        refine jv_iload_n h dX12_copy_29 rfl ?_
        refine jv_iav h dX12_copy_30 (by assumption) (by repeat (with_reducible first | exact NF_nI _ | assumption | refine NF_add ?_ ?_ | refine NF_mul ?_ ?_)) ⟨by omega, by decide⟩ (by assumption) ?_
        refine jv_if_ge 37 h dX12_copy_31 (by decide) (fun c31 => ?_) (fun c31 => ?_)
        · rw [i32_le0, carI_neg (by omega)] at c31
          obtain ⟨e4, e5, e6⟩ := e3 c22
          obtain ⟨k4, k5, k6⟩ := k3 c31
          rw [if_neg (by omega)] at hsp
          have e1' : Mi (Y + 7) f9 = nI (q.1 f9 - 1) := by rw [e1]; unfold carI; rw [if_neg c22]
          refine jv_aload_n h dX12_copy_37 rfl ?_
          refine jv_iload_n h dX12_copy_38 rfl ?_
          refine jv_aload_n h dX12_copy_39 rfl ?_
          refine jv_gr 12 h dX12_copy_40 cf_11 (by decide) gw_912 (by assumption) (by assumption) ?_
          refine jv_iload_n h dX12_copy_43 rfl ?_
          refine jv_iav h dX12_copy_44 (by assumption) (by repeat (with_reducible first | exact NF_nI _ | assumption | refine NF_add ?_ ?_ | refine NF_mul ?_ ?_)) ⟨by omega, by decide⟩ (by exact e1') ?_
          refine jv_iload h dX12_copy_45 rfl ?_
          refine jv_iload h dX12_copy_47 rfl ?_
          refine jv_VRi [_, _, _, _] h dX12_copy_49 cw_X12_220 cf_11 (by assumption) (cm_why (by assumption) (by assumption) (by repeat (with_reducible first | exact NF_nI _ | assumption | refine NF_add ?_ ?_ | refine NF_mul ?_ ?_)) (by omega) (by repeat (with_reducible first | exact NF_nI _ | assumption | refine NF_add ?_ ?_ | refine NF_mul ?_ ?_)) (by omega) _ _) (by decide) rfl rfl (Nat.le_of_ble_eq_true rfl) ⟨Nat.zero_le _, Nat.zero_le _⟩ ?_
          refine jv_istore h dX12_copy_52 (lt_nl hnl (by decide)) ?_
          refine jv_iload h dX12_copy_54 rfl ?_
          refine jv_if_ne 76 h dX12_copy_56 (by decide) (fun c56 => ?_) (fun c56 => ?_)
          · refine jv_iload h dX12_copy_76 rfl ?_
            refine jv_istore h dX12_copy_78 (lt_nl hnl (by decide)) ?_
            refine jv_iload h dX12_copy_80 rfl ?_
            refine jv_if_ge 88 h dX12_copy_82 (by decide) (fun c82 => ?_) (fun c82 => ?_)
            · exact absurd (rfN_ge c82) c56
            · refine jv_iload h dX12_copy_85 rfl ?_
              refine jv_iret h hr dX12_copy_87 ⟨_, rfl, rfl, ?_⟩
              by_cases hq : q.1 f9 = q.1 t9
              · rw [if_neg (by omega), if_neg (fun z => c56 (by rw [rfN_ok (by omega), if_pos z.2]))] at hsp
                have hv : rfN (q.1 t9) (q.1 f9 - 1) j n (q.2.1 t9) = -13 := (by rw [rfN_ok (by omega), if_neg (fun z => c56 (by rw [rfN_ok (by omega), if_pos z]))])
                rw [hsp, hv]
                exact ⟨rfl, FrM.rf _ _ _, hC⟩
              · rw [if_pos hq] at hsp
                have hv : rfN (q.1 t9) (q.1 f9 - 1) j n (q.2.1 t9) = -12 := rfN_no c31 (by omega)
                rw [hsp, hv]
                exact ⟨rfl, FrM.rf _ _ _, hC⟩
          · have z1 := rfN_0 c56
            rw [if_neg (by omega)] at hsp
            refine jv_aload_n h dX12_copy_59 rfl ?_
            refine jv_iload_n h dX12_copy_60 rfl ?_
            refine jv_aload_n h dX12_copy_61 rfl ?_
            refine jv_gr 12 h dX12_copy_62 cf_11 (by decide) gw_912 (by assumption) (by assumption) ?_
            refine jv_iload_n h dX12_copy_65 rfl ?_
            refine jv_iav h dX12_copy_66 (by assumption) (by repeat (with_reducible first | exact NF_nI _ | assumption | refine NF_add ?_ ?_ | refine NF_mul ?_ ?_)) ⟨by omega, by decide⟩ (by exact e1') ?_
            refine jv_iload_n h dX12_copy_67 rfl ?_
            refine jv_iload h dX12_copy_68 rfl ?_
            refine jv_VRi [_, _, _, _] h dX12_copy_70 cw_X12_220 cf_11 (by assumption) (cm_why (by assumption) (by assumption) (by repeat (with_reducible first | exact NF_nI _ | assumption | refine NF_add ?_ ?_ | refine NF_mul ?_ ?_)) (by omega) (by repeat (with_reducible first | exact NF_nI _ | assumption | refine NF_add ?_ ?_ | refine NF_mul ?_ ?_)) (by omega) _ _) (by decide) rfl rfl (Nat.le_of_ble_eq_true rfl) ⟨Nat.zero_le _, Nat.zero_le _⟩ ?_
            refine jv_goto 78 h dX12_copy_73 (by decide) ?_
            refine jv_istore h dX12_copy_78 (lt_nl hnl (by decide)) ?_
            refine jv_iload h dX12_copy_80 rfl ?_
            refine jv_if_ge 88 h dX12_copy_82 (by decide) (fun c82 => ?_) (fun c82 => ?_)
            · have z2 := rfN_ge c82
              have z3 := rfN_0 z2
              obtain ⟨a9, n9, rfl, hn9, hab⟩ := hoB_t z3.2
              obtain ⟨b9, n8, rfl, hn8, hbb⟩ := hoB_t z1.2
              have hnn : n9 = n8 := NF_inj2 hn9 hn8 (by omega) (by omega)
              subst hnn
              obtain rfl : n = nI n9 := hn9
              rw [if_pos ⟨z3.2, z1.2⟩, pn_nI (by omega), pn_nI (by omega), pn_nI (by omega)] at hsp
              refine jv_iconst (nI 0) h dX12_copy_88 (by decide) ?_
              refine jv_istore h dX12_copy_89 (lt_nl hnl (by decide)) ?_
              have hl91 : ∀ (n : Nat) (b : Nat) (L1 : ML), n9 - b < n → b ≤ n9 → (∀ a, a ≠ Y + 10 → L1 a = Ml a) → (∀ k, k < b → L1 (Y + 10) k = q.2.2 f9 (a9 + k)) → V x 0 0 T Mi L1 91 [some (.ref Y), some (.int (nI f9)), some (.int (nI a9)), some (.int (nI t9)), some (.int (nI b9)), some (.int (nI n9)), some (.int 0), some (.int (nI b))] [] := by
                intro n
                induction n with
                | zero => intro b L1 hN9 hb f1 f2; exact absurd hN9 (by omega)
                | succ n ih =>
                  intro b L1 hN9 hb f1 f2
                  refine jv_iload h dX12_copy_91 rfl ?_
                  refine jv_iload h dX12_copy_93 rfl ?_
                  refine jv_nge 125 h dX12_copy_95 (by decide) (by repeat (with_reducible first | exact NF_nI _ | assumption | refine NF_add ?_ ?_ | refine NF_mul ?_ ?_)) (by repeat (with_reducible first | exact NF_nI _ | assumption | refine NF_add ?_ ?_ | refine NF_mul ?_ ?_)) ⟨by omega, by omega⟩ (fun c95 => ?_) (fun c95 => ?_)
                  · refine jv_iconst (nI 0) h dX12_copy_125 (by decide) ?_
                    refine jv_istore h dX12_copy_126 (lt_nl hnl (by decide)) ?_
                    have hl128 : ∀ (n : Nat) (b : Nat) (L2 : ML), n9 - b < n → b ≤ n9 → (∀ a, a ≠ Y + 9 → a ≠ Y + 10 → L2 a = Ml a) → (∀ k, k < n9 → L2 (Y + 10) k = q.2.2 f9 (a9 + k)) → (∀ k, k < b → L2 (Y + 9) (24 * t9 + b9 + k) = q.2.2 f9 (a9 + k)) → (∀ k, (k < 24 * t9 + b9 ∨ 24 * t9 + b9 + b ≤ k) → L2 (Y + 9) k = Ml (Y + 9) k) → V x 0 0 T Mi L2 128 [some (.ref Y), some (.int (nI f9)), some (.int (nI a9)), some (.int (nI t9)), some (.int (nI b9)), some (.int (nI n9)), some (.int 0), some (.int (nI b))] [] := by
                      intro n
                      induction n with
                      | zero => intro b L2 hN9 hb g1 g2 g3 g4; exact absurd hN9 (by omega)
                      | succ n ih =>
                        intro b L2 hN9 hb g1 g2 g3 g4
                        refine jv_iload h dX12_copy_128 rfl ?_
                        refine jv_iload h dX12_copy_130 rfl ?_
                        refine jv_nge 163 h dX12_copy_132 (by decide) (by repeat (with_reducible first | exact NF_nI _ | assumption | refine NF_add ?_ ?_ | refine NF_mul ?_ ?_)) (by repeat (with_reducible first | exact NF_nI _ | assumption | refine NF_add ?_ ?_ | refine NF_mul ?_ ?_)) ⟨by omega, by omega⟩ (fun c132 => ?_) (fun c132 => ?_)
                        · refine jv_iload h dX12_copy_163 rfl ?_
                          exact jv_iret h hr dX12_copy_165 ⟨_, rfl, rfl, by
    rw [hsp]
    refine ⟨rfl, ⟨fun _ _ _ => rfl, g1⟩, hC.upd ht9 (fun k hk => rfl) (fun k hk => rfl) (fun k hk => g4 k (by omega)) k1 k2 (fun _ => ⟨k4, k5, fun k hk => ?_⟩)⟩
    unfold cpI
    by_cases hkk : b9 ≤ k ∧ k < b9 + n9
    · rw [if_pos hkk]
      have := g3 (k - b9) (by omega)
      rw [show 24 * t9 + b9 + (k - b9) = 24 * t9 + k by omega] at this
      exact this
    · rw [if_neg hkk, g4 _ (by omega)]; exact k6 _ hk⟩
                        · refine jv_aload_n h dX12_copy_135 rfl ?_
                          refine jv_gr 14 h dX12_copy_136 cf_11 (by decide) gw_914 (by assumption) (by assumption) ?_
                          refine jv_bipush (nI 24) h dX12_copy_139 (by decide) ?_
                          refine jv_iload_n h dX12_copy_141 rfl ?_
                          first | refine jv_imulN h dX12_copy_142 (by repeat (with_reducible first | exact NF_nI _ | assumption | refine NF_add ?_ ?_ | refine NF_mul ?_ ?_)) (by repeat (with_reducible first | exact NF_nI _ | assumption | refine NF_add ?_ ?_ | refine NF_mul ?_ ?_)) ?_ | refine jv_imul h dX12_copy_142 ?_
                          refine jv_iload h dX12_copy_143 rfl ?_
                          first | refine jv_iaddN h dX12_copy_145 (by repeat (with_reducible first | exact NF_nI _ | assumption | refine NF_add ?_ ?_ | refine NF_mul ?_ ?_)) (by repeat (with_reducible first | exact NF_nI _ | assumption | refine NF_add ?_ ?_ | refine NF_mul ?_ ?_)) ?_ | refine jv_iadd h dX12_copy_145 ?_
                          refine jv_iload h dX12_copy_146 rfl ?_
                          first | refine jv_iaddN h dX12_copy_148 (by repeat (with_reducible first | exact NF_nI _ | assumption | refine NF_add ?_ ?_ | refine NF_mul ?_ ?_)) (by repeat (with_reducible first | exact NF_nI _ | assumption | refine NF_add ?_ ?_ | refine NF_mul ?_ ?_)) ?_ | refine jv_iadd h dX12_copy_148 ?_
                          refine jv_aload_n h dX12_copy_149 rfl ?_
                          refine jv_gr 15 h dX12_copy_150 cf_11 (by decide) gw_915 (by assumption) (by assumption) ?_
                          refine jv_iload h dX12_copy_153 rfl ?_
                          refine jv_lald h dX12_copy_155 (by assumption) (by repeat (with_reducible first | exact NF_nI _ | assumption | refine NF_add ?_ ?_ | refine NF_mul ?_ ?_)) ⟨by omega, by decide⟩ ?_
                          refine jv_last h dX12_copy_156 (by assumption) (by repeat (with_reducible first | exact NF_nI _ | assumption | refine NF_add ?_ ?_ | refine NF_mul ?_ ?_)) ⟨by omega, by decide⟩ ?_
                          refine jv_iinc (nI (b + 1)) h dX12_copy_157 rfl (lt_nl hnl (by decide)) (nI_inc b) ?_
                          refine jv_goto 128 h dX12_copy_160 (by decide) ?_
                          exact ih (b + 1) _ (by omega) (by omega) (fun a h1 h2 => by rw [upd2_row _ _ h1, g1 a h1 h2]) (fun k hk => by rw [upd2_row _ _ (by omega)]; exact g2 k hk) (fun k hk => by
                            by_cases hkb : k = b
                            · rw [hkb, upd2_same]; exact g2 b (by omega)
                            · rw [upd2_ne _ _ (by omega)]; exact g3 k (by omega)) (fun k hk => by rw [upd2_ne _ _ (by omega)]; exact g4 k (by omega))
                    exact hl128 (n9 + 1) 0 _ (by omega) (by omega) (fun a _ h2 => f1 a h2) (fun k hk => f2 k (by omega)) (fun k hk => absurd hk (by omega)) (fun k _ => by rw [f1 _ (by omega)])
                  · refine jv_aload_n h dX12_copy_98 rfl ?_
                    refine jv_gr 15 h dX12_copy_99 cf_11 (by decide) gw_915 (by assumption) (by assumption) ?_
                    refine jv_iload h dX12_copy_102 rfl ?_
                    refine jv_aload_n h dX12_copy_104 rfl ?_
                    refine jv_gr 14 h dX12_copy_105 cf_11 (by decide) gw_914 (by assumption) (by assumption) ?_
                    refine jv_bipush (nI 24) h dX12_copy_108 (by decide) ?_
                    refine jv_iload_n h dX12_copy_110 rfl ?_
                    first | refine jv_imulN h dX12_copy_111 (by repeat (with_reducible first | exact NF_nI _ | assumption | refine NF_add ?_ ?_ | refine NF_mul ?_ ?_)) (by repeat (with_reducible first | exact NF_nI _ | assumption | refine NF_add ?_ ?_ | refine NF_mul ?_ ?_)) ?_ | refine jv_imul h dX12_copy_111 ?_
                    refine jv_iload_n h dX12_copy_112 rfl ?_
                    first | refine jv_iaddN h dX12_copy_113 (by repeat (with_reducible first | exact NF_nI _ | assumption | refine NF_add ?_ ?_ | refine NF_mul ?_ ?_)) (by repeat (with_reducible first | exact NF_nI _ | assumption | refine NF_add ?_ ?_ | refine NF_mul ?_ ?_)) ?_ | refine jv_iadd h dX12_copy_113 ?_
                    refine jv_iload h dX12_copy_114 rfl ?_
                    first | refine jv_iaddN h dX12_copy_116 (by repeat (with_reducible first | exact NF_nI _ | assumption | refine NF_add ?_ ?_ | refine NF_mul ?_ ?_)) (by repeat (with_reducible first | exact NF_nI _ | assumption | refine NF_add ?_ ?_ | refine NF_mul ?_ ?_)) ?_ | refine jv_iadd h dX12_copy_116 ?_
                    refine jv_lald h dX12_copy_117 (by assumption) (by repeat (with_reducible first | exact NF_nI _ | assumption | refine NF_add ?_ ?_ | refine NF_mul ?_ ?_)) ⟨by omega, by decide⟩ ?_
                    refine jv_last h dX12_copy_118 (by assumption) (by repeat (with_reducible first | exact NF_nI _ | assumption | refine NF_add ?_ ?_ | refine NF_mul ?_ ?_)) ⟨by omega, by decide⟩ ?_
                    refine jv_iinc (nI (b + 1)) h dX12_copy_119 rfl (lt_nl hnl (by decide)) (nI_inc b) ?_
                    refine jv_goto 91 h dX12_copy_122 (by decide) ?_
                    exact ih (b + 1) _ (by omega) (by omega) (fun a ha => by rw [upd2_row _ _ ha, f1 a ha]) (fun k hk => by
                      by_cases hkb : k = b
                      · rw [hkb, upd2_same, f1 _ (by omega), Nat.add_assoc]; exact e6 _ (by omega)
                      · rw [upd2_ne _ _ (by omega)]; exact f2 k (by omega))
              rw [z2]
              exact hl91 (n9 + 1) 0 _ (by omega) (by omega) (fun _ _ => rfl) (fun k hk => absurd hk (by omega))
            · refine jv_iload h dX12_copy_85 rfl ?_
              exact jv_iret h hr dX12_copy_87 ⟨_, rfl, rfl, by
    have hv : ¬ hoB i n (q.2.1 f9) = true := fun z => c82 (by rw [rfN_ok (by omega), if_pos z]; decide)
    rw [rfN_ok (by omega), if_neg hv]
    rw [if_neg (fun z => hv z.1)] at hsp
    rw [hsp]
    exact ⟨rfl, FrM.rf _ _ _, hC⟩⟩
        · rw [i32_le0, carI_neg (by omega)] at c31
          simp at c31
          refine jv_bipush (-11) h dX12_copy_34 (by decide) ?_
          exact jv_iret h hr dX12_copy_36 ⟨_, rfl, rfl, by
    have e : sp_copy q (nI f9) i (nI t9) j n = (-11, q) := (by rw [hsp, if_pos (by omega)])
    rw [e]
    exact ⟨rfl, FrM.rf _ _ _, hC⟩⟩
    · refine jv_iconst (-1) h dX12_copy_14 (by decide) ?_
      exact jv_iret h hr dX12_copy_15 ⟨_, rfl, rfl, by
    have e : sp_copy q f i t j n = (-1, q) := (by unfold sp_copy; rw [if_neg (by simp_all)])
    rw [e]
    exact ⟨rfl, FrM.rf _ _ _, hC⟩⟩
