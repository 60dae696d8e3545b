set_option maxHeartbeats 4000000 in
set_option maxRecDepth 100000 in
theorem c_isMissing {g : GT} {T : TT} {Mi : MI} {Ml : ML} {A ln : Nat} (hA : KD g T A 6) (hl : Mi A 1 = carI ln) (hb : ln ≤ 4) : Ct g yX7_isMissing cX7_isMissing 1 (some .boolean) 1 0 0 [.ref A] T Mi Ml (Ri T Mi Ml (bI (decide (ln = 0)))) := by
  refine Ct.of' (plainFor_of_name (by decide +kernel)) (by exact Nat.le_of_ble_eq_true rfl) ?_
  intro x hg hR h hr hnm hnl
  subst hg
  refine jv_aload_n h dX7_isMissing_0 rfl ?_
  refine jv_gv 1 h dX7_isMissing_1 cf_6 (by decide) gw_268 (by assumption) (by assumption) ?_
  refine jv_iconst (-1) h dX7_isMissing_4 (by decide) ?_
  refine jv_icmp_ne 12 h dX7_isMissing_5 (by decide) (fun c5 => ?_) (fun c5 => ?_)
  · rw [carI_m1 (by omega)] at c5
    refine jv_iconst (nI 0) h dX7_isMissing_12 (by decide) ?_
    exact jv_zret h hr dX7_isMissing_13 rfl ⟨by simp [c5, bI], rfl, rfl, rfl⟩
  · rw [carI_m1 (by omega)] at c5
    refine jv_iconst (nI 1) h dX7_isMissing_8 (by decide) ?_
    refine jv_goto 13 h dX7_isMissing_9 (by decide) ?_
    exact jv_zret h hr dX7_isMissing_13 rfl ⟨by simp [c5, bI], rfl, rfl, rfl⟩
set_option maxHeartbeats 4000000 in
set_option maxRecDepth 100000 in
theorem c_holds {g : GT} {T : TT} {Mi : MI} {Ml : ML} {A sz : Nat} (i n : Int32) (hA : KD g T A 6) (hl : Mi A 2 = nI sz) (hb : sz ≤ 24) : Ct g yX7_holds cX7_holds 3 (some .boolean) 1 0 0 [.ref A, .int i, .int n] T Mi Ml (Ri T Mi Ml (bI (hoB i n sz))) := by
  refine Ct.of' (plainFor_of_name (by decide +kernel)) (by exact Nat.le_of_ble_eq_true rfl) ?_
  intro x hg hR h hr hnm hnl
  subst hg
  refine jv_iload_n h dX7_holds_0 rfl ?_
  refine jv_if_lt 22 h dX7_holds_1 (by decide) (fun c1 => ?_) (fun c1 => ?_)
  · refine jv_iconst (nI 0) h dX7_holds_22 (by decide) ?_
    exact jv_zret h hr dX7_holds_23 rfl ⟨by first | (rw [ho_neg (Or.inl c1)]; rfl) | (rw [ho_neg (Or.inr c5)]; rfl) | (rw [ho_raw hb c1 c5] at c15; simp at c15; rw [c15]; rfl), rfl, rfl, rfl⟩
  · refine jv_iload_n h dX7_holds_4 rfl ?_
    refine jv_if_lt 22 h dX7_holds_5 (by decide) (fun c5 => ?_) (fun c5 => ?_)
    · refine jv_iconst (nI 0) h dX7_holds_22 (by decide) ?_
      exact jv_zret h hr dX7_holds_23 rfl ⟨by first | (rw [ho_neg (Or.inl c1)]; rfl) | (rw [ho_neg (Or.inr c5)]; rfl) | (rw [ho_raw hb c1 c5] at c15; simp at c15; rw [c15]; rfl), rfl, rfl, rfl⟩
    · refine jv_iload_n h dX7_holds_8 rfl ?_
      refine jv_aload_n h dX7_holds_9 rfl ?_
      refine jv_gv 2 h dX7_holds_10 cf_6 (by decide) gw_270 (by assumption) (by assumption) ?_
      refine jv_iload_n h dX7_holds_13 rfl ?_
      refine jv_isub h dX7_holds_14 ?_
      refine jv_icmp_gt 22 h dX7_holds_15 (by decide) (fun c15 => ?_) (fun c15 => ?_)
      · refine jv_iconst (nI 0) h dX7_holds_22 (by decide) ?_
        exact jv_zret h hr dX7_holds_23 rfl ⟨by first | (rw [ho_neg (Or.inl c1)]; rfl) | (rw [ho_neg (Or.inr c5)]; rfl) | (rw [ho_raw hb c1 c5] at c15; simp at c15; rw [c15]; rfl), rfl, rfl, rfl⟩
      · refine jv_iconst (nI 1) h dX7_holds_18 (by decide) ?_
        refine jv_goto 23 h dX7_holds_19 (by decide) ?_
        exact jv_zret h hr dX7_holds_23 rfl ⟨by first | (rw [ho_neg (Or.inl c1)]; rfl) | (rw [ho_neg (Or.inr c5)]; rfl) | (rw [ho_raw hb c1 c5] at c15; simp at c15; rw [c15]; rfl), rfl, rfl, rfl⟩
set_option maxHeartbeats 4000000 in
set_option maxRecDepth 100000 in
theorem c_refusal {g : GT} {T : TT} {Mi : MI} {Ml : ML} {A ln sz l : Nat} {u : Int32} (i n : Int32) (hA : KD g T A 6) (hl : Mi A 1 = carI ln) (hb : ln ≤ 4) (hz : ln ≠ 0 → Mi A 2 = nI sz ∧ sz ≤ 24) (hu : NF u l) (hl4 : l < 4) : Ct g yX7_refusal cX7_refusal 4 (some .int) 2 0 0 [.ref A, .int u, .int i, .int n] T Mi Ml (Ri T Mi Ml (rfN ln l i n sz)) := by
  refine Ct.of' (plainFor_of_name (by decide +kernel)) (by exact Nat.le_of_ble_eq_true rfl) ?_
  intro x hg hR h hr hnm hnl
  subst hg
  refine jv_aload_n h dX7_refusal_0 rfl ?_
  refine jv_VRi [] h dX7_refusal_1 cw_X7_22 cf_6 (by assumption) (c_isMissing (by assumption) (by assumption) (by omega)) (by decide) rfl rfl (Nat.le_of_ble_eq_true rfl) ⟨Nat.zero_le _, Nat.zero_le _⟩ ?_
  refine jv_beq 10 h dX7_refusal_4 (by decide) (fun c4 => ?_) (fun c4 => ?_)
  · simp at c4
    have hl' : Mi A 1 = nI (ln - 1) := by rw [hl]; unfold carI; rw [if_neg c4]
    obtain ⟨hz1, hz2⟩ := hz c4
    refine jv_iload_n h dX7_refusal_10 rfl ?_
    refine jv_aload_n h dX7_refusal_11 rfl ?_
    refine jv_gv 1 h dX7_refusal_12 cf_6 (by decide) gw_268 (by assumption) (by exact hl') ?_
    refine jv_neq 21 h dX7_refusal_15 (by decide) (by repeat (with_reducible first | exact NF_nI _ | assumption | refine NF_add ?_ ?_ | refine NF_mul ?_ ?_)) (by repeat (with_reducible first | exact NF_nI _ | assumption | refine NF_add ?_ ?_ | refine NF_mul ?_ ?_)) ⟨by omega, by omega⟩ (fun c15 => ?_) (fun c15 => ?_)
    · refine jv_aload_n h dX7_refusal_21 rfl ?_
      refine jv_iload_n h dX7_refusal_22 rfl ?_
      refine jv_iload_n h dX7_refusal_23 rfl ?_
      refine jv_VRi [_, _] h dX7_refusal_24 cw_X7_26 cf_6 (by assumption) (c_holds _ _ (by assumption) (by assumption) (by omega)) (by decide) rfl rfl (Nat.le_of_ble_eq_true rfl) ⟨Nat.zero_le _, Nat.zero_le _⟩ ?_
      refine jv_beq 34 h dX7_refusal_27 (by decide) (fun c27 => ?_) (fun c27 => ?_)
      · refine jv_bipush (-13) h dX7_refusal_34 (by decide) ?_
        exact jv_iret h hr dX7_refusal_36 ⟨by unfold rfN; rw [if_neg c4, if_neg (by omega)]; first | (rw [if_pos c27]; rfl) | (rw [if_neg (by simp [c27])]), rfl, rfl, rfl⟩
      · refine jv_iconst (nI 0) h dX7_refusal_30 (by decide) ?_
        refine jv_goto 36 h dX7_refusal_31 (by decide) ?_
        exact jv_iret h hr dX7_refusal_36 ⟨by unfold rfN; rw [if_neg c4, if_neg (by omega)]; first | (rw [if_pos c27]; rfl) | (rw [if_neg (by simp [c27])]), rfl, rfl, rfl⟩
    · refine jv_bipush (-12) h dX7_refusal_18 (by decide) ?_
      exact jv_iret h hr dX7_refusal_20 ⟨by unfold rfN; rw [if_neg c4, if_pos (by omega)], rfl, rfl, rfl⟩
  · simp at c4
    refine jv_bipush (-11) h dX7_refusal_7 (by decide) ?_
    exact jv_iret h hr dX7_refusal_9 ⟨by unfold rfN; rw [if_pos c4], rfl, rfl, rfl⟩
theorem sw_0_2 (w : Int32) : (w.toInt < 0 ∨ 2 < w.toInt) ∨ (w = nI 0 ∨ w = nI 1 ∨ w = nI 2) := by
  rcases sw_cases w (n := 3) (by decide) with h | ⟨j, h, rfl⟩
  · left; omega
  · right; rcases (show j = 0 ∨ j = 1 ∨ j = 2 by omega) with rfl | rfl | rfl <;> simp

set_option maxHeartbeats 4000000 in
set_option maxRecDepth 100000 in
theorem c_put {g : GT} {T : TT} {Mi : MI} {Ml : ML} {A ln j : Nat} {i : Int32} (v : Int64) (hA : ShtS g T A) (hl : Mi A 1 = carI ln) (hb : 1 ≤ ln ∧ ln ≤ 4) (hi : NF i j) (hj : j < 24) : Ct g yX7_put cX7_put 4 none 1 0 0 [.ref A, .int i, .long v] T Mi Ml (Gv T (fun Mi' Ml' => Mi' = Mi ∧ Ml' = upd2 Ml (A + 1) j (cvL (ln - 1) v))) := by
  refine Ct.of' (plainFor_of_name (by decide +kernel)) (by exact Nat.le_of_ble_eq_true rfl) ?_
  intro x hg hR h hr hnm hnl
  subst hg
  obtain ⟨a1, a2, a3⟩ := id hA
  obtain ⟨l, rfl⟩ : ∃ l, ln = l + 1 := ⟨ln - 1, by omega⟩
  rw [carI_s] at hl
  have hl4 : l < 4 := by omega
  rw [show l + 1 - 1 = l by omega] at hr
  refine jv_aload_n h dX7_put_0 rfl ?_
  refine jv_gv 1 h dX7_put_1 cf_6 (by decide) gw_268 (by assumption) (by assumption) ?_
  rcases sw_0_2 (nI l) with hsw | hsw | hsw | hsw
  · refine jv_tabOut 70 h dX7_put_4 hsw (by decide) ?_
    have hl3 : l = 3 := by rw [nI_toInt (by omega)] at hsw; omega
    subst hl3
    refine jv_aload_n h dX7_put_70 rfl ?_
    refine jv_gr 0 h dX7_put_71 cf_6 (by decide) gw_266 (by assumption) (by assumption) ?_
    refine jv_iload_n h dX7_put_74 rfl ?_
    refine jv_lload_n h dX7_put_75 rfl ?_
    refine jv_last h dX7_put_76 (by assumption) hi ⟨hj, by decide⟩ ?_
    exact jv_vret h hr dX7_put_77 ⟨rfl, rfl, rfl, by unfold cvL; simp⟩
  · have hl3 : l = 0 := by have := (nI_eq (a := l) (b := 0) (by omega) (by omega)).mp hsw; exact this
    subst hl3
    refine jv_tabIn (off := 28) 32 h dX7_put_4 (by decide) (by decide) (by decide) (by decide) ?_
    refine jv_aload_n h dX7_put_32 rfl ?_
    refine jv_gr 0 h dX7_put_33 cf_6 (by decide) gw_266 (by assumption) (by assumption) ?_
    refine jv_iload_n h dX7_put_36 rfl ?_
    refine jv_lload_n h dX7_put_37 rfl ?_
    refine jv_l2i h dX7_put_38 ?_
    refine jv_i2b h dX7_put_39 ?_
    refine jv_i2l h dX7_put_40 ?_
    refine jv_last h dX7_put_41 (by assumption) hi ⟨hj, by decide⟩ ?_
    refine jv_goto 77 h dX7_put_42 (by decide) ?_
    exact jv_vret h hr dX7_put_77 ⟨rfl, rfl, rfl, by unfold cvL; simp⟩
  · have hl3 : l = 1 := by have := (nI_eq (a := l) (b := 1) (by omega) (by omega)).mp hsw; exact this
    subst hl3
    refine jv_tabIn (off := 41) 45 h dX7_put_4 (by decide) (by decide) (by decide) (by decide) ?_
    refine jv_aload_n h dX7_put_45 rfl ?_
    refine jv_gr 0 h dX7_put_46 cf_6 (by decide) gw_266 (by assumption) (by assumption) ?_
    refine jv_iload_n h dX7_put_49 rfl ?_
    refine jv_lload_n h dX7_put_50 rfl ?_
    refine jv_l2i h dX7_put_51 ?_
    refine jv_i2s h dX7_put_52 ?_
    refine jv_i2l h dX7_put_53 ?_
    refine jv_last h dX7_put_54 (by assumption) hi ⟨hj, by decide⟩ ?_
    refine jv_goto 77 h dX7_put_55 (by decide) ?_
    exact jv_vret h hr dX7_put_77 ⟨rfl, rfl, rfl, by unfold cvL; simp⟩
  · have hl3 : l = 2 := by have := (nI_eq (a := l) (b := 2) (by omega) (by omega)).mp hsw; exact this
    subst hl3
    refine jv_tabIn (off := 54) 58 h dX7_put_4 (by decide) (by decide) (by decide) (by decide) ?_
    refine jv_aload_n h dX7_put_58 rfl ?_
    refine jv_gr 0 h dX7_put_59 cf_6 (by decide) gw_266 (by assumption) (by assumption) ?_
    refine jv_iload_n h dX7_put_62 rfl ?_
    refine jv_lload_n h dX7_put_63 rfl ?_
    refine jv_l2i h dX7_put_64 ?_
    refine jv_i2l h dX7_put_65 ?_
    refine jv_last h dX7_put_66 (by assumption) hi ⟨hj, by decide⟩ ?_
    refine jv_goto 77 h dX7_put_67 (by decide) ?_
    exact jv_vret h hr dX7_put_77 ⟨rfl, rfl, rfl, by unfold cvL; simp⟩
set_option maxHeartbeats 4000000 in
set_option maxRecDepth 100000 in
theorem c_shbegin {g : GT} {T : TT} {Mi : MI} {Ml : ML} {A : Nat} (a b : Int32) (hA : ShtS g T A) : Ct g yX7_begin cX7_begin 4 none 1 0 0 [.ref A, .int a, .int b] T Mi Ml (Gv T (fun Mi' Ml' => Mi' = upd2 (upd2 Mi A 1 a) A 2 b ∧ (∀ q, q ≠ A + 1 → Ml' q = Ml q) ∧ ∀ k, k < 24 → Ml' (A + 1) k = 0)) := by
  refine Ct.of' (plainFor_of_name (by decide +kernel)) (by exact Nat.le_of_ble_eq_true rfl) ?_
  intro x hg hR h hr hnm hnl
  subst hg
  obtain ⟨a1, a2, a3⟩ := id hA
  refine jv_aload_n h dX7_begin_0 rfl ?_
  refine jv_iload_n h dX7_begin_1 rfl ?_
  refine jv_pi 1 h dX7_begin_2 cf_6 (by decide) gw_268 (by assumption) rfl rfl rfl ?_
  refine jv_aload_n h dX7_begin_5 rfl ?_
  refine jv_iload_n h dX7_begin_6 rfl ?_
  refine jv_pi 2 h dX7_begin_7 cf_6 (by decide) gw_270 (by assumption) rfl rfl rfl ?_
  refine jv_iconst (nI 0) h dX7_begin_10 (by decide) ?_
  refine jv_istore_n h dX7_begin_11 (lt_nl hnl (by decide)) ?_
  have hl12 : ∀ (n : Nat) (i : Nat) (L1 : ML), 24 - i < n → i ≤ 24 → (∀ q, q ≠ A + 1 → L1 q = Ml q) → (∀ k, k < i → L1 (A + 1) k = 0) → V x 0 0 T (upd2 (upd2 Mi A 1 a) A 2 b) L1 12 [some (.ref A), some (.int a), some (.int b), some (.int (nI i))] [] := by
    intro n
    induction n with
    | zero => intro i L1 hN9 hi f1 f2; exact absurd hN9 (by omega)
    | succ n ih =>
      intro i L1 hN9 hi f1 f2
      refine jv_iload_n h dX7_begin_12 rfl ?_
      refine jv_bipush (nI 24) h dX7_begin_13 (by decide) ?_
      refine jv_nge 31 h dX7_begin_15 (by decide) (by repeat (with_reducible first | exact NF_nI _ | assumption | refine NF_add ?_ ?_ | refine NF_mul ?_ ?_)) (by repeat (with_reducible first | exact NF_nI _ | assumption | refine NF_add ?_ ?_ | refine NF_mul ?_ ?_)) ⟨by omega, by omega⟩ (fun c15 => ?_) (fun c15 => ?_)
      · exact jv_vret h hr dX7_begin_31 ⟨rfl, rfl, rfl, f1, fun k hk => f2 k (by omega)⟩
      · refine jv_aload_n h dX7_begin_18 rfl ?_
        refine jv_gr 0 h dX7_begin_19 cf_6 (by decide) gw_266 (by assumption) (by assumption) ?_
        refine jv_iload_n h dX7_begin_22 rfl ?_
        refine jv_lconst (lN 0) h dX7_begin_23 (by decide) ?_
        refine jv_last h dX7_begin_24 (by assumption) (by repeat (with_reducible first | exact NF_nI _ | assumption | refine NF_add ?_ ?_ | refine NF_mul ?_ ?_)) ⟨by omega, by decide⟩ ?_
        refine jv_iinc (nI (i + 1)) h dX7_begin_25 rfl (lt_nl hnl (by decide)) (nI_inc i) ?_
        refine jv_goto 12 h dX7_begin_28 (by decide) ?_
        exact ih (i + 1) _ (by omega) (by omega) (fun q hq => by rw [upd2_row _ _ hq, f1 q hq]) (fun k hk => by
          by_cases hki : k = i
          · rw [hki, upd2_same]; rfl
          · rw [upd2_ne _ _ (by omega)]; exact f2 k (by omega))
  exact hl12 25 0 _ (by omega) (by omega) (fun q _ => rfl) (fun k hk => absurd hk (by omega))
