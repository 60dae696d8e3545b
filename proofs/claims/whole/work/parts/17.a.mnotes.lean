theorem jv_forget2 {x : CX} {cs sl : Nat} {T : TT} {Mi : MI} {Ml : ML} {pc : Nat} {a b : Option Value} {st : List Value} (k : V x cs sl T Mi Ml pc [a, none] st) : V x cs sl T Mi Ml pc [a, b] st :=
  jv_forget (fun i v h => by
    match i, h with
    | 0, h => exact h
    | 1, h => cases h
    | i + 2, h => exact h) k

set_option maxHeartbeats 4000000 in
set_option maxRecDepth 100000 in
theorem cm_notes {g : GT} {T : TT} {Mi : MI} {Ml : ML} {Y : Nat} {S : Nat → Nat} (hM : ModS g T Y) (hN : NowR Mi (Y + 1) S) (hW : WF S) {u : Nat} {U : Nat → Nat → Nat} (hD : UndR Mi Y U u) : Ct g yX12_notes cX12_notes 2 none 1 0 0 [.ref Y] T Mi Ml (Gv T (fun Mi' Ml' => Ml' = Ml ∧ (∀ a, a ≠ Y → a ≠ Y + 5 → Mi' a = Mi a) ∧ (∀ q, q ≠ 8 → Mi' Y q = Mi Y q) ∧ UndR Mi' Y (puU U u S) (min (u + 1) 8))) := by
  refine Ct.of' (plainFor_of_name (by decide +kernel)) (by exact Nat.le_of_ble_eq_true rfl) ?_
  intro x hg hR h hr hnm hnl
  subst hg
  obtain ⟨hY, ⟨r0, a0⟩, ⟨r1, a1⟩, ⟨r5, a5⟩, ⟨r6, a6⟩, ⟨r7, a7⟩, ⟨r9, a9⟩, ⟨r12, a12⟩, ⟨r13, a13⟩, ⟨r14, a14⟩, ⟨r15, a15⟩, r16, a16⟩ := id hM
  obtain ⟨w0, w1, w2, w3, w4, w5, w6, w7⟩ := id hW
  obtain ⟨d1, d2, d3⟩ := id hD
  refine jv_aload_n h dX12_notes_0 rfl ?_
  refine jv_gv 8 h dX12_notes_1 cf_11 (by decide) gw_908 (by assumption) (by assumption) ?_
  refine jv_bipush (nI 8) h dX12_notes_4 (by decide) ?_
  have hj46 : ∀ (M2 : MI) (v : Nat), (∀ a, a ≠ Y → a ≠ Y + 5 → M2 a = Mi a) → (∀ q, q ≠ 8 → M2 Y q = Mi Y q) → M2 Y 8 = nI v → v = (if u = 8 then 7 else u) → (∀ j, j < v → ∀ k, k < 54 → M2 (Y + 5) (54 * j + k) = eN k ((if u = 8 then (fun j => U (j + 1)) else U) j k)) → V x 0 0 T M2 Ml 46 [some (.ref Y), none] [] := by
    intro M2 v k1 k2 k3 k4 k5
    have hv8 : v < 8 := by rw [k4]; split <;> omega
    refine jv_iconst (nI 0) h dX12_notes_46 (by decide) ?_
    refine jv_istore_n h dX12_notes_47 (lt_nl hnl (by decide)) ?_
    have hl48 : ∀ (n : Nat) (i : Nat) (M3 : MI), 54 - i < n → i ≤ 54 → (∀ a, a ≠ Y + 5 → M3 a = M2 a) → (∀ q, q < 54 * v → M3 (Y + 5) q = M2 (Y + 5) q) → (∀ k, k < i → M3 (Y + 5) (54 * v + k) = eN k (S k)) → V x 0 0 T M3 Ml 48 [some (.ref Y), some (.int (nI i))] [] := by
      intro n
      induction n with
      | zero => intro i M3 hN9 hi f1 f2 f3; exact absurd hN9 (by omega)
      | succ n ih =>
        intro i M3 hN9 hi f1 f2 f3
        have hu9 : M3 Y 8 = nI v := by rw [f1 Y (by omega)]; exact k3
        have hn9 : NowR M3 (Y + 1) S := hN.fr (by rw [f1 _ (by omega), k1 _ (by omega) (by omega)])
        refine jv_iload_n h dX12_notes_48 rfl ?_
        refine jv_bipush (nI 54) h dX12_notes_49 (by decide) ?_
        refine jv_nge 80 h dX12_notes_51 (by decide) (by repeat (with_reducible first | exact NF_nI _ | assumption | refine NF_add ?_ ?_ | refine NF_mul ?_ ?_)) (by repeat (with_reducible first | exact NF_nI _ | assumption | refine NF_add ?_ ?_ | refine NF_mul ?_ ?_)) ⟨by omega, by omega⟩ (fun c51 => ?_) (fun c51 => ?_)
        · refine jv_aload_n h dX12_notes_80 rfl ?_
          refine jv_dup h dX12_notes_81 rfl ?_
          refine jv_gv 8 h dX12_notes_82 cf_11 (by decide) gw_908 (by assumption) (by assumption) ?_
          refine jv_iconst (nI 1) h dX12_notes_85 (by decide) ?_
          first | refine jv_iaddN h dX12_notes_86 (by repeat (with_reducible first | exact NF_nI _ | assumption | refine NF_add ?_ ?_ | refine NF_mul ?_ ?_)) (by repeat (with_reducible first | exact NF_nI _ | assumption | refine NF_add ?_ ?_ | refine NF_mul ?_ ?_)) ?_ | refine jv_iadd h dX12_notes_86 ?_
          refine jv_pi 8 h dX12_notes_87 cf_11 (by decide) gw_908 (by assumption) rfl rfl rfl ?_
          exact jv_vret h hr dX12_notes_90 ⟨rfl, rfl, rfl, fun a h1 h2 => by rw [upd2_row _ _ h1, f1 a h2, k1 a h1 h2], fun q hq => by rw [upd2_ne _ _ (by omega), f1 Y (by omega), k2 q hq], by
    have hvu : v + 1 = min (u + 1) 8 := by rw [k4]; split <;> omega
    refine ⟨by rw [upd2_same, hvu], by omega, fun j hj k hk => ?_⟩
    rw [upd2_row _ _ (by omega)]
    by_cases hjv : j < v
    · have e1 : puU U u S j = (if u = 8 then (fun j => U (j + 1)) else U) j := by
        unfold puU
        by_cases h8 : u = 8
        · rw [if_pos h8, if_pos h8, if_pos (by rw [k4, if_pos h8] at hjv; exact hjv)]
        · rw [if_neg h8, if_neg h8, if_pos (by rw [k4, if_neg h8] at hjv; exact hjv)]
      rw [e1, f2 _ (by omega)]
      exact k5 j hjv k hk
    · have hje : j = v := by omega
      have e1 : puU U u S j = S := by
        unfold puU
        by_cases h8 : u = 8
        · rw [if_pos h8, if_neg (by rw [k4, if_pos h8] at hjv; omega)]
        · rw [if_neg h8, if_neg (by rw [k4, if_neg h8] at hjv; omega)]
      rw [e1, hje]
      exact f3 k (by omega)⟩
        · refine jv_aload_n h dX12_notes_54 rfl ?_
          refine jv_gr 7 h dX12_notes_55 cf_11 (by decide) gw_907 (by assumption) (by assumption) ?_
          refine jv_bipush (nI 54) h dX12_notes_58 (by decide) ?_
          refine jv_aload_n h dX12_notes_60 rfl ?_
          refine jv_gv 8 h dX12_notes_61 cf_11 (by decide) gw_908 (by assumption) (by assumption) ?_
          first | refine jv_imulN h dX12_notes_64 (by repeat (with_reducible first | exact NF_nI _ | assumption | refine NF_add ?_ ?_ | refine NF_mul ?_ ?_)) (by repeat (with_reducible first | exact NF_nI _ | assumption | refine NF_add ?_ ?_ | refine NF_mul ?_ ?_)) ?_ | refine jv_imul h dX12_notes_64 ?_
          refine jv_iload_n h dX12_notes_65 rfl ?_
          first | refine jv_iaddN h dX12_notes_66 (by repeat (with_reducible first | exact NF_nI _ | assumption | refine NF_add ?_ ?_ | refine NF_mul ?_ ?_)) (by repeat (with_reducible first | exact NF_nI _ | assumption | refine NF_add ?_ ?_ | refine NF_mul ?_ ?_)) ?_ | refine jv_iadd h dX12_notes_66 ?_
          refine jv_aload_n h dX12_notes_67 rfl ?_
          refine jv_gr 0 h dX12_notes_68 cf_11 (by decide) gw_900 (by assumption) (by assumption) ?_
          refine jv_iload_n h dX12_notes_71 rfl ?_
          refine jv_iav h dX12_notes_72 (by assumption) (by repeat (with_reducible first | exact NF_nI _ | assumption | refine NF_add ?_ ?_ | refine NF_mul ?_ ?_)) ⟨by omega, by decide⟩ (by exact hn9 _ (by omega)) ?_
          refine jv_iast h dX12_notes_73 (by assumption) (by repeat (with_reducible first | exact NF_nI _ | assumption | refine NF_add ?_ ?_ | refine NF_mul ?_ ?_)) ⟨by omega, by decide⟩ ?_
          refine jv_iinc (nI (i + 1)) h dX12_notes_74 rfl (lt_nl hnl (by decide)) (nI_inc i) ?_
          refine jv_goto 48 h dX12_notes_77 (by decide) ?_
          exact ih (i + 1) _ (by omega) (by omega) (fun a ha => by rw [upd2_row _ _ ha, f1 a ha]) (fun q hq => by rw [upd2_ne _ _ (by omega)]; exact f2 q hq) (fun k hk => by
            by_cases hki : k = i
            · rw [hki, upd2_same]
            · rw [upd2_ne _ _ (by omega)]; exact f3 k (by omega))
    exact hl48 55 0 _ (by omega) (by omega) (fun a _ => rfl) (fun q _ => rfl) (fun k hk => absurd hk (by omega))
  refine jv_nne 46 h dX12_notes_6 (by decide) (by repeat (with_reducible first | exact NF_nI _ | assumption | refine NF_add ?_ ?_ | refine NF_mul ?_ ?_)) (by repeat (with_reducible first | exact NF_nI _ | assumption | refine NF_add ?_ ?_ | refine NF_mul ?_ ?_)) ⟨by omega, by omega⟩ (fun c6 => ?_) (fun c6 => ?_)
  · refine jv_forget2 ?_
    first
    | exact hj46 _ 7 (fun a h1 h2 => by rw [upd2_row _ _ h1, f1 a h2]) (fun q hq => by rw [upd2_ne _ _ (by omega), f1 Y (by omega)]) (by rw [upd2_same]) (by rw [if_pos c6]) (fun j hj k hk => by
        rw [if_pos c6, upd2_row _ _ (by omega), f2 _ (by omega), show 54 * j + k + 54 = 54 * (j + 1) + k by omega]
        exact d3 (j + 1) (by omega) k hk)
    | exact hj46 _ u (fun a h1 h2 => rfl) (fun q hq => rfl) d1 (by rw [if_neg c6]) (fun j hj k hk => by rw [if_neg c6]; exact d3 j hj k hk)
  · refine jv_bipush (nI 54) h dX12_notes_9 (by decide) ?_
    refine jv_istore_n h dX12_notes_11 (lt_nl hnl (by decide)) ?_
    have hl12 : ∀ (n : Nat) (i : Nat) (M1 : MI), 432 - i < n → 54 ≤ i → i ≤ 432 → (∀ a, a ≠ Y + 5 → M1 a = Mi a) → (∀ q, q < i - 54 → M1 (Y + 5) q = Mi (Y + 5) (q + 54)) → (∀ q, i - 54 ≤ q → M1 (Y + 5) q = Mi (Y + 5) q) → V x 0 0 T M1 Ml 12 [some (.ref Y), some (.int (nI i))] [] := by
      intro n
      induction n with
      | zero => intro i M1 hN9 h54 hi f1 f2 f3; exact absurd hN9 (by omega)
      | succ n ih =>
        intro i M1 hN9 h54 hi f1 f2 f3
        refine jv_iload_n h dX12_notes_12 rfl ?_
        refine jv_sipush (nI 432) h dX12_notes_13 (by decide) ?_
        refine jv_nge 40 h dX12_notes_16 (by decide) (by repeat (with_reducible first | exact NF_nI _ | assumption | refine NF_add ?_ ?_ | refine NF_mul ?_ ?_)) (by repeat (with_reducible first | exact NF_nI _ | assumption | refine NF_add ?_ ?_ | refine NF_mul ?_ ?_)) ⟨by omega, by omega⟩ (fun c16 => ?_) (fun c16 => ?_)
        · refine jv_aload_n h dX12_notes_40 rfl ?_
          refine jv_bipush (nI 7) h dX12_notes_41 (by decide) ?_
          refine jv_pi 8 h dX12_notes_43 cf_11 (by decide) gw_908 (by assumption) rfl rfl rfl ?_
          refine jv_forget2 ?_
          first
          | exact hj46 _ 7 (fun a h1 h2 => by rw [upd2_row _ _ h1, f1 a h2]) (fun q hq => by rw [upd2_ne _ _ (by omega), f1 Y (by omega)]) (by rw [upd2_same]) (by rw [if_pos c6]) (fun j hj k hk => by
              rw [if_pos c6, upd2_row _ _ (by omega), f2 _ (by omega), show 54 * j + k + 54 = 54 * (j + 1) + k by omega]
              exact d3 (j + 1) (by omega) k hk)
          | exact hj46 _ u (fun a h1 h2 => rfl) (fun q hq => rfl) d1 (by rw [if_neg c6]) (fun j hj k hk => by rw [if_neg c6]; exact d3 j hj k hk)
        · refine jv_aload_n h dX12_notes_19 rfl ?_
          refine jv_gr 7 h dX12_notes_20 cf_11 (by decide) gw_907 (by assumption) (by assumption) ?_
          refine jv_iload_n h dX12_notes_23 rfl ?_
          refine jv_bipush (nI 54) h dX12_notes_24 (by decide) ?_
          first | refine jv_isubN h dX12_notes_26 (by repeat (with_reducible first | exact NF_nI _ | assumption | refine NF_add ?_ ?_ | refine NF_mul ?_ ?_)) (by repeat (with_reducible first | exact NF_nI _ | assumption | refine NF_add ?_ ?_ | refine NF_mul ?_ ?_)) (by omega) ?_ | refine jv_isub h dX12_notes_26 ?_
          refine jv_aload_n h dX12_notes_27 rfl ?_
          refine jv_gr 7 h dX12_notes_28 cf_11 (by decide) gw_907 (by assumption) (by assumption) ?_
          refine jv_iload_n h dX12_notes_31 rfl ?_
          refine jv_iav h dX12_notes_32 (by assumption) (by repeat (with_reducible first | exact NF_nI _ | assumption | refine NF_add ?_ ?_ | refine NF_mul ?_ ?_)) ⟨by omega, by decide⟩ (by exact f3 _ (by omega)) ?_
          refine jv_iast h dX12_notes_33 (by assumption) (by repeat (with_reducible first | exact NF_nI _ | assumption | refine NF_add ?_ ?_ | refine NF_mul ?_ ?_)) ⟨by omega, by decide⟩ ?_
          refine jv_iinc (nI (i + 1)) h dX12_notes_34 rfl (lt_nl hnl (by decide)) (nI_inc i) ?_
          refine jv_goto 12 h dX12_notes_37 (by decide) ?_
          exact ih (i + 1) _ (by omega) (by omega) (by omega) (fun a ha => by rw [upd2_row _ _ ha, f1 a ha]) (fun q hq => by
            by_cases hqi : q = i - 54
            · rw [hqi, upd2_same, show i - 54 + 54 = i by omega]
            · rw [upd2_ne _ _ (by omega)]; exact f2 q (by omega)) (fun q hq => by rw [upd2_ne _ _ (by omega)]; exact f3 q (by omega))
    exact hl12 379 54 _ (by omega) (by omega) (by omega) (fun a _ => rfl) (fun q hq => absurd hq (by omega)) (fun q _ => rfl)
