theorem jv_zle {x : CX} {cs sl : Nat} {T : TT} {Mi : MI} {Ml : ML} {pc : Nat} {lv : List (Option Value)} {st : List Value} {own : String} {cc : ByteArray} {d m : Nat} {off : Int} {u : Int32} (tgt : Nat) (h : Ok x own cc d) (dc : decode cc pc = .ok (.ifCond .le off, 3)) (ht : (pc : Int) + off = (tgt : Int)) (hu : NF u m) (hm : m < 2 ^ 31) (kt : m = 0 → V x cs sl T Mi Ml tgt lv st) (kf : 0 < m → V x cs sl T Mi Ml (pc + 3) lv st) : V x cs sl T Mi Ml pc lv (.int u :: st) :=
  jv_if_le tgt h dc ht (fun q => kt (by rw [hu] at q; have := (nI_leI hm (by decide : (0 : Nat) < 2 ^ 31)).mp q; omega)) (fun q => kf (by
    by_cases hz : m = 0
    · exact absurd (by rw [hu, hz]; decide) q
    · omega))
theorem fsN_s {f : Nat → Bool} {n m : Nat} : fsN f n (m + 1) = if f n = true then nI n else fsN f (n + 1) m := rfl
def WgS (g : GT) (T : TT) (G : Nat) : Prop := KD g T G 9 ∧ T.2.2 G 0 = some (G + 1) ∧ AR g T (G + 1) 12 64 ∧ T.2.2 G 1 = some (G + 2) ∧ AR g T (G + 2) 12 64
theorem DayS.wg {g : GT} {T : TT} {X : Nat} (h : DayS g T X) : T.2.2 X 8 = some (X + 182) ∧ WgS g T (X + 182) := by
  obtain ⟨x0, ⟨x1, x2⟩, ⟨x3, x4⟩, ⟨x5, x6, x7, x8⟩, ⟨x9, x10, x11, x12, x13, x14⟩, ⟨x15, x16⟩, ⟨x17, x18, x19, x20⟩, ⟨x21, x22, x23, x24⟩, ⟨x25, x26, x27, x28, x29, x30⟩, x31, x32, x33, x34, x35, x36⟩ := h
  exact ⟨x25, x26, x27, x28, x29, x30⟩
def WgR (Mi : MI) (G n : Nat) (w wy : Nat → Nat) : Prop := Mi G 2 = nI (2 ^ n) ∧ (∀ s, s < 2 ^ n → Mi (G + 1) s = nI (wtN w s 6)) ∧ ∀ s, s < 2 ^ n → Mi (G + 2) s = nI (wy s)
theorem bit_sh {s p : Nat} (hs : s < 64) (hp : p < 6) : (nI s >>> (nI p &&& 31)) &&& nI 1 = nI (btN s p) := by
  have key : ∀ s : Fin 64, ∀ p : Fin 6, (nI s.val >>> (nI p.val &&& 31)) &&& nI 1 = nI (btN s.val p.val) := by decide +kernel
  exact key ⟨s, hs⟩ ⟨p, hp⟩
theorem sh_1 {p : Nat} (hp : p < 7) : nI 1 <<< (nI p &&& 31) = nI (2 ^ p) := by
  have key : ∀ p : Fin 7, nI 1 <<< (nI p.val &&& 31) = nI (2 ^ p.val) := by decide +kernel
  exact key ⟨p, hp⟩
theorem nI_and (a b : Nat) : nI a &&& nI b = nI (a &&& b) := by
  apply Int32.toBitVec_inj.mp
  rw [Int32.toBitVec_and]
  show BitVec.ofNat 32 a &&& BitVec.ofNat 32 b = BitVec.ofNat 32 (a &&& b)
  rw [BitVec.ofNat_and]
theorem nI_xor (a b : Nat) : nI a ^^^ nI b = nI (a ^^^ b) := by
  apply Int32.toBitVec_inj.mp
  rw [Int32.toBitVec_xor]
  show BitVec.ofNat 32 a ^^^ BitVec.ofNat 32 b = BitVec.ofNat 32 (a ^^^ b)
  rw [BitVec.ofNat_xor]
theorem xor_lt : ∀ a : Fin 64, ∀ b : Fin 64, (b.val &&& a.val = b.val → a.val ^^^ b.val ≤ a.val) := by decide +kernel
theorem pw_le {n : Nat} (h : n ≤ 6) : 1 ≤ 2 ^ n ∧ 2 ^ n ≤ 64 := ⟨Nat.two_pow_pos n, (Nat.pow_le_pow_right (by omega) h : 2 ^ n ≤ 2 ^ 6)⟩
theorem wt_le {w : Nat → Nat} {r : Nat} : ∀ {n : Nat}, (∀ p, p < n → w p ≤ 18) → wtN w r n ≤ 18 * n
  | 0, _ => Nat.le_refl _
  | n + 1, h => by
    have h1 := wt_le (r := r) (fun p hp => h p (by omega : p < n + 1)) (n := n)
    have h2 := h n (by omega)
    show wtN w r n + _ ≤ _
    split <;> omega
theorem wt_6 {S : Nat → Nat} (hW : WF S) {r : Nat} (hr : r < 2 ^ S 0) : wtN (wgN S) r 6 = wtN (wgN S) r (S 0) ∧ wtN (wgN S) r 6 ≤ 108 := by
  have h6 := hW.1
  have e : wtN (wgN S) r 6 = wtN (wgN S) r (S 0) := by
    have := wtN_ext (w := wgN S) hr (6 - S 0)
    rw [show S 0 + (6 - S 0) = 6 by omega] at this
    exact this
  have h1 := wt_le (w := wgN S) (r := r) (n := S 0) (fun p hp => wgN_le hW hp)
  exact ⟨e, by omega⟩
def adW (w wy : Nat → Nat) (l s : Nat) : Nat := smN (fun r => if r &&& s = r ∧ wtN w r 6 = l then wy (s ^^^ r) else 0) 64
theorem adW_eq {w wy : Nat → Nat} {l s : Nat} (hs : s < 64) : adW w wy l s = smN (fun r => if r &&& s = r ∧ wtN w r 6 = l then wy (s ^^^ r) else 0) (s + 1) := smN_ext (by omega) (fun i h1 h2 => by rw [if_neg (fun z => by have := land_le z.1; omega)])
theorem l_eq {a l : Nat} {v : Int64} (ha : a < 2 ^ 31) (hv : v.toInt = (l : Int)) : (nI a).toInt64 = v ↔ a = l := by
  rw [← Int64.toInt_inj, l_i, nI_toInt ha, hv]
  omega
theorem nI_dec (s : Nat) : nI s + Int32.ofInt (-1) = carI s := by
  cases s with
  | zero => rfl
  | succ s => rw [carI_s]; exact pk_m1 s

set_option maxHeartbeats 4000000 in
set_option maxRecDepth 100000 in
theorem c_weightOf {g : GT} {T : TT} {Mi : MI} {Ml : ML} {A : Nat} {S : Nat → Nat} (hA : ScnS g T A) (hR9 : ScnR Mi A S) (hW : WF S) {v : Int32} {s : Nat} (hv : NF v s) (hs : s < 64) : Ct g yX10_weightOf cX10_weightOf 4 (some .int) 2 0 0 [.ref A, .int v] T Mi Ml (Ri T Mi Ml (nI (wtN (wgN S) s (S 0)))) := by
  refine Ct.of' (plainFor_of_name (by decide +kernel)) (by exact Nat.le_of_ble_eq_true rfl) ?_
  intro x hg hR h hr hnm hnl
  subst hg
  obtain ⟨s1, s2, s3, s4, s5⟩ := id hA
  obtain ⟨v1, v2, v3, v4⟩ := id hR9
  obtain ⟨w0, w1, w2, w3, w4, w5, w6, w7⟩ := id hW
  obtain rfl : v = nI s := hv
  refine jv_iconst (nI 0) h dX10_weightOf_0 (by decide) ?_
  refine jv_istore_n h dX10_weightOf_1 (lt_nl hnl (by decide)) ?_
  refine jv_iconst (nI 0) h dX10_weightOf_2 (by decide) ?_
  refine jv_istore_n h dX10_weightOf_3 (lt_nl hnl (by decide)) ?_
  have hl4 : ∀ (n : Nat) (p sm : Nat), S 0 - p < n → p ≤ S 0 → sm = wtN (wgN S) s p → V x 0 0 T Mi Ml 4 [some (.ref A), some (.int (nI s)), some (.int (nI sm)), some (.int (nI p))] [] := by
    intro n
    induction n with
    | zero => intro p sm hN9 hp hsm; exact absurd hN9 (by omega)
    | succ n ih =>
      intro p sm hN9 hp hsm
      refine jv_iload_n h dX10_weightOf_4 rfl ?_
      refine jv_aload_n h dX10_weightOf_5 rfl ?_
      refine jv_gv 1 h dX10_weightOf_6 cf_5 (by decide) gw_121 (by first | assumption | exact s4 _ (by omega) | exact s5 _ (by omega)) (by assumption) ?_
      refine jv_nge 38 h dX10_weightOf_9 (by decide) (by repeat (with_reducible first | exact NF_nI _ | assumption | refine NF_add ?_ ?_ | refine NF_mul ?_ ?_)) (by repeat (with_reducible first | exact NF_nI _ | assumption | refine NF_add ?_ ?_ | refine NF_mul ?_ ?_)) ⟨by omega, by omega⟩ (fun c9 => ?_) (fun c9 => ?_)
      · refine jv_iload_n h dX10_weightOf_38 rfl ?_
        exact jv_iret h hr dX10_weightOf_39 ⟨by rw [hsm, show p = S 0 by omega], rfl, rfl, rfl⟩
      · have w7i := w7 p (by omega)
        obtain ⟨q0, q1, q2, q3, q4, q5⟩ := v4 p (by omega)
        have hbt : btN s p < 2 := Nat.mod_lt _ (by decide)
        refine jv_iload_n h dX10_weightOf_12 rfl ?_
        refine jv_iload_n h dX10_weightOf_13 rfl ?_
        refine jv_ishr h dX10_weightOf_14 ?_
        refine jv_iconst (nI 1) h dX10_weightOf_15 (by decide) ?_
        refine jv_iand h dX10_weightOf_16 ?_
        rw [bit_sh (by omega) (by omega)]
        refine jv_zeq 32 h dX10_weightOf_17 (by decide) (by repeat (with_reducible first | exact NF_nI _ | assumption | refine NF_add ?_ ?_ | refine NF_mul ?_ ?_)) (by omega) (fun c17 => ?_) (fun c17 => ?_)
        · refine jv_iinc (nI (p + 1)) h dX10_weightOf_32 rfl (lt_nl hnl (by decide)) (nI_inc p) ?_
          refine jv_goto 4 h dX10_weightOf_35 (by decide) ?_
          exact ih (p + 1) _ (by omega) (by omega) (by rw [hsm]; show _ = wtN (wgN S) s p + _; first | (rw [if_pos (by omega)]; rfl) | rw [if_neg (by omega)]; rfl)
        · refine jv_iload_n h dX10_weightOf_20 rfl ?_
          refine jv_aload_n h dX10_weightOf_21 rfl ?_
          refine jv_gr 0 h dX10_weightOf_22 cf_5 (by decide) gw_120 (by first | assumption | exact s4 _ (by omega) | exact s5 _ (by omega)) (by first | assumption | exact s4 _ (by omega) | exact s5 _ (by omega)) ?_
          refine jv_iload_n h dX10_weightOf_25 rfl ?_
          refine jv_aald h dX10_weightOf_26 (by first | assumption | exact s4 _ (by omega) | exact s5 _ (by omega)) (by decide) (by repeat (with_reducible first | exact NF_nI _ | assumption | refine NF_add ?_ ?_ | refine NF_mul ?_ ?_)) ⟨by omega, by decide⟩ (by first | assumption | exact s4 _ (by omega) | exact s5 _ (by omega)) ?_
          refine jv_VRi [] h dX10_weightOf_27 cw_X10_35 cf_4 (by first | assumption | exact s4 _ (by omega) | exact s5 _ (by omega)) (c_weighs (by first | assumption | exact s4 _ (by omega) | exact s5 _ (by omega)) (by assumption) (by assumption) (by omega)) (by decide) rfl rfl (Nat.le_of_ble_eq_true rfl) ⟨Nat.zero_le _, Nat.zero_le _⟩ ?_
          first | refine jv_iaddN h dX10_weightOf_30 (by repeat (with_reducible first | exact NF_nI _ | assumption | refine NF_add ?_ ?_ | refine NF_mul ?_ ?_)) (by repeat (with_reducible first | exact NF_nI _ | assumption | refine NF_add ?_ ?_ | refine NF_mul ?_ ?_)) ?_ | refine jv_iadd h dX10_weightOf_30 ?_
          refine jv_istore_n h dX10_weightOf_31 (lt_nl hnl (by decide)) ?_
          refine jv_iinc (nI (p + 1)) h dX10_weightOf_32 rfl (lt_nl hnl (by decide)) (nI_inc p) ?_
          refine jv_goto 4 h dX10_weightOf_35 (by decide) ?_
          exact ih (p + 1) _ (by omega) (by omega) (by rw [hsm]; show _ = wtN (wgN S) s p + _; first | (rw [if_pos (by omega)]; rfl) | rw [if_neg (by omega)]; rfl)
  exact hl4 (S 0 + 1) 0 0 (by omega) (by omega) rfl
set_option maxHeartbeats 4000000 in
set_option maxRecDepth 100000 in
theorem c_wgbegin {g : GT} {T : TT} {Mi : MI} {Ml : ML} {A G : Nat} {S : Nat → Nat} (hG : WgS g T G) (hA : ScnS g T A) (hR9 : ScnR Mi A S) (hW : WF S) (hne : A + 8 ≤ G ∨ G + 3 ≤ A) : Ct g yX10_begin cX10_begin 3 none 3 0 0 [.ref G, .ref A] T Mi Ml (Gv T (fun Mi' Ml' => Ml' = Ml ∧ Fr Mi Mi' G (G + 3) ∧ WgR Mi' G (S 0) (wgN S) (fun k => if k = 0 then 1 else 0))) := by
  refine Ct.of' (plainFor_of_name (by decide +kernel)) (by exact Nat.le_of_ble_eq_true rfl) ?_
  intro x hg hR h hr hnm hnl
  subst hg
  obtain ⟨g1, g2, g3, g4, g5⟩ := id hG
  obtain ⟨s1, s2, s3, s4, s5⟩ := id hA
  obtain ⟨v1, v2, v3, v4⟩ := id hR9
  obtain ⟨w0, w1, w2, w3, w4, w5, w6, w7⟩ := id hW
  obtain ⟨p1, p2⟩ := pw_le w0
  refine jv_aload_n h dX10_begin_0 rfl ?_
  refine jv_iconst (nI 1) h dX10_begin_1 (by decide) ?_
  refine jv_aload_n h dX10_begin_2 rfl ?_
  refine jv_gv 1 h dX10_begin_3 cf_5 (by decide) gw_121 (by assumption) (by assumption) ?_
  refine jv_ishl h dX10_begin_6 ?_
  rw [sh_1 (by omega)]
  refine jv_pi 2 h dX10_begin_7 cf_9 (by decide) gw_251 (by assumption) rfl rfl rfl ?_
  refine jv_iconst (nI 0) h dX10_begin_10 (by decide) ?_
  refine jv_istore_n h dX10_begin_11 (lt_nl hnl (by decide)) ?_
  have hl12 : ∀ (n : Nat) (s : Nat) (M1 : MI), 2 ^ S 0 - s < n → s ≤ 2 ^ S 0 → Fr Mi M1 G (G + 3) → M1 G 2 = nI (2 ^ S 0) → (∀ k, k < s → M1 (G + 1) k = nI (wtN (wgN S) k 6)) → (∀ k, k < s → M1 (G + 2) k = nI (if k = 0 then 1 else 0)) → V x 0 0 T M1 Ml 12 [some (.ref G), some (.ref A), some (.int (nI s))] [] := by
    intro n
    induction n with
    | zero => intro s M1 hN9 hs f1 f2 f3 f4; exact absurd hN9 (by omega)
    | succ n ih =>
      intro s M1 hN9 hs f1 f2 f3 f4
      refine jv_iload_n h dX10_begin_12 rfl ?_
      refine jv_aload_n h dX10_begin_13 rfl ?_
      refine jv_gv 2 h dX10_begin_14 cf_9 (by decide) gw_251 (by assumption) (by assumption) ?_
      refine jv_nge 52 h dX10_begin_17 (by decide) (by repeat (with_reducible first | exact NF_nI _ | assumption | refine NF_add ?_ ?_ | refine NF_mul ?_ ?_)) (by repeat (with_reducible first | exact NF_nI _ | assumption | refine NF_add ?_ ?_ | refine NF_mul ?_ ?_)) ⟨by omega, by omega⟩ (fun c17 => ?_) (fun c17 => ?_)
      · exact jv_vret h hr dX10_begin_52 ⟨rfl, rfl, rfl, f1, f2, fun k hk => f3 k (by omega), fun k hk => f4 k (by omega)⟩
      · refine jv_aload_n h dX10_begin_20 rfl ?_
        refine jv_gr 0 h dX10_begin_21 cf_9 (by decide) gw_249 (by assumption) (by assumption) ?_
        refine jv_iload_n h dX10_begin_24 rfl ?_
        refine jv_aload_n h dX10_begin_25 rfl ?_
        refine jv_iload_n h dX10_begin_26 rfl ?_
        refine jv_SRi [_, _] h dX10_begin_27 cw_X10_27 (c_weightOf hA (hR9.fr w0 (fun a h1 h2 => f1 a (by omega))) hW (NF_nI _) (by omega)) (by decide) rfl rfl (Nat.le_of_ble_eq_true rfl) ⟨Nat.zero_le _, Nat.zero_le _⟩ ?_
        refine jv_iast h dX10_begin_30 (by assumption) (by repeat (with_reducible first | exact NF_nI _ | assumption | refine NF_add ?_ ?_ | refine NF_mul ?_ ?_)) ⟨by omega, by decide⟩ ?_
        refine jv_aload_n h dX10_begin_31 rfl ?_
        refine jv_gr 1 h dX10_begin_32 cf_9 (by decide) gw_250 (by assumption) (by assumption) ?_
        refine jv_iload_n h dX10_begin_35 rfl ?_
        refine jv_iload_n h dX10_begin_36 rfl ?_
        refine jv_zne 44 h dX10_begin_37 (by decide) (by repeat (with_reducible first | exact NF_nI _ | assumption | refine NF_add ?_ ?_ | refine NF_mul ?_ ?_)) (by omega) (fun c37 => ?_) (fun c37 => ?_)
        · refine jv_iconst (nI 0) h dX10_begin_44 (by decide) ?_
          refine jv_iast h dX10_begin_45 (by assumption) (by repeat (with_reducible first | exact NF_nI _ | assumption | refine NF_add ?_ ?_ | refine NF_mul ?_ ?_)) ⟨by omega, by decide⟩ ?_
          refine jv_iinc (nI (s + 1)) h dX10_begin_46 rfl (lt_nl hnl (by decide)) (nI_inc s) ?_
          refine jv_goto 12 h dX10_begin_49 (by decide) ?_
          exact ih (s + 1) _ (by omega) (by omega) (fun a ha => by rw [upd2_row _ _ (by omega), upd2_row _ _ (by omega)]; exact f1 a ha) (by rw [upd2_row _ _ (by omega), upd2_row _ _ (by omega)]; exact f2) (fun k hk => by
            rw [upd2_row _ _ (by omega)]
            by_cases hks : k = s
            · rw [hks, upd2_same, (wt_6 hW (by omega)).1]
            · rw [upd2_ne _ _ (by omega)]; exact f3 k (by omega)) (fun k hk => by
            by_cases hks : k = s
            · rw [hks, upd2_same]; first | rw [if_pos c37] | rw [if_neg c37]
            · rw [upd2_ne _ _ (by omega), upd2_row _ _ (by omega)]; exact f4 k (by omega))
        · refine jv_iconst (nI 1) h dX10_begin_40 (by decide) ?_
          refine jv_goto 45 h dX10_begin_41 (by decide) ?_
          refine jv_iast h dX10_begin_45 (by assumption) (by repeat (with_reducible first | exact NF_nI _ | assumption | refine NF_add ?_ ?_ | refine NF_mul ?_ ?_)) ⟨by omega, by decide⟩ ?_
          refine jv_iinc (nI (s + 1)) h dX10_begin_46 rfl (lt_nl hnl (by decide)) (nI_inc s) ?_
          refine jv_goto 12 h dX10_begin_49 (by decide) ?_
          exact ih (s + 1) _ (by omega) (by omega) (fun a ha => by rw [upd2_row _ _ (by omega), upd2_row _ _ (by omega)]; exact f1 a ha) (by rw [upd2_row _ _ (by omega), upd2_row _ _ (by omega)]; exact f2) (fun k hk => by
            rw [upd2_row _ _ (by omega)]
            by_cases hks : k = s
            · rw [hks, upd2_same, (wt_6 hW (by omega)).1]
            · rw [upd2_ne _ _ (by omega)]; exact f3 k (by omega)) (fun k hk => by
            by_cases hks : k = s
            · rw [hks, upd2_same]; first | rw [if_pos c37] | rw [if_neg c37]
            · rw [upd2_ne _ _ (by omega), upd2_row _ _ (by omega)]; exact f4 k (by omega))
  exact hl12 (2 ^ S 0 + 1) 0 _ (by omega) (by omega) (fun a ha => upd2_row _ _ (by omega)) (upd2_same _ _ _ _) (fun k hk => absurd hk (by omega)) (fun k hk => absurd hk (by omega))
set_option maxHeartbeats 4000000 in
set_option maxRecDepth 100000 in
theorem c_addCar {g : GT} {T : TT} {Mi : MI} {Ml : ML} {G nn l : Nat} {w wy : Nat → Nat} {v : Int64} (hG : WgS g T G) (hR9 : WgR Mi G nn w wy) (h6 : nn ≤ 6) (hb : ∀ r, r < 2 ^ nn → wtN w r 6 < 2 ^ 31) (hv : v.toInt = (l : Int)) : Ct g yX10_addCar cX10_addCar 6 none 1 0 0 [.ref G, .long v] T Mi Ml (Gv T (fun Mi' Ml' => Ml' = Ml ∧ (∀ a, a ≠ G + 2 → Mi' a = Mi a) ∧ WgR Mi' G nn w (adW w wy l))) := by
  refine Ct.of' (plainFor_of_name (by decide +kernel)) (by exact Nat.le_of_ble_eq_true rfl) ?_
  intro x hg hR h hr hnm hnl
  subst hg
  obtain ⟨g1, g2, g3, g4, g5⟩ := id hG
  obtain ⟨r1, r2, r3⟩ := id hR9
  obtain ⟨p1, p2⟩ := pw_le h6
  refine jv_aload_n h dX10_addCar_0 rfl ?_
  refine jv_gv 2 h dX10_addCar_1 cf_9 (by decide) gw_251 (by assumption) (by assumption) ?_
  refine jv_iconst (nI 1) h dX10_addCar_4 (by decide) ?_
  first | refine jv_isubN h dX10_addCar_5 (by repeat (with_reducible first | exact NF_nI _ | assumption | refine NF_add ?_ ?_ | refine NF_mul ?_ ?_)) (by repeat (with_reducible first | exact NF_nI _ | assumption | refine NF_add ?_ ?_ | refine NF_mul ?_ ?_)) (by omega) ?_ | refine jv_isub h dX10_addCar_5 ?_
  refine jv_istore_n h dX10_addCar_6 (lt_nl hnl (by decide)) ?_
  have hl7 : ∀ (n : Nat) (m : Nat) (M1 : MI) (aj : Option Value) (ak : Option Value), m < n → m ≤ 2 ^ nn → (∀ a, a ≠ G + 2 → M1 a = Mi a) → (∀ k, k < m → M1 (G + 2) k = nI (wy k)) → (∀ k, m ≤ k → k < 2 ^ nn → M1 (G + 2) k = nI (adW w wy l k)) → V x 0 0 T M1 Ml 7 [some (.ref G), some (.long v), none, some (.int (carI m)), aj, ak] [] := by
    intro n
    induction n with
    | zero => intro m M1 aj ak hN9 hm f1 f2 f3; exact absurd hN9 (by omega)
    | succ n ih =>
      intro m M1 aj ak hN9 hm f1 f2 f3
      refine jv_iload_n h dX10_addCar_7 rfl ?_
      refine jv_if_lt 79 h dX10_addCar_8 (by decide) (fun c8 => ?_) (fun c8 => ?_)
      · rw [carI_neg (by omega)] at c8
        exact jv_vret h hr dX10_addCar_79 ⟨rfl, rfl, rfl, f1, by rw [f1 _ (by omega)]; exact r1, fun k hk => by rw [f1 _ (by omega)]; exact r2 k hk, fun k hk => f3 k (by omega) hk⟩
      · rw [carI_neg (by omega)] at c8
        obtain ⟨s, rfl⟩ : ∃ s, m = s + 1 := ⟨m - 1, by omega⟩
        rw [carI_s]
        refine jv_iconst (nI 0) h dX10_addCar_11 (by decide) ?_
        refine jv_istore h dX10_addCar_12 (lt_nl hnl (by decide)) ?_
        refine jv_iconst (nI 0) h dX10_addCar_14 (by decide) ?_
        refine jv_istore h dX10_addCar_15 (lt_nl hnl (by decide)) ?_
        have ih7 := ih
        have hl17 : ∀ (n : Nat) (r sm : Nat), s + 1 - r < n → r ≤ s + 1 → sm = smN (fun r => if r &&& s = r ∧ wtN w r 6 = l then wy (s ^^^ r) else 0) r → V x 0 0 T M1 Ml 17 [some (.ref G), some (.long v), none, some (.int (nI s)), some (.int (nI sm)), some (.int (nI r))] [] := by
          intro n
          induction n with
          | zero => intro r sm hN9 hr9 hsm; exact absurd hN9 (by omega)
          | succ n ih =>
            intro r sm hN9 hr9 hsm
            refine jv_iload h dX10_addCar_17 rfl ?_
            refine jv_iload_n h dX10_addCar_19 rfl ?_
            refine jv_ngt 65 h dX10_addCar_20 (by decide) (by repeat (with_reducible first | exact NF_nI _ | assumption | refine NF_add ?_ ?_ | refine NF_mul ?_ ?_)) (by repeat (with_reducible first | exact NF_nI _ | assumption | refine NF_add ?_ ?_ | refine NF_mul ?_ ?_)) ⟨by omega, by omega⟩ (fun c20 => ?_) (fun c20 => ?_)
            · refine jv_aload_n h dX10_addCar_65 rfl ?_
              refine jv_gr 1 h dX10_addCar_66 cf_9 (by decide) gw_250 (by assumption) (by assumption) ?_
              refine jv_iload_n h dX10_addCar_69 rfl ?_
              refine jv_iload h dX10_addCar_70 rfl ?_
              refine jv_iast h dX10_addCar_72 (by assumption) (by repeat (with_reducible first | exact NF_nI _ | assumption | refine NF_add ?_ ?_ | refine NF_mul ?_ ?_)) ⟨by omega, by decide⟩ ?_
              refine jv_iinc (carI s) h dX10_addCar_73 rfl (lt_nl hnl (by decide)) (nI_dec s) ?_
              refine jv_goto 7 h dX10_addCar_76 (by decide) ?_
              exact ih7 s _ _ _ (by omega) (by omega) (fun a ha => by rw [upd2_row _ _ ha]; exact f1 a ha) (fun k hk => by rw [upd2_ne _ _ (by omega)]; exact f2 k (by omega)) (fun k h1 h2 => by
                by_cases hks : k = s
                · rw [hks, upd2_same, adW_eq (by omega), hsm, show r = s + 1 by omega]
                · rw [upd2_ne _ _ (by omega)]; exact f3 k (by omega) h2)
            · have hb9 := hb r (by omega)
              have hw9 : M1 (G + 1) r = nI (wtN w r 6) := by rw [f1 _ (by omega)]; exact r2 r (by omega)
              have han : r &&& s < 2 ^ 31 := Nat.lt_of_le_of_lt Nat.and_le_right (by omega)
              refine jv_iload h dX10_addCar_23 rfl ?_
              refine jv_iload_n h dX10_addCar_25 rfl ?_
              refine jv_iand h dX10_addCar_26 ?_
              rw [nI_and]
              refine jv_iload h dX10_addCar_27 rfl ?_
              refine jv_nne 59 h dX10_addCar_29 (by decide) (by repeat (with_reducible first | exact NF_nI _ | assumption | refine NF_add ?_ ?_ | refine NF_mul ?_ ?_)) (by repeat (with_reducible first | exact NF_nI _ | assumption | refine NF_add ?_ ?_ | refine NF_mul ?_ ?_)) ⟨by omega, by omega⟩ (fun c29 => ?_) (fun c29 => ?_)
              · refine jv_iinc (nI (r + 1)) h dX10_addCar_59 rfl (lt_nl hnl (by decide)) (nI_inc r) ?_
                refine jv_goto 17 h dX10_addCar_62 (by decide) ?_
                exact ih (r + 1) _ (by omega) (by omega) (by
                  rw [hsm]
                  show _ = smN (fun r => if r &&& s = r ∧ wtN w r 6 = l then wy (s ^^^ r) else 0) r + (if r &&& s = r ∧ wtN w r 6 = l then wy (s ^^^ r) else 0)
                  first
                  | (rw [if_pos (And.intro c29 c42)]; done)
                  | (rw [if_neg (fun z => c29 z.1)]; rfl)
                  | (rw [if_neg (fun z => c42 z.2)]; rfl))
              · have hxr := xor_lt ⟨s, by omega⟩ ⟨r, by omega⟩ c29
                have hw8 : M1 (G + 2) (s ^^^ r) = nI (wy (s ^^^ r)) := f2 _ (by dsimp only at hxr; omega)
                dsimp only at hxr
                refine jv_aload_n h dX10_addCar_32 rfl ?_
                refine jv_gr 0 h dX10_addCar_33 cf_9 (by decide) gw_249 (by assumption) (by assumption) ?_
                refine jv_iload h dX10_addCar_36 rfl ?_
                refine jv_iav h dX10_addCar_38 (by assumption) (by repeat (with_reducible first | exact NF_nI _ | assumption | refine NF_add ?_ ?_ | refine NF_mul ?_ ?_)) ⟨by omega, by decide⟩ (by assumption) ?_
                refine jv_i2l h dX10_addCar_39 ?_
                refine jv_lload_n h dX10_addCar_40 rfl ?_
                refine jv_lcmp h dX10_addCar_41 ?_
                refine jv_if_ne 59 h dX10_addCar_42 (by decide) (fun c42 => ?_) (fun c42 => ?_)
                · rw [lg_cmp_eq0, l_eq (by omega) hv] at c42
                  refine jv_iinc (nI (r + 1)) h dX10_addCar_59 rfl (lt_nl hnl (by decide)) (nI_inc r) ?_
                  refine jv_goto 17 h dX10_addCar_62 (by decide) ?_
                  exact ih (r + 1) _ (by omega) (by omega) (by
                    rw [hsm]
                    show _ = smN (fun r => if r &&& s = r ∧ wtN w r 6 = l then wy (s ^^^ r) else 0) r + (if r &&& s = r ∧ wtN w r 6 = l then wy (s ^^^ r) else 0)
                    first
                    | (rw [if_pos (And.intro c29 c42)]; done)
                    | (rw [if_neg (fun z => c29 z.1)]; rfl)
                    | (rw [if_neg (fun z => c42 z.2)]; rfl))
                · rw [lg_cmp_eq0, l_eq (by omega) hv] at c42
                  refine jv_iload h dX10_addCar_45 rfl ?_
                  refine jv_aload_n h dX10_addCar_47 rfl ?_
                  refine jv_gr 1 h dX10_addCar_48 cf_9 (by decide) gw_250 (by assumption) (by assumption) ?_
                  refine jv_iload_n h dX10_addCar_51 rfl ?_
                  refine jv_iload h dX10_addCar_52 rfl ?_
                  refine jv_ixor h dX10_addCar_54 ?_
                  rw [nI_xor]
                  refine jv_iav h dX10_addCar_55 (by assumption) (by repeat (with_reducible first | exact NF_nI _ | assumption | refine NF_add ?_ ?_ | refine NF_mul ?_ ?_)) ⟨by omega, by decide⟩ (by assumption) ?_
                  first | refine jv_iaddN h dX10_addCar_56 (by repeat (with_reducible first | exact NF_nI _ | assumption | refine NF_add ?_ ?_ | refine NF_mul ?_ ?_)) (by repeat (with_reducible first | exact NF_nI _ | assumption | refine NF_add ?_ ?_ | refine NF_mul ?_ ?_)) ?_ | refine jv_iadd h dX10_addCar_56 ?_
                  refine jv_istore h dX10_addCar_57 (lt_nl hnl (by decide)) ?_
                  refine jv_iinc (nI (r + 1)) h dX10_addCar_59 rfl (lt_nl hnl (by decide)) (nI_inc r) ?_
                  refine jv_goto 17 h dX10_addCar_62 (by decide) ?_
                  exact ih (r + 1) _ (by omega) (by omega) (by
                    rw [hsm]
                    show _ = smN (fun r => if r &&& s = r ∧ wtN w r 6 = l then wy (s ^^^ r) else 0) r + (if r &&& s = r ∧ wtN w r 6 = l then wy (s ^^^ r) else 0)
                    first
                    | (rw [if_pos (And.intro c29 c42)]; done)
                    | (rw [if_neg (fun z => c29 z.1)]; rfl)
                    | (rw [if_neg (fun z => c42 z.2)]; rfl))
        exact hl17 (s + 2) 0 0 (by omega) (by omega) rfl
  have ec : carI (2 ^ nn) = nI (2 ^ nn - 1) := by unfold carI; rw [if_neg (by omega)]
  rw [← ec]
  exact hl7 (2 ^ nn + 1) (2 ^ nn) _ _ _ (by omega) (by omega) (fun _ _ => rfl) (fun k hk => r3 k hk) (fun k h1 h2 => absurd h2 (by omega))
set_option maxHeartbeats 4000000 in
set_option maxRecDepth 100000 in
theorem c_allWays {g : GT} {T : TT} {Mi : MI} {Ml : ML} {G nn : Nat} {w wy : Nat → Nat} (hG : WgS g T G) (hR9 : WgR Mi G nn w wy) (h6 : nn ≤ 6) : Ct g yX10_allWays cX10_allWays 3 (some .int) 1 0 0 [.ref G] T Mi Ml (Ri T Mi Ml (nI (smN wy (2 ^ nn)))) := by
  refine Ct.of' (plainFor_of_name (by decide +kernel)) (by exact Nat.le_of_ble_eq_true rfl) ?_
  intro x hg hR h hr hnm hnl
  subst hg
  obtain ⟨g1, g2, g3, g4, g5⟩ := id hG
  obtain ⟨r1, r2, r3⟩ := id hR9
  obtain ⟨p1, p2⟩ := pw_le h6
  refine jv_iconst (nI 0) h dX10_allWays_0 (by decide) ?_
  refine jv_istore_n h dX10_allWays_1 (lt_nl hnl (by decide)) ?_
  refine jv_iconst (nI 0) h dX10_allWays_2 (by decide) ?_
  refine jv_istore_n h dX10_allWays_3 (lt_nl hnl (by decide)) ?_
  have hl4 : ∀ (n : Nat) (s sm : Nat), 2 ^ nn - s < n → s ≤ 2 ^ nn → sm = smN wy s → V x 0 0 T Mi Ml 4 [some (.ref G), some (.int (nI sm)), some (.int (nI s))] [] := by
    intro n
    induction n with
    | zero => intro s sm hN9 hs hsm; exact absurd hN9 (by omega)
    | succ n ih =>
      intro s sm hN9 hs hsm
      refine jv_iload_n h dX10_allWays_4 rfl ?_
      refine jv_aload_n h dX10_allWays_5 rfl ?_
      refine jv_gv 2 h dX10_allWays_6 cf_9 (by decide) gw_251 (by assumption) (by first | assumption | exact r3 _ (by omega)) ?_
      refine jv_nge 27 h dX10_allWays_9 (by decide) (by repeat (with_reducible first | exact NF_nI _ | assumption | refine NF_add ?_ ?_ | refine NF_mul ?_ ?_)) (by repeat (with_reducible first | exact NF_nI _ | assumption | refine NF_add ?_ ?_ | refine NF_mul ?_ ?_)) ⟨by omega, by omega⟩ (fun c9 => ?_) (fun c9 => ?_)
      · refine jv_iload_n h dX10_allWays_27 rfl ?_
        exact jv_iret h hr dX10_allWays_28 ⟨by rw [hsm, show s = 2 ^ nn by omega], rfl, rfl, rfl⟩
      · refine jv_iload_n h dX10_allWays_12 rfl ?_
        refine jv_aload_n h dX10_allWays_13 rfl ?_
        refine jv_gr 1 h dX10_allWays_14 cf_9 (by decide) gw_250 (by assumption) (by assumption) ?_
        refine jv_iload_n h dX10_allWays_17 rfl ?_
        refine jv_iav h dX10_allWays_18 (by assumption) (by repeat (with_reducible first | exact NF_nI _ | assumption | refine NF_add ?_ ?_ | refine NF_mul ?_ ?_)) ⟨by omega, by decide⟩ (by first | assumption | exact r3 _ (by omega)) ?_
        first | refine jv_iaddN h dX10_allWays_19 (by repeat (with_reducible first | exact NF_nI _ | assumption | refine NF_add ?_ ?_ | refine NF_mul ?_ ?_)) (by repeat (with_reducible first | exact NF_nI _ | assumption | refine NF_add ?_ ?_ | refine NF_mul ?_ ?_)) ?_ | refine jv_iadd h dX10_allWays_19 ?_
        refine jv_istore_n h dX10_allWays_20 (lt_nl hnl (by decide)) ?_
        refine jv_iinc (nI (s + 1)) h dX10_allWays_21 rfl (lt_nl hnl (by decide)) (nI_inc s) ?_
        refine jv_goto 4 h dX10_allWays_24 (by decide) ?_
        exact ih (s + 1) _ (by omega) (by omega) (by rw [hsm]; rfl)
  exact hl4 (2 ^ nn + 1) 0 0 (by omega) (by omega) rfl
set_option maxHeartbeats 4000000 in
set_option maxRecDepth 100000 in
theorem c_leastSet {g : GT} {T : TT} {Mi : MI} {Ml : ML} {G nn : Nat} {w wy : Nat → Nat} (hG : WgS g T G) (hR9 : WgR Mi G nn w wy) (h6 : nn ≤ 6) (hb : ∀ s, s < 2 ^ nn → wy s < 2 ^ 31) : Ct g yX10_leastSet cX10_leastSet 2 (some .int) 1 0 0 [.ref G] T Mi Ml (Ri T Mi Ml (fsN (fun s => decide (0 < wy s)) 0 (2 ^ nn))) := by
  refine Ct.of' (plainFor_of_name (by decide +kernel)) (by exact Nat.le_of_ble_eq_true rfl) ?_
  intro x hg hR h hr hnm hnl
  subst hg
  obtain ⟨g1, g2, g3, g4, g5⟩ := id hG
  obtain ⟨r1, r2, r3⟩ := id hR9
  obtain ⟨p1, p2⟩ := pw_le h6
  refine jv_iconst (nI 0) h dX10_leastSet_0 (by decide) ?_
  refine jv_istore_n h dX10_leastSet_1 (lt_nl hnl (by decide)) ?_
  have hl2 : ∀ (n : Nat) (s : Nat), 2 ^ nn - s < n → s ≤ 2 ^ nn → fsN (fun s => decide (0 < wy s)) s (2 ^ nn - s) = fsN (fun s => decide (0 < wy s)) 0 (2 ^ nn) → V x 0 0 T Mi Ml 2 [some (.ref G), some (.int (nI s))] [] := by
    intro n
    induction n with
    | zero => intro s hN9 hs hz; exact absurd hN9 (by omega)
    | succ n ih =>
      intro s hN9 hs hz
      refine jv_iload_n h dX10_leastSet_2 rfl ?_
      refine jv_aload_n h dX10_leastSet_3 rfl ?_
      refine jv_gv 2 h dX10_leastSet_4 cf_9 (by decide) gw_251 (by assumption) (by first | assumption | exact r3 _ (by omega)) ?_
      refine jv_nge 27 h dX10_leastSet_7 (by decide) (by repeat (with_reducible first | exact NF_nI _ | assumption | refine NF_add ?_ ?_ | refine NF_mul ?_ ?_)) (by repeat (with_reducible first | exact NF_nI _ | assumption | refine NF_add ?_ ?_ | refine NF_mul ?_ ?_)) ⟨by omega, by omega⟩ (fun c7 => ?_) (fun c7 => ?_)
      · refine jv_bipush (-4) h dX10_leastSet_27 (by decide) ?_
        exact jv_iret h hr dX10_leastSet_29 ⟨by
    rw [show 2 ^ nn - s = 0 by omega] at hz
    rw [← hz]; rfl, rfl, rfl, rfl⟩
      · have hb9 := hb s (by omega)
        refine jv_aload_n h dX10_leastSet_10 rfl ?_
        refine jv_gr 1 h dX10_leastSet_11 cf_9 (by decide) gw_250 (by assumption) (by assumption) ?_
        refine jv_iload_n h dX10_leastSet_14 rfl ?_
        refine jv_iav h dX10_leastSet_15 (by assumption) (by repeat (with_reducible first | exact NF_nI _ | assumption | refine NF_add ?_ ?_ | refine NF_mul ?_ ?_)) ⟨by omega, by decide⟩ (by first | assumption | exact r3 _ (by omega)) ?_
        refine jv_zle 21 h dX10_leastSet_16 (by decide) (by repeat (with_reducible first | exact NF_nI _ | assumption | refine NF_add ?_ ?_ | refine NF_mul ?_ ?_)) (by omega) (fun c16 => ?_) (fun c16 => ?_)
        · refine jv_iinc (nI (s + 1)) h dX10_leastSet_21 rfl (lt_nl hnl (by decide)) (nI_inc s) ?_
          refine jv_goto 2 h dX10_leastSet_24 (by decide) ?_
          rw [show 2 ^ nn - s = (2 ^ nn - (s + 1)) + 1 by omega] at hz
          rw [fsN_s] at hz
          rw [if_neg (by simp; omega)] at hz
          exact ih (s + 1) (by omega) (by omega) hz
        · refine jv_iload_n h dX10_leastSet_19 rfl ?_
          exact jv_iret h hr dX10_leastSet_20 ⟨by
    rw [show 2 ^ nn - s = (2 ^ nn - (s + 1)) + 1 by omega] at hz
    rw [fsN_s] at hz
    rw [if_pos (by simp; omega)] at hz
    rw [← hz], rfl, rfl, rfl⟩
  exact hl2 (2 ^ nn + 1) 0 (by omega) (by omega) rfl
