theorem rfN_0 {ln l sz : Nat} {i n : Int32} (h : rfN ln l i n sz = 0) : ln = l + 1 ∧ hoB i n sz = true := by
  unfold rfN at h
  by_cases h1 : ln = 0
  · rw [if_pos h1] at h; exact absurd h (by decide)
  · rw [if_neg h1] at h
    by_cases h2 : l + 1 ≠ ln
    · rw [if_pos h2] at h; exact absurd h (by decide)
    · rw [if_neg h2] at h
      by_cases h3 : hoB i n sz = true
      · exact ⟨by omega, h3⟩
      · rw [if_neg h3] at h; exact absurd h (by decide)
theorem i32_le24 (n : Int32) : n ≤ nI 24 ↔ n.toInt ≤ 24 := by rw [Int32.le_iff_toInt_le]; rfl
def FrS (Mi : MI) (Ml : ML) (Mi' : MI) (Ml' : ML) (X : Nat) : Prop := ∀ a, (a < X + 186 ∨ X + 194 ≤ a) → Mi' a = Mi a ∧ Ml' a = Ml a
theorem FrS.rf (Mi : MI) (Ml : ML) (X : Nat) : FrS Mi Ml Mi Ml X := fun _ _ => ⟨rfl, rfl⟩

theorem carI_inj {a b : Nat} (h : a < 2 ^ 31) (hj : b < 2 ^ 31) : carI a = carI b ↔ a = b := by
  cases b with
  | zero => rw [carI_0, carI_m1 h]
  | succ b => rw [carI_s, carI_eq h (by omega)]
theorem NF_inj2 {v : Int32} {a b : Nat} (h1 : NF v a) (h2 : NF v b) (ha : a < 2 ^ 31) (hb : b < 2 ^ 31) : a = b := by
  unfold NF at h1 h2
  rw [h1] at h2
  exact (nI_eq ha hb).mp h2
theorem NF_inj {a b : Nat} (h2 : NF (nI a) b) (ha : a < 2 ^ 31) (hb : b < 2 ^ 31) : a = b := NF_inj2 (NF_nI _) h2 ha hb
theorem ho_lng {i n : Int32} {sz : Nat} (hs : sz ≤ 24) : (lg_cmp (i.toInt64 + n.toInt64) (nI sz).toInt64 ≤ 0) ↔ i.toInt + n.toInt ≤ (sz : Int) := by
  rw [lg_cmp_le0, Int64.lt_iff_toInt_lt, Int64.toInt_add, l_i, l_i, l_i, nI_toInt (by omega)]
  have h1 := Int32.toInt_lt i
  have h2 := Int32.toInt_lt n
  have h3 := Int32.le_toInt i
  have h4 := Int32.le_toInt n
  rw [Int.bmod_eq_of_le (by omega) (by omega)]
  omega

set_option maxHeartbeats 4000000 in
set_option maxRecDepth 100000 in
theorem c_sheet {g : GT} {T : TT} {Mi : MI} {Ml : ML} {X : Nat} {q : SH} (hX : DayS g T X) (hC : ShC Mi Ml X q) (s l n : Int32) : Ct g yX11_sheet cX11_sheet 4 (some .int) 3 0 0 [.ref X, .int s, .int l, .int n] T Mi Ml (Gi T (fun rv Mi' Ml' => rv = (sp_sheet q s l n).1 ∧ FrS Mi Ml Mi' Ml' X ∧ ShC Mi' Ml' X (sp_sheet q s l n).2)) := by
  refine Ct.of' (plainFor_of_name (by decide +kernel)) (by exact Nat.le_of_ble_eq_true rfl) ?_
  intro x hg hR h hr hnm hnl
  subst hg
  obtain ⟨x0, ⟨x1, x2⟩, ⟨x3, x4⟩, ⟨x5, x6, x7, x8⟩, ⟨x9, x10, x11, x12, x13, x14⟩, ⟨x15, x16⟩, ⟨x17, x18, x19, x20⟩, ⟨x21, x22, x23, x24⟩, ⟨x25, x26, x27, x28, x29, x30⟩, x31, x32, x33, x34, x35, x36⟩ := id hX
  refine jv_iload_n h dX11_sheet_0 rfl ?_
  refine jv_SRi [_] h dX11_sheet_1 cw_X11_290 (c_isSheet _) (by decide) rfl rfl (Nat.le_of_ble_eq_true rfl) ⟨Nat.zero_le _, Nat.zero_le _⟩ ?_
  refine jv_beq 20 h dX11_sheet_4 (by decide) (fun c4 => ?_) (fun c4 => ?_)
  · refine jv_iconst (-1) h dX11_sheet_20 (by decide) ?_
    exact jv_iret h hr dX11_sheet_21 ⟨_, rfl, rfl, by
    have e : sp_sheet q s l n = (-1, q) := (by unfold sp_sheet; rw [if_neg (by first | (simp_all; done) | (intro z; exact absurd ((i32_le24 n).mpr z.2.2) c17))])
    rw [e]
    exact ⟨rfl, FrS.rf _ _ _, hC⟩⟩
  · refine jv_iload_n h dX11_sheet_7 rfl ?_
    refine jv_SRi [_] h dX11_sheet_8 cw_X11_293 (c_isLane _) (by decide) rfl rfl (Nat.le_of_ble_eq_true rfl) ⟨Nat.zero_le _, Nat.zero_le _⟩ ?_
    refine jv_beq 20 h dX11_sheet_11 (by decide) (fun c11 => ?_) (fun c11 => ?_)
    · refine jv_iconst (-1) h dX11_sheet_20 (by decide) ?_
      exact jv_iret h hr dX11_sheet_21 ⟨_, rfl, rfl, by
    have e : sp_sheet q s l n = (-1, q) := (by unfold sp_sheet; rw [if_neg (by first | (simp_all; done) | (intro z; exact absurd ((i32_le24 n).mpr z.2.2) c17))])
    rw [e]
    exact ⟨rfl, FrS.rf _ _ _, hC⟩⟩
    · refine jv_iload_n h dX11_sheet_14 rfl ?_
      refine jv_bipush (nI 24) h dX11_sheet_15 (by decide) ?_
      refine jv_icmp_le 22 h dX11_sheet_17 (by decide) (fun c17 => ?_) (fun c17 => ?_)
      · refine jv_iload_n h dX11_sheet_22 rfl ?_
        refine jv_if_ge 29 h dX11_sheet_23 (by decide) (fun c23 => ?_) (fun c23 => ?_)
        · obtain ⟨s9, rfl, -, hs9⟩ := isB_t c4
          obtain ⟨l9, rfl, -, hl9⟩ := isB_t c11
          obtain ⟨n9, hn9, rfl⟩ := nI_of ((i32_le0 n).mp c23)
          rw [i32_le24, nI_toInt hn9] at c17
          refine jv_aload_n h dX11_sheet_29 rfl ?_
          refine jv_gr 9 h dX11_sheet_30 cf_10 (by decide) gw_289 (by first | assumption | exact x33 _ (by omega) | exact x34 _ (by omega) | exact hX.sht (by omega) | exact (hX.sht (by omega)).2.1 | exact (hX.sht (by omega)).2.2) (by first | assumption | exact x33 _ (by omega) | exact x34 _ (by omega) | exact hX.sht (by omega) | exact (hX.sht (by omega)).2.1 | exact (hX.sht (by omega)).2.2) ?_
          refine jv_iload_n h dX11_sheet_33 rfl ?_
          refine jv_aald h dX11_sheet_34 (by first | assumption | exact x33 _ (by omega) | exact x34 _ (by omega) | exact hX.sht (by omega) | exact (hX.sht (by omega)).2.1 | exact (hX.sht (by omega)).2.2) (by decide) (by repeat (with_reducible first | exact NF_nI _ | assumption | refine NF_add ?_ ?_ | refine NF_mul ?_ ?_)) ⟨by omega, by decide⟩ (by first | assumption | exact x33 _ (by omega) | exact x34 _ (by omega) | exact hX.sht (by omega) | exact (hX.sht (by omega)).2.1 | exact (hX.sht (by omega)).2.2) ?_
          refine jv_iload_n h dX11_sheet_35 rfl ?_
          refine jv_iload_n h dX11_sheet_36 rfl ?_
          refine jv_VGv [_, _] h dX11_sheet_37 cw_X11_325 cf_6 (by first | assumption | exact x33 _ (by omega) | exact x34 _ (by omega) | exact hX.sht (by omega) | exact (hX.sht (by omega)).2.1 | exact (hX.sht (by omega)).2.2) (c_shbegin _ _ (hX.sht hs9)) (by decide) rfl rfl (Nat.le_of_ble_eq_true rfl) ⟨Nat.zero_le _, Nat.zero_le _⟩ (fun Mi37 Ml37 hp37 => ?_)
          refine jv_iload_n h dX11_sheet_40 rfl ?_
          exact jv_iret h hr dX11_sheet_41 ⟨_, rfl, rfl, by
    have e : sp_sheet q (nI s9) (nI l9) (nI n9) = (nI n9, shSet q s9 (l9 + 1) n9 (fun _ => 0)) := (by unfold sp_sheet; rw [if_pos ⟨by assumption, by assumption, by rw [nI_toInt hn9]; exact c17⟩, if_neg (nI_pos hn9), pn_nI (by omega), pn_nI (by omega), pn_nI (by omega)])
    rw [e]
    obtain ⟨p1, p2, p3⟩ := hp37
    refine ⟨rfl, fun a ha => ⟨by rw [p1, upd2_row _ _ (by omega), upd2_row _ _ (by omega)], p2 a (by omega)⟩, hC.upd hs9 (fun a ha => by rw [p1, upd2_row _ _ ha, upd2_row _ _ ha]) (fun a ha => p2 a ha) ⟨by rw [p1, upd2_ne _ _ (by omega), upd2_same, carI_s], by omega, fun _ => ⟨by rw [p1, upd2_same], by omega, fun k hk => p3 k hk⟩⟩⟩⟩
        · refine jv_bipush (-14) h dX11_sheet_26 (by decide) ?_
          exact jv_iret h hr dX11_sheet_28 ⟨_, rfl, rfl, by
    have e : sp_sheet q s l n = (-14, q) := (by unfold sp_sheet; rw [if_pos ⟨by assumption, by assumption, (i32_le24 n).mp c17⟩, if_pos (by rw [i32_le0] at c23; simpa using c23)])
    rw [e]
    exact ⟨rfl, FrS.rf _ _ _, hC⟩⟩
      · refine jv_iconst (-1) h dX11_sheet_20 (by decide) ?_
        exact jv_iret h hr dX11_sheet_21 ⟨_, rfl, rfl, by
    have e : sp_sheet q s l n = (-1, q) := (by unfold sp_sheet; rw [if_neg (by first | (simp_all; done) | (intro z; exact absurd ((i32_le24 n).mpr z.2.2) c17))])
    rw [e]
    exact ⟨rfl, FrS.rf _ _ _, hC⟩⟩
set_option maxHeartbeats 4000000 in
set_option maxRecDepth 100000 in
theorem c_drop {g : GT} {T : TT} {Mi : MI} {Ml : ML} {X : Nat} {q : SH} (hX : DayS g T X) (hC : ShC Mi Ml X q) (s : Int32) : Ct g yX11_drop cX11_drop 4 (some .int) 3 0 0 [.ref X, .int s] T Mi Ml (Gi T (fun rv Mi' Ml' => rv = (sp_drop q s).1 ∧ FrS Mi Ml Mi' Ml' X ∧ ShC Mi' Ml' X (sp_drop q s).2)) := by
  refine Ct.of' (plainFor_of_name (by decide +kernel)) (by exact Nat.le_of_ble_eq_true rfl) ?_
  intro x hg hR h hr hnm hnl
  subst hg
  obtain ⟨x0, ⟨x1, x2⟩, ⟨x3, x4⟩, ⟨x5, x6, x7, x8⟩, ⟨x9, x10, x11, x12, x13, x14⟩, ⟨x15, x16⟩, ⟨x17, x18, x19, x20⟩, ⟨x21, x22, x23, x24⟩, ⟨x25, x26, x27, x28, x29, x30⟩, x31, x32, x33, x34, x35, x36⟩ := id hX
  refine jv_iload_n h dX11_drop_0 rfl ?_
  refine jv_SRi [_] h dX11_drop_1 cw_X11_290 (c_isSheet _) (by decide) rfl rfl (Nat.le_of_ble_eq_true rfl) ⟨Nat.zero_le _, Nat.zero_le _⟩ ?_
  refine jv_bne 9 h dX11_drop_4 (by decide) (fun c4 => ?_) (fun c4 => ?_)
  · obtain ⟨s9, rfl, -, hs9⟩ := isB_t c4
    obtain ⟨e1, e2, e3⟩ := hC s9 hs9
    have hsp : sp_drop q (nI s9) = (if q.1 s9 = 0 then (-11, q) else (nI (q.2.1 s9), shSet q s9 0 (q.2.1 s9) (q.2.2 s9))) := (by unfold sp_drop; rw [if_pos c4, pn_nI (by omega)])
    refine jv_aload_n h dX11_drop_9 rfl ?_
    refine jv_gr 9 h dX11_drop_10 cf_10 (by decide) gw_289 (by first | assumption | exact x33 _ (by omega) | exact x34 _ (by omega) | exact hX.sht (by omega) | exact (hX.sht (by omega)).2.1 | exact (hX.sht (by omega)).2.2) (by first | assumption | exact x33 _ (by omega) | exact x34 _ (by omega) | exact hX.sht (by omega) | exact (hX.sht (by omega)).2.1 | exact (hX.sht (by omega)).2.2) ?_
    refine jv_iload_n h dX11_drop_13 rfl ?_
    refine jv_aald h dX11_drop_14 (by first | assumption | exact x33 _ (by omega) | exact x34 _ (by omega) | exact hX.sht (by omega) | exact (hX.sht (by omega)).2.1 | exact (hX.sht (by omega)).2.2) (by decide) (by repeat (with_reducible first | exact NF_nI _ | assumption | refine NF_add ?_ ?_ | refine NF_mul ?_ ?_)) ⟨by omega, by decide⟩ (by first | assumption | exact x33 _ (by omega) | exact x34 _ (by omega) | exact hX.sht (by omega) | exact (hX.sht (by omega)).2.1 | exact (hX.sht (by omega)).2.2) ?_
    refine jv_astore_n h dX11_drop_15 (lt_nl hnl (by decide)) ?_
    refine jv_aload_n h dX11_drop_16 rfl ?_
    refine jv_VRi [] h dX11_drop_17 cw_X11_328 cf_6 (by first | assumption | exact x33 _ (by omega) | exact x34 _ (by omega) | exact hX.sht (by omega) | exact (hX.sht (by omega)).2.1 | exact (hX.sht (by omega)).2.2) (c_isMissing (x34 _ hs9) e1 e2) (by decide) rfl rfl (Nat.le_of_ble_eq_true rfl) ⟨Nat.zero_le _, Nat.zero_le _⟩ ?_
    refine jv_beq 26 h dX11_drop_20 (by decide) (fun c20 => ?_) (fun c20 => ?_)
    · simp at c20
      obtain ⟨e4, e5, e6⟩ := e3 c20
      refine jv_aload_n h dX11_drop_26 rfl ?_
      refine jv_gv 2 h dX11_drop_27 cf_6 (by decide) gw_271 (by first | assumption | exact x33 _ (by omega) | exact x34 _ (by omega) | exact hX.sht (by omega) | exact (hX.sht (by omega)).2.1 | exact (hX.sht (by omega)).2.2) (by assumption) ?_
      refine jv_istore_n h dX11_drop_30 (lt_nl hnl (by decide)) ?_
      refine jv_aload_n h dX11_drop_31 rfl ?_
      refine jv_iconst (-1) h dX11_drop_32 (by decide) ?_
      refine jv_iconst (nI 0) h dX11_drop_33 (by decide) ?_
      refine jv_VGv [_, _] h dX11_drop_34 cw_X11_325 cf_6 (by first | assumption | exact x33 _ (by omega) | exact x34 _ (by omega) | exact hX.sht (by omega) | exact (hX.sht (by omega)).2.1 | exact (hX.sht (by omega)).2.2) (c_shbegin _ _ (hX.sht hs9)) (by decide) rfl rfl (Nat.le_of_ble_eq_true rfl) ⟨Nat.zero_le _, Nat.zero_le _⟩ (fun Mi34 Ml34 hp34 => ?_)
      refine jv_iload_n h dX11_drop_37 rfl ?_
      exact jv_iret h hr dX11_drop_38 ⟨_, rfl, rfl, by
    rw [hsp, if_neg c20]
    obtain ⟨p1, p2, p3⟩ := hp34
    refine ⟨rfl, fun a ha => ⟨by rw [p1, upd2_row _ _ (by omega), upd2_row _ _ (by omega)], p2 a (by omega)⟩, hC.upd hs9 (fun a ha => by rw [p1, upd2_row _ _ ha, upd2_row _ _ ha]) (fun a ha => p2 a ha) ⟨by rw [p1, upd2_ne _ _ (by omega), upd2_same, carI_0], by omega, fun z => absurd rfl z⟩⟩⟩
    · simp at c20
      refine jv_bipush (-11) h dX11_drop_23 (by decide) ?_
      exact jv_iret h hr dX11_drop_25 ⟨_, rfl, rfl, by
    have e : sp_drop q (nI s9) = (-11, q) := (by rw [hsp, if_pos c20])
    rw [e]
    exact ⟨rfl, FrS.rf _ _ _, hC⟩⟩
  · refine jv_iconst (-1) h dX11_drop_7 (by decide) ?_
    exact jv_iret h hr dX11_drop_8 ⟨_, rfl, rfl, by
    have e : sp_drop q s = (-1, q) := (by unfold sp_drop; rw [if_neg (by simp [c4])])
    rw [e]
    exact ⟨rfl, FrS.rf _ _ _, hC⟩⟩
set_option maxHeartbeats 4000000 in
set_option maxRecDepth 100000 in
theorem c_item {g : GT} {T : TT} {Mi : MI} {Ml : ML} {X : Nat} {q : SH} (hX : DayS g T X) (hC : ShC Mi Ml X q) (s l i : Int32) (v : Int64) : Ct g yX11_item cX11_item 8 (some .int) 3 0 0 [.ref X, .int s, .int l, .int i, .long v] T Mi Ml (Gi T (fun rv Mi' Ml' => rv = (sp_item q s l i v).1 ∧ FrS Mi Ml Mi' Ml' X ∧ ShC Mi' Ml' X (sp_item q s l i v).2)) := by
  refine Ct.of' (plainFor_of_name (by decide +kernel)) (by exact Nat.le_of_ble_eq_true rfl) ?_
  intro x hg hR h hr hnm hnl
  subst hg
  obtain ⟨x0, ⟨x1, x2⟩, ⟨x3, x4⟩, ⟨x5, x6, x7, x8⟩, ⟨x9, x10, x11, x12, x13, x14⟩, ⟨x15, x16⟩, ⟨x17, x18, x19, x20⟩, ⟨x21, x22, x23, x24⟩, ⟨x25, x26, x27, x28, x29, x30⟩, x31, x32, x33, x34, x35, x36⟩ := id hX
  refine jv_iload_n h dX11_item_0 rfl ?_
  refine jv_SRi [_] h dX11_item_1 cw_X11_290 (c_isSheet _) (by decide) rfl rfl (Nat.le_of_ble_eq_true rfl) ⟨Nat.zero_le _, Nat.zero_le _⟩ ?_
  refine jv_beq 14 h dX11_item_4 (by decide) (fun c4 => ?_) (fun c4 => ?_)
  · refine jv_iconst (-1) h dX11_item_14 (by decide) ?_
    exact jv_iret h hr dX11_item_15 ⟨_, rfl, rfl, by
    have e : sp_item q s l i v = (-1, q) := (by unfold sp_item; rw [if_neg (by simp_all)])
    rw [e]
    exact ⟨rfl, FrS.rf _ _ _, hC⟩⟩
  · refine jv_iload_n h dX11_item_7 rfl ?_
    refine jv_SRi [_] h dX11_item_8 cw_X11_293 (c_isLane _) (by decide) rfl rfl (Nat.le_of_ble_eq_true rfl) ⟨Nat.zero_le _, Nat.zero_le _⟩ ?_
    refine jv_bne 16 h dX11_item_11 (by decide) (fun c11 => ?_) (fun c11 => ?_)
    · obtain ⟨s9, rfl, -, hs9⟩ := isB_t c4
      obtain ⟨l9, rfl, -, hl9⟩ := isB_t c11
      obtain ⟨e1, e2, e3⟩ := hC s9 hs9
      have hsp : sp_item q (nI s9) (nI l9) i v = (if rfN (q.1 s9) l9 i (nI 1) (q.2.1 s9) = 0 then (nI 1, shSet q s9 (q.1 s9) (q.2.1 s9) (itSet (q.2.2 s9) (pn i) (cvL l9 v))) else (rfN (q.1 s9) l9 i (nI 1) (q.2.1 s9), q)) := (by unfold sp_item; rw [if_pos ⟨by assumption, by assumption⟩, pn_nI (by omega), pn_nI (by omega)])
      refine jv_aload_n h dX11_item_16 rfl ?_
      refine jv_gr 9 h dX11_item_17 cf_10 (by decide) gw_289 (by first | assumption | exact x33 _ (by omega) | exact x34 _ (by omega) | exact hX.sht (by omega) | exact (hX.sht (by omega)).2.1 | exact (hX.sht (by omega)).2.2) (by first | assumption | exact x33 _ (by omega) | exact x34 _ (by omega) | exact hX.sht (by omega) | exact (hX.sht (by omega)).2.1 | exact (hX.sht (by omega)).2.2) ?_
      refine jv_iload_n h dX11_item_20 rfl ?_
      refine jv_aald h dX11_item_21 (by first | assumption | exact x33 _ (by omega) | exact x34 _ (by omega) | exact hX.sht (by omega) | exact (hX.sht (by omega)).2.1 | exact (hX.sht (by omega)).2.2) (by decide) (by repeat (with_reducible first | exact NF_nI _ | assumption | refine NF_add ?_ ?_ | refine NF_mul ?_ ?_)) ⟨by omega, by decide⟩ (by first | assumption | exact x33 _ (by omega) | exact x34 _ (by omega) | exact hX.sht (by omega) | exact (hX.sht (by omega)).2.1 | exact (hX.sht (by omega)).2.2) ?_
      refine jv_astore h dX11_item_22 (lt_nl hnl (by decide)) ?_
      refine jv_aload h dX11_item_24 rfl ?_
      refine jv_iload_n h dX11_item_26 rfl ?_
      refine jv_iload_n h dX11_item_27 rfl ?_
      refine jv_iconst (nI 1) h dX11_item_28 (by decide) ?_
      refine jv_VRi [_, _, _] h dX11_item_29 cw_X11_296 cf_6 (by first | assumption | exact x33 _ (by omega) | exact x34 _ (by omega) | exact hX.sht (by omega) | exact (hX.sht (by omega)).2.1 | exact (hX.sht (by omega)).2.2) (c_refusal _ _ (x34 _ hs9) e1 e2 (fun z => ⟨(e3 z).1, (e3 z).2.1⟩) (NF_nI _) hl9) (by decide) rfl rfl (Nat.le_of_ble_eq_true rfl) ⟨Nat.zero_le _, Nat.zero_le _⟩ ?_
      refine jv_istore h dX11_item_32 (lt_nl hnl (by decide)) ?_
      refine jv_iload h dX11_item_34 rfl ?_
      refine jv_if_eq 42 h dX11_item_36 (by decide) (fun c36 => ?_) (fun c36 => ?_)
      · obtain ⟨k1, k2⟩ := rfN_0 c36
        obtain ⟨e4, e5, e6⟩ := e3 (by omega)
        obtain ⟨a9, b9, rfl, hb9, hab⟩ := hoB_t k2
        have hb1 : 1 = b9 := by have := NF_inj hb9 (by decide) (by omega); exact this
        refine jv_aload h dX11_item_42 rfl ?_
        refine jv_iload_n h dX11_item_44 rfl ?_
        refine jv_lload h dX11_item_45 rfl ?_
        refine jv_VGv [_, _] h dX11_item_47 cw_X11_321 cf_6 (by first | assumption | exact x33 _ (by omega) | exact x34 _ (by omega) | exact hX.sht (by omega) | exact (hX.sht (by omega)).2.1 | exact (hX.sht (by omega)).2.2) (c_put _ (hX.sht hs9) e1 ⟨by omega, by omega⟩ (NF_nI _) (by omega)) (by decide) rfl rfl (Nat.le_of_ble_eq_true rfl) ⟨Nat.zero_le _, Nat.zero_le _⟩ (fun Mi47 Ml47 hp47 => ?_)
        refine jv_iconst (nI 1) h dX11_item_50 (by decide) ?_
        exact jv_iret h hr dX11_item_51 ⟨_, rfl, rfl, by
    rw [hsp, if_pos c36, pn_nI (by omega)]
    obtain ⟨p1, p2⟩ := hp47
    rw [k1, show l9 + 1 - 1 = l9 by omega] at p2
    refine ⟨rfl, fun a ha => ⟨by rw [p1], by rw [p2, upd2_row _ _ (by omega)]⟩, hC.upd hs9 (fun a ha => by rw [p1]) (fun a ha => by rw [p2, upd2_row _ _ ha]) ⟨by rw [p1]; exact e1, e2, fun _ => ⟨by rw [p1]; exact e4, e5, fun k hk => ?_⟩⟩⟩
    rw [p2]
    unfold itSet
    by_cases hka : k = a9
    · rw [if_pos hka, hka, upd2_same]
    · rw [if_neg hka, upd2_ne _ _ (by omega)]; exact e6 k hk⟩
      · refine jv_iload h dX11_item_39 rfl ?_
        exact jv_iret h hr dX11_item_41 ⟨_, rfl, rfl, by
    have e : sp_item q (nI s9) (nI l9) i v = (rfN (q.1 s9) l9 i (nI 1) (q.2.1 s9), q) := (by rw [hsp, if_neg c36])
    rw [e]
    exact ⟨rfl, FrS.rf _ _ _, hC⟩⟩
    · refine jv_iconst (-1) h dX11_item_14 (by decide) ?_
      exact jv_iret h hr dX11_item_15 ⟨_, rfl, rfl, by
    have e : sp_item q s l i v = (-1, q) := (by unfold sp_item; rw [if_neg (by simp_all)])
    rw [e]
    exact ⟨rfl, FrS.rf _ _ _, hC⟩⟩
set_option maxHeartbeats 4000000 in
set_option maxRecDepth 100000 in
theorem c_copy {g : GT} {T : TT} {Mi : MI} {Ml : ML} {X : Nat} {q : SH} (hX : DayS g T X) (hC : ShC Mi Ml X q) (f i t j n : Int32) : Ct g yX11_copy cX11_copy 8 (some .int) 3 0 0 [.ref X, .int f, .int i, .int t, .int j, .int n] T Mi Ml (Gi T (fun rv Mi' Ml' => rv = (sp_copy q f i t j n).1 ∧ FrS Mi Ml Mi' Ml' X ∧ ShC Mi' Ml' X (sp_copy q f i t j n).2)) := by
  refine Ct.of' (plainFor_of_name (by decide +kernel)) (by exact Nat.le_of_ble_eq_true rfl) ?_
  intro x hg hR h hr hnm hnl
  subst hg
  obtain ⟨x0, ⟨x1, x2⟩, ⟨x3, x4⟩, ⟨x5, x6, x7, x8⟩, ⟨x9, x10, x11, x12, x13, x14⟩, ⟨x15, x16⟩, ⟨x17, x18, x19, x20⟩, ⟨x21, x22, x23, x24⟩, ⟨x25, x26, x27, x28, x29, x30⟩, x31, x32, x33, x34, x35, x36⟩ := id hX
  refine jv_iload_n h dX11_copy_0 rfl ?_
  refine jv_SRi [_] h dX11_copy_1 cw_X11_290 (c_isSheet _) (by decide) rfl rfl (Nat.le_of_ble_eq_true rfl) ⟨Nat.zero_le _, Nat.zero_le _⟩ ?_
  refine jv_beq 14 h dX11_copy_4 (by decide) (fun c4 => ?_) (fun c4 => ?_)
  · refine jv_iconst (-1) h dX11_copy_14 (by decide) ?_
    exact jv_iret h hr dX11_copy_15 ⟨_, rfl, rfl, by
    have e : sp_copy q f i t j n = (-1, q) := (by unfold sp_copy; rw [if_neg (by simp_all)])
    rw [e]
    exact ⟨rfl, FrS.rf _ _ _, hC⟩⟩
  · refine jv_iload_n h dX11_copy_7 rfl ?_
    refine jv_SRi [_] h dX11_copy_8 cw_X11_290 (c_isSheet _) (by decide) rfl rfl (Nat.le_of_ble_eq_true rfl) ⟨Nat.zero_le _, Nat.zero_le _⟩ ?_
    refine jv_bne 16 h dX11_copy_11 (by decide) (fun c11 => ?_) (fun c11 => ?_)
    · obtain ⟨f9, rfl, -, hf9⟩ := isB_t c4
      obtain ⟨t9, rfl, -, ht9⟩ := isB_t c11
      obtain ⟨e1, e2, e3⟩ := hC f9 hf9
      obtain ⟨k1, k2, k3⟩ := hC t9 ht9
      have hsp : sp_copy q (nI f9) i (nI t9) j n = (if q.1 f9 = 0 ∨ q.1 t9 = 0 then (-11, q) else if q.1 f9 ≠ q.1 t9 then (-12, q) else if hoB i n (q.2.1 f9) = true ∧ hoB j n (q.2.1 t9) = true then (n, shSet q t9 (q.1 t9) (q.2.1 t9) (cpI (q.2.2 f9) (q.2.2 t9) (pn i) (pn j) (pn n))) else (-13, q)) := (by unfold sp_copy; rw [if_pos ⟨by assumption, by assumption⟩, pn_nI (by omega), pn_nI (by omega)])
      refine jv_aload_n h dX11_copy_16 rfl ?_
      refine jv_gr 9 h dX11_copy_17 cf_10 (by decide) gw_289 (by first | assumption | exact x33 _ (by omega) | exact x34 _ (by omega) | exact hX.sht (by omega) | exact (hX.sht (by omega)).2.1 | exact (hX.sht (by omega)).2.2) (by first | assumption | exact x33 _ (by omega) | exact x34 _ (by omega) | exact hX.sht (by omega) | exact (hX.sht (by omega)).2.1 | exact (hX.sht (by omega)).2.2) ?_
      refine jv_iload_n h dX11_copy_20 rfl ?_
      refine jv_aald h dX11_copy_21 (by first | assumption | exact x33 _ (by omega) | exact x34 _ (by omega) | exact hX.sht (by omega) | exact (hX.sht (by omega)).2.1 | exact (hX.sht (by omega)).2.2) (by decide) (by repeat (with_reducible first | exact NF_nI _ | assumption | refine NF_add ?_ ?_ | refine NF_mul ?_ ?_)) ⟨by omega, by decide⟩ (by first | assumption | exact x33 _ (by omega) | exact x34 _ (by omega) | exact hX.sht (by omega) | exact (hX.sht (by omega)).2.1 | exact (hX.sht (by omega)).2.2) ?_
      refine jv_astore h dX11_copy_22 (lt_nl hnl (by decide)) ?_
      refine jv_aload_n h dX11_copy_24 rfl ?_
      refine jv_gr 9 h dX11_copy_25 cf_10 (by decide) gw_289 (by first | assumption | exact x33 _ (by omega) | exact x34 _ (by omega) | exact hX.sht (by omega) | exact (hX.sht (by omega)).2.1 | exact (hX.sht (by omega)).2.2) (by first | assumption | exact x33 _ (by omega) | exact x34 _ (by omega) | exact hX.sht (by omega) | exact (hX.sht (by omega)).2.1 | exact (hX.sht (by omega)).2.2) ?_
      refine jv_iload_n h dX11_copy_28 rfl ?_
      refine jv_aald h dX11_copy_29 (by first | assumption | exact x33 _ (by omega) | exact x34 _ (by omega) | exact hX.sht (by omega) | exact (hX.sht (by omega)).2.1 | exact (hX.sht (by omega)).2.2) (by decide) (by repeat (with_reducible first | exact NF_nI _ | assumption | refine NF_add ?_ ?_ | refine NF_mul ?_ ?_)) ⟨by omega, by decide⟩ (by first | assumption | exact x33 _ (by omega) | exact x34 _ (by omega) | exact hX.sht (by omega) | exact (hX.sht (by omega)).2.1 | exact (hX.sht (by omega)).2.2) ?_
      refine jv_astore h dX11_copy_30 (lt_nl hnl (by decide)) ?_
      refine jv_aload h dX11_copy_32 rfl ?_
      refine jv_VRi [] h dX11_copy_34 cw_X11_328 cf_6 (by first | assumption | exact x33 _ (by omega) | exact x34 _ (by omega) | exact hX.sht (by omega) | exact (hX.sht (by omega)).2.1 | exact (hX.sht (by omega)).2.2) (c_isMissing (x34 _ hf9) e1 e2) (by decide) rfl rfl (Nat.le_of_ble_eq_true rfl) ⟨Nat.zero_le _, Nat.zero_le _⟩ ?_
      refine jv_bne 48 h dX11_copy_37 (by decide) (fun c37 => ?_) (fun c37 => ?_)
      · simp at c37
        refine jv_bipush (-11) h dX11_copy_48 (by decide) ?_
        exact jv_iret h hr dX11_copy_50 ⟨_, rfl, rfl, by
    have e : sp_copy q (nI f9) i (nI t9) j n = (-11, q) := (by rw [hsp, if_pos (by omega)])
    rw [e]
    exact ⟨rfl, FrS.rf _ _ _, hC⟩⟩
      · simp at c37
        refine jv_aload h dX11_copy_40 rfl ?_
        refine jv_VRi [] h dX11_copy_42 cw_X11_328 cf_6 (by first | assumption | exact x33 _ (by omega) | exact x34 _ (by omega) | exact hX.sht (by omega) | exact (hX.sht (by omega)).2.1 | exact (hX.sht (by omega)).2.2) (c_isMissing (x34 _ ht9) k1 k2) (by decide) rfl rfl (Nat.le_of_ble_eq_true rfl) ⟨Nat.zero_le _, Nat.zero_le _⟩ ?_
        refine jv_beq 51 h dX11_copy_45 (by decide) (fun c45 => ?_) (fun c45 => ?_)
        · simp at c45
          obtain ⟨e4, e5, e6⟩ := e3 c37
          obtain ⟨k4, k5, k6⟩ := k3 c45
          rw [if_neg (by omega)] at hsp
          refine jv_aload h dX11_copy_51 rfl ?_
          refine jv_gi 1 h dX11_copy_53 cf_6 (by decide) gw_269 (by first | assumption | exact x33 _ (by omega) | exact x34 _ (by omega) | exact hX.sht (by omega) | exact (hX.sht (by omega)).2.1 | exact (hX.sht (by omega)).2.2) ?_
          refine jv_aload h dX11_copy_56 rfl ?_
          refine jv_gi 1 h dX11_copy_58 cf_6 (by decide) gw_269 (by first | assumption | exact x33 _ (by omega) | exact x34 _ (by omega) | exact hX.sht (by omega) | exact (hX.sht (by omega)).2.1 | exact (hX.sht (by omega)).2.2) ?_
          refine jv_icmp_eq 67 h dX11_copy_61 (by decide) (fun c61 => ?_) (fun c61 => ?_)
          · rw [e1, k1, carI_inj (by omega) (by omega)] at c61
            rw [if_neg (by omega)] at hsp
            refine jv_aload h dX11_copy_67 rfl ?_
            refine jv_iload_n h dX11_copy_69 rfl ?_
            refine jv_iload h dX11_copy_70 rfl ?_
            refine jv_VRi [_, _] h dX11_copy_72 cw_X11_335 cf_6 (by first | assumption | exact x33 _ (by omega) | exact x34 _ (by omega) | exact hX.sht (by omega) | exact (hX.sht (by omega)).2.1 | exact (hX.sht (by omega)).2.2) (c_holds _ _ (x34 _ hf9) e4 e5) (by decide) rfl rfl (Nat.le_of_ble_eq_true rfl) ⟨Nat.zero_le _, Nat.zero_le _⟩ ?_
            refine jv_beq 90 h dX11_copy_75 (by decide) (fun c75 => ?_) (fun c75 => ?_)
            · refine jv_bipush (-13) h dX11_copy_90 (by decide) ?_
              exact jv_iret h hr dX11_copy_92 ⟨_, rfl, rfl, by
    have e : sp_copy q (nI f9) i (nI t9) j n = (-13, q) := (by rw [hsp, if_neg (by simp_all)])
    rw [e]
    exact ⟨rfl, FrS.rf _ _ _, hC⟩⟩
            · refine jv_aload h dX11_copy_78 rfl ?_
              refine jv_iload h dX11_copy_80 rfl ?_
              refine jv_iload h dX11_copy_82 rfl ?_
              refine jv_VRi [_, _] h dX11_copy_84 cw_X11_335 cf_6 (by first | assumption | exact x33 _ (by omega) | exact x34 _ (by omega) | exact hX.sht (by omega) | exact (hX.sht (by omega)).2.1 | exact (hX.sht (by omega)).2.2) (c_holds _ _ (x34 _ ht9) k4 k5) (by decide) rfl rfl (Nat.le_of_ble_eq_true rfl) ⟨Nat.zero_le _, Nat.zero_le _⟩ ?_
              refine jv_bne 93 h dX11_copy_87 (by decide) (fun c87 => ?_) (fun c87 => ?_)
              · obtain ⟨a9, n9, rfl, hn9, hab⟩ := hoB_t c75
                obtain ⟨b9, n8, rfl, hn8, hbb⟩ := hoB_t c87
                have hnn : n9 = n8 := NF_inj2 hn9 hn8 (by omega) (by omega)
                subst hnn
                obtain rfl : n = nI n9 := hn9
                refine jv_aload h dX11_copy_93 rfl ?_
                refine jv_gr 0 h dX11_copy_95 cf_6 (by decide) gw_267 (by first | assumption | exact x33 _ (by omega) | exact x34 _ (by omega) | exact hX.sht (by omega) | exact (hX.sht (by omega)).2.1 | exact (hX.sht (by omega)).2.2) (by first | assumption | exact x33 _ (by omega) | exact x34 _ (by omega) | exact hX.sht (by omega) | exact (hX.sht (by omega)).2.1 | exact (hX.sht (by omega)).2.2) ?_
                refine jv_iload_n h dX11_copy_98 rfl ?_
                refine jv_aload h dX11_copy_99 rfl ?_
                refine jv_gr 0 h dX11_copy_101 cf_6 (by decide) gw_267 (by first | assumption | exact x33 _ (by omega) | exact x34 _ (by omega) | exact hX.sht (by omega) | exact (hX.sht (by omega)).2.1 | exact (hX.sht (by omega)).2.2) (by first | assumption | exact x33 _ (by omega) | exact x34 _ (by omega) | exact hX.sht (by omega) | exact (hX.sht (by omega)).2.1 | exact (hX.sht (by omega)).2.2) ?_
                refine jv_iload h dX11_copy_104 rfl ?_
                refine jv_iload h dX11_copy_106 rfl ?_
                refine jv_copyl h (by decide) dX11_copy_108 gw_893 gw_569 gw_568 gw_21 (by first | assumption | exact x33 _ (by omega) | exact x34 _ (by omega) | exact hX.sht (by omega) | exact (hX.sht (by omega)).2.1 | exact (hX.sht (by omega)).2.2) (by first | assumption | exact x33 _ (by omega) | exact x34 _ (by omega) | exact hX.sht (by omega) | exact (hX.sht (by omega)).2.1 | exact (hX.sht (by omega)).2.2) (by repeat (with_reducible first | exact NF_nI _ | assumption | refine NF_add ?_ ?_ | refine NF_mul ?_ ?_)) (by repeat (with_reducible first | exact NF_nI _ | assumption | refine NF_add ?_ ?_ | refine NF_mul ?_ ?_)) (by repeat (with_reducible first | exact NF_nI _ | assumption | refine NF_add ?_ ?_ | refine NF_mul ?_ ?_)) (by omega) (Nat.le_of_ble_eq_true rfl) ?_
                refine jv_iload h dX11_copy_111 rfl ?_
                exact jv_iret h hr dX11_copy_113 ⟨_, rfl, rfl, by
    rw [hsp, if_pos ⟨c75, c87⟩, pn_nI (by omega), pn_nI (by omega), pn_nI (by omega)]
    refine ⟨rfl, fun a ha => ⟨rfl, by
      funext j
      try dsimp only
      rw [if_neg (by omega)]⟩, hC.upd ht9 (fun a ha => rfl) (fun a ha => by
      funext j
      try dsimp only
      rw [if_neg ha]) ⟨k1, k2, fun _ => ⟨k4, k5, fun k hk => ?_⟩⟩⟩
    try dsimp only
    rw [if_pos rfl]
    unfold va_cpy cpI
    by_cases hkk : b9 ≤ k ∧ k < b9 + n9
    · rw [if_pos hkk, if_pos hkk]; exact e6 _ (by omega)
    · rw [if_neg hkk, if_neg hkk]; exact k6 _ hk⟩
              · refine jv_bipush (-13) h dX11_copy_90 (by decide) ?_
                exact jv_iret h hr dX11_copy_92 ⟨_, rfl, rfl, by
    have e : sp_copy q (nI f9) i (nI t9) j n = (-13, q) := (by rw [hsp, if_neg (by simp_all)])
    rw [e]
    exact ⟨rfl, FrS.rf _ _ _, hC⟩⟩
          · rw [e1, k1, carI_inj (by omega) (by omega)] at c61
            refine jv_bipush (-12) h dX11_copy_64 (by decide) ?_
            exact jv_iret h hr dX11_copy_66 ⟨_, rfl, rfl, by
    have e : sp_copy q (nI f9) i (nI t9) j n = (-12, q) := (by rw [hsp, if_pos c61])
    rw [e]
    exact ⟨rfl, FrS.rf _ _ _, hC⟩⟩
        · simp at c45
          refine jv_bipush (-11) h dX11_copy_48 (by decide) ?_
          exact jv_iret h hr dX11_copy_50 ⟨_, rfl, rfl, by
    have e : sp_copy q (nI f9) i (nI t9) j n = (-11, q) := (by rw [hsp, if_pos (by omega)])
    rw [e]
    exact ⟨rfl, FrS.rf _ _ _, hC⟩⟩
    · refine jv_iconst (-1) h dX11_copy_14 (by decide) ?_
      exact jv_iret h hr dX11_copy_15 ⟨_, rfl, rfl, by
    have e : sp_copy q f i t j n = (-1, q) := (by unfold sp_copy; rw [if_neg (by simp_all)])
    rw [e]
    exact ⟨rfl, FrS.rf _ _ _, hC⟩⟩
