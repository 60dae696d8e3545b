theorem DayS.e2 {g : GT} {T T' : TT} {X : Nat} (h : DayS g T X) (e : Ex2 T T' X (X + 194)) : DayS g T' X := by
  obtain ⟨x0, ⟨x1, x2⟩, ⟨x3, x4⟩, ⟨x5, x6, x7, x8⟩, ⟨x9, x10, x11, x12, x13, x14⟩, ⟨x15, x16⟩, ⟨x17, x18, x19, x20⟩, ⟨x21, x22, x23, x24⟩, ⟨x25, x26, x27, x28, x29, x30⟩, x31, x32, x33, x34, x35, x36⟩ := h
  exact ⟨x0.e2 e (by omega), ⟨e.rf (by omega) x1, x2.e2 e (by omega)⟩, ⟨e.rf (by omega) x3, x4.e2 e (by omega)⟩, ⟨e.rf (by omega) x5, x6.e2 e (by omega), e.rf (by omega) x7, x8.e2 e (by omega)⟩, ⟨e.rf (by omega) x9, x10.e2 e (by omega), e.rf (by omega) x11, e.rf (by omega) x12, x13.e2 e (by omega), x14.e2 e (by omega)⟩, ⟨e.rf (by omega) x15, x16.e2 e (by omega)⟩, ⟨e.rf (by omega) x17, x18.e2 e (by omega), e.rf (by omega) x19, x20.e2 e (by omega)⟩, ⟨e.rf (by omega) x21, x22.e2 e (by omega), e.rf (by omega) x23, x24.e2 e (by omega)⟩, ⟨e.rf (by omega) x25, x26.e2 e (by omega), e.rf (by omega) x27, x28.e2 e (by omega), e.rf (by omega) x29, x30.e2 e (by omega)⟩, e.rf (by omega) x31, x32.e2 e (by omega), fun s hs => e.rf (by omega) (x33 s hs), fun s hs => (x34 s hs).e2 e (by omega), fun s hs => e.rf (by omega) (x35 s hs), fun s hs => (x36 s hs).e2 e (by omega)⟩
def σ0 : ST := ((S0, fun _ => S0, 0), (fun _ => 0, 0), (fun _ => 0, fun _ => 0, fun _ _ => 0), (false, (S0, fun _ => S0, 0)))
theorem p_start : PInv σ0 := ⟨⟨⟨S0_WF, Nat.zero_le _, fun j hj => absurd hj (Nat.not_lt_zero _)⟩, Nat.zero_le _, fun j hj => absurd hj (Nat.not_lt_zero _)⟩, ⟨Nat.zero_le _, fun k hk => absurd hk (Nat.not_lt_zero _)⟩, fun q => by cases q⟩
theorem c_start {g : GT} {T : TT} {Mi : MI} {Ml : ML} {X : Nat} (hX : DayS g T X) (hM : DayM Mi X) (hS : ∀ s, s < 4 → Mi (X + 186 + 2 * s) 1 = -1) : CInv g T Mi Ml X σ0 := by
  obtain ⟨h1, h2, h3, h4, h5⟩ := hM
  exact ⟨hX, ⟨fun _ => S0, 0, h2, fun j hj => absurd hj (Nat.not_lt_zero _)⟩, ⟨h3, h4, fun k hk => absurd hk (Nat.not_lt_zero _)⟩, ⟨h5.2.1, h5.2.2⟩, fun s hs => ⟨hS s hs, Nat.zero_le _, fun q => absurd rfl q⟩, h1, fun q => by cases q⟩
theorem m_start {g : GT} {T : TT} {Mi : MI} {Ml : ML} {Y : Nat} (hY : ModS g T Y) (hN : NowR Mi (Y + 1) S0) (h2 : Mi Y 2 = nI 0) (h8 : Mi Y 8 = nI 0) (h11 : Mi Y 11 = nI 0) (hS : ∀ s, s < 4 → Mi (Y + 7) s = -1) : MInv g T Mi Ml Y σ0 :=
  ⟨hY, hN, ⟨h8, Nat.zero_le _, fun j hj => absurd hj (Nat.not_lt_zero _)⟩, ⟨h2, fun k hk => absurd hk (Nat.not_lt_zero _)⟩, fun s hs => ⟨hS s hs, Nat.zero_le _, fun q => absurd rfl q⟩, ⟨h11, fun q => by cases q⟩⟩
set_option maxHeartbeats 4000000 in
set_option maxRecDepth 100000 in
theorem law_begin {x : CX} {T : TT} {Mi : MI} {Ml : ML} {b L : Nat} {xs : Nat → Int32} (h : Ok x RL cL_law 14) (hR : x.2.2.2.2.1 = room_1) (hnl : x.2.2.2.2.2.2.2.2.2.2.2.1 = 4) (hx : Sc x b L xs) (hL : L ≤ 448) (hz : gZ x.1 ≤ T.1) (hend : ∀ (T : TT) (Mi : MI) (Ml : ML) (lv : List (Option Value)), V x 206 2625 T Mi Ml 1294 lv [.int (nI 1)]) : V x 0 0 T Mi Ml 0 [some (.ref b), none, none, none] [] := by
  refine jv_new h dL_law_0 cf_10 df_10 gw_23 gw_24 gw_1 (by rw [hR]; exact ⟨Nat.le_of_ble_eq_true rfl, Nat.le_of_ble_eq_true rfl⟩) ?_
  refine jv_dup h dL_law_3 rfl ?_
  refine jv_mkI h dL_law_4 cw_L_9 (c_day_init (KD.nw hz) rfl rnew_s) (by decide) (Nat.le_of_ble_eq_true rfl) (by rw [hR]; exact ⟨Nat.le_of_ble_eq_true rfl, Nat.le_of_ble_eq_true rfl⟩) (fun T1 M1 L1 hp => ?_)
  obtain ⟨hw, hd, hm, hs⟩ := hp
  refine jv_astore_n h dL_law_7 (lt_nl hnl (by decide)) ?_
  have hz1 : gZ x.1 ≤ T1.1 := by rw [hw.1]; omega
  refine jv_new h dL_law_8 cf_11 df_11 gw_894 gw_895 gw_14 (by rw [hR]; exact ⟨Nat.le_of_ble_eq_true rfl, Nat.le_of_ble_eq_true rfl⟩) ?_
  refine jv_dup h dL_law_11 rfl ?_
  refine jv_mkI h dL_law_12 cw_L_12 (c_mod_init (KD.nw hz1) rfl rnew_s) (by decide) (Nat.le_of_ble_eq_true rfl) (by rw [hR]; exact ⟨Nat.le_of_ble_eq_true rfl, Nat.le_of_ble_eq_true rfl⟩) (fun T2 M2 L2 hp2 => ?_)
  obtain ⟨hw2, hd2, hn2, h22, h28, h211, hs2⟩ := hp2
  refine jv_astore_n h dL_law_15 (lt_nl hnl (by decide)) ?_
  refine jv_iconst (nI 0) h dL_law_16 (by decide) ?_
  refine jv_istore_n h dL_law_17 (lt_nl hnl (by decide)) ?_
  have hlo := hw2.lo
  have e1 : T1.1 = T.1 + 194 := hw.1
  have eX : Ex2 T1 T2 T.1 (T.1 + 194) := ⟨by rw [hlo.1]; omega, fun q q1 q2 => ⟨(hlo.2 q (by omega)).1, (hlo.2 q (by omega)).2.1⟩⟩
  have hC : CInv x.1 T2 M2 L2 T.1 σ0 := c_start (hd.e2 eX) (hm.fr (fun q hq => (hlo.2 q (by omega)).2.2.1)) (fun s hs9 => by rw [(hlo.2 (T.1 + 186 + 2 * s) (by omega)).2.2.1]; exact hs s hs9)
  rw [e1] at hd2 hn2 h22 h28 h211 hs2
  have hM : MInv x.1 T2 M2 L2 (T.1 + 194) σ0 := m_start hd2 hn2 h22 h28 h211 hs2
  refine jv_widen (cs' := 206) (sl' := 2625) (Nat.le_of_ble_eq_true rfl) (Nat.le_of_ble_eq_true rfl) ?_
  have hI := law_loop (X := T.1) h hR hnl hx hL (hend T2) (L + 1) 0 σ0 M2 L2 (by omega) (Nat.zero_le _) hC hM p_start
  rw [← e1] at hI
  exact hI
