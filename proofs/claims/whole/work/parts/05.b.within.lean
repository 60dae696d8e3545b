theorem isB_w {v lo hi : Int32} {m n : Nat} (hl : lo.toInt = m) (hh : hi.toInt + 1 = n) : isB v m n = decide (lo ≤ v ∧ v ≤ hi) := by
  unfold isB
  apply decide_eq_decide.mpr
  rw [Int32.le_iff_toInt_le, Int32.le_iff_toInt_le]
  omega
theorem lg_cmp_lt0 (a b : Int64) : lg_cmp a b < 0 ↔ a < b := by
  unfold lg_cmp
  split
  · rename_i h; simp only [Int64.lt_iff_toInt_lt] at *; simp; omega
  · split
    · rename_i h1 h2; subst h2; simp only [Int64.lt_iff_toInt_lt] at *; simp
    · rename_i h1 h2
      simp only [Int64.lt_iff_toInt_lt, ← Int64.toInt_inj] at *
      simp; omega
theorem lg_cmp_gt0 (a b : Int64) : 0 < lg_cmp a b ↔ b < a := by
  unfold lg_cmp
  split
  · rename_i h; simp [h]
  · rename_i h
    split <;> simp [h]
theorem lg_cmp_le0 (a b : Int64) : lg_cmp a b ≤ 0 ↔ ¬ b < a := by rw [← lg_cmp_gt0, Int32.not_lt]
theorem lg_cmp_ge0 (a b : Int64) : 0 ≤ lg_cmp a b ↔ ¬ a < b := by rw [← lg_cmp_lt0, Int32.not_lt]
theorem lg_cmp_eq0 (a b : Int64) : lg_cmp a b = 0 ↔ a = b := by
  unfold lg_cmp
  split
  · rename_i h; simp; intro e; subst e; simp [Int64.lt_iff_toInt_lt] at h
  · split <;> simp_all
theorem isB_wl {v : Int32} {lo hi : Int64} {m n : Nat} (hl : lo.toInt = m) (hh : hi.toInt + 1 = n) : isB v m n = decide (lo ≤ v.toInt64 ∧ v.toInt64 ≤ hi) := by
  unfold isB
  apply decide_eq_decide.mpr
  rw [Int64.le_iff_toInt_le, Int64.le_iff_toInt_le, l_i]
  omega

set_option maxHeartbeats 4000000 in
set_option maxRecDepth 100000 in
theorem c_within {g : GT} {T : TT} {Mi : MI} {Ml : ML} (v : Int32) {lo hi : Int32} {m n : Nat} (hl : lo.toInt = m) (hh : hi.toInt + 1 = n) : Ct g yX11_within cX11_within 3 (some .boolean) 1 0 0 [.int v, .int lo, .int hi] T Mi Ml (Ri T Mi Ml (bI (isB v m n))) := by
  refine Ct.of' (plainFor_of_name (by decide +kernel)) (by exact Nat.le_of_ble_eq_true rfl) ?_
  intro x hg hR h hr hnm hnl
  subst hg
  refine jv_iload_n h dX11_within_0 rfl ?_
  refine jv_iload_n h dX11_within_1 rfl ?_
  refine jv_icmp_lt 14 h dX11_within_2 (by decide) (fun c2 => ?_) (fun c2 => ?_)
  · refine jv_iconst (nI 0) h dX11_within_14 (by decide) ?_
    exact jv_zret h hr dX11_within_15 rfl ⟨by rw [isB_w hl hh]; first | exact bI_t (by first | assumption | (simp only [Int32.lt_iff_toInt_lt, Int32.le_iff_toInt_le, ← Int32.toInt_inj] at *; omega)) | exact bI_f (by first | assumption | (simp only [Int32.lt_iff_toInt_lt, Int32.le_iff_toInt_le, ← Int32.toInt_inj] at *; omega)), rfl, rfl, rfl⟩
  · refine jv_iload_n h dX11_within_5 rfl ?_
    refine jv_iload_n h dX11_within_6 rfl ?_
    refine jv_icmp_gt 14 h dX11_within_7 (by decide) (fun c7 => ?_) (fun c7 => ?_)
    · refine jv_iconst (nI 0) h dX11_within_14 (by decide) ?_
      exact jv_zret h hr dX11_within_15 rfl ⟨by rw [isB_w hl hh]; first | exact bI_t (by first | assumption | (simp only [Int32.lt_iff_toInt_lt, Int32.le_iff_toInt_le, ← Int32.toInt_inj] at *; omega)) | exact bI_f (by first | assumption | (simp only [Int32.lt_iff_toInt_lt, Int32.le_iff_toInt_le, ← Int32.toInt_inj] at *; omega)), rfl, rfl, rfl⟩
    · refine jv_iconst (nI 1) h dX11_within_10 (by decide) ?_
      refine jv_goto 15 h dX11_within_11 (by decide) ?_
      exact jv_zret h hr dX11_within_15 rfl ⟨by rw [isB_w hl hh]; first | exact bI_t (by first | assumption | (simp only [Int32.lt_iff_toInt_lt, Int32.le_iff_toInt_le, ← Int32.toInt_inj] at *; omega)) | exact bI_f (by first | assumption | (simp only [Int32.lt_iff_toInt_lt, Int32.le_iff_toInt_le, ← Int32.toInt_inj] at *; omega)), rfl, rfl, rfl⟩
set_option maxHeartbeats 4000000 in
set_option maxRecDepth 100000 in
theorem c_mwithin {g : GT} {T : TT} {Mi : MI} {Ml : ML} (v : Int32) {lo hi : Int64} {m n : Nat} (hl : lo.toInt = m) (hh : hi.toInt + 1 = n) : Ct g yX12_within cX12_within 6 (some .boolean) 1 0 0 [.long v.toInt64, .long lo, .long hi] T Mi Ml (Ri T Mi Ml (bI (isB v m n))) := by
  refine Ct.of' (plainFor_of_name (by decide +kernel)) (by exact Nat.le_of_ble_eq_true rfl) ?_
  intro x hg hR h hr hnm hnl
  subst hg
  refine jv_lload_n h dX12_within_0 rfl ?_
  refine jv_lload_n h dX12_within_1 rfl ?_
  refine jv_lcmp h dX12_within_2 ?_
  refine jv_if_lt 17 h dX12_within_3 (by decide) (fun c3 => ?_) (fun c3 => ?_)
  · refine jv_iconst (nI 0) h dX12_within_17 (by decide) ?_
    exact jv_zret h hr dX12_within_18 rfl ⟨by rw [isB_wl hl hh]; simp only [lg_cmp_lt0, lg_cmp_gt0, lg_cmp_le0, lg_cmp_ge0] at *; first | exact bI_t (by first | assumption | (simp only [Int64.lt_iff_toInt_lt, Int64.le_iff_toInt_le, Int32.lt_iff_toInt_lt, Int32.le_iff_toInt_le] at *; omega)) | exact bI_f (by first | assumption | (simp only [Int64.lt_iff_toInt_lt, Int64.le_iff_toInt_le, Int32.lt_iff_toInt_lt, Int32.le_iff_toInt_le] at *; omega)), rfl, rfl, rfl⟩
  · refine jv_lload_n h dX12_within_6 rfl ?_
    refine jv_lload h dX12_within_7 rfl ?_
    refine jv_lcmp h dX12_within_9 ?_
    refine jv_if_gt 17 h dX12_within_10 (by decide) (fun c10 => ?_) (fun c10 => ?_)
    · refine jv_iconst (nI 0) h dX12_within_17 (by decide) ?_
      exact jv_zret h hr dX12_within_18 rfl ⟨by rw [isB_wl hl hh]; simp only [lg_cmp_lt0, lg_cmp_gt0, lg_cmp_le0, lg_cmp_ge0] at *; first | exact bI_t (by first | assumption | (simp only [Int64.lt_iff_toInt_lt, Int64.le_iff_toInt_le, Int32.lt_iff_toInt_lt, Int32.le_iff_toInt_le] at *; omega)) | exact bI_f (by first | assumption | (simp only [Int64.lt_iff_toInt_lt, Int64.le_iff_toInt_le, Int32.lt_iff_toInt_lt, Int32.le_iff_toInt_le] at *; omega)), rfl, rfl, rfl⟩
    · refine jv_iconst (nI 1) h dX12_within_13 (by decide) ?_
      refine jv_goto 18 h dX12_within_14 (by decide) ?_
      exact jv_zret h hr dX12_within_18 rfl ⟨by rw [isB_wl hl hh]; simp only [lg_cmp_lt0, lg_cmp_gt0, lg_cmp_le0, lg_cmp_ge0] at *; first | exact bI_t (by first | assumption | (simp only [Int64.lt_iff_toInt_lt, Int64.le_iff_toInt_le, Int32.lt_iff_toInt_lt, Int32.le_iff_toInt_le] at *; omega)) | exact bI_f (by first | assumption | (simp only [Int64.lt_iff_toInt_lt, Int64.le_iff_toInt_le, Int32.lt_iff_toInt_lt, Int32.le_iff_toInt_le] at *; omega)), rfl, rfl, rfl⟩
set_option maxHeartbeats 4000000 in
set_option maxRecDepth 100000 in
theorem c_isSide {g : GT} {T : TT} {Mi : MI} {Ml : ML} (v : Int32) : Ct g yX11_isSide cX11_isSide 1 (some .boolean) 2 0 0 [.int v] T Mi Ml (Ri T Mi Ml (bI (isB v 0 2))) := by
  refine Ct.of' (plainFor_of_name (by decide +kernel)) (by exact Nat.le_of_ble_eq_true rfl) ?_
  intro x hg hR h hr hnm hnl
  subst hg
  refine jv_iload_n h dX11_isSide_0 rfl ?_
  refine jv_iconst (nI 0) h dX11_isSide_1 (by decide) ?_
  refine jv_iconst (nI 1) h dX11_isSide_2 (by decide) ?_
  refine jv_SRi [_, _, _] h dX11_isSide_3 cw_X11_68 (c_within (m := 0) (n := 2) _ (by decide) (by decide)) (by decide) rfl rfl (Nat.le_of_ble_eq_true rfl) ⟨Nat.zero_le _, Nat.zero_le _⟩ ?_
  exact jv_zret h hr dX11_isSide_6 (bI_nar _) ⟨rfl, rfl, rfl, rfl⟩
set_option maxHeartbeats 4000000 in
set_option maxRecDepth 100000 in
theorem c_isDay {g : GT} {T : TT} {Mi : MI} {Ml : ML} (v : Int32) : Ct g yX11_isDay cX11_isDay 1 (some .boolean) 2 0 0 [.int v] T Mi Ml (Ri T Mi Ml (bI (isB v 0 7))) := by
  refine Ct.of' (plainFor_of_name (by decide +kernel)) (by exact Nat.le_of_ble_eq_true rfl) ?_
  intro x hg hR h hr hnm hnl
  subst hg
  refine jv_iload_n h dX11_isDay_0 rfl ?_
  refine jv_iconst (nI 0) h dX11_isDay_1 (by decide) ?_
  refine jv_bipush (nI 6) h dX11_isDay_2 (by decide) ?_
  refine jv_SRi [_, _, _] h dX11_isDay_4 cw_X11_68 (c_within (m := 0) (n := 7) _ (by decide) (by decide)) (by decide) rfl rfl (Nat.le_of_ble_eq_true rfl) ⟨Nat.zero_le _, Nat.zero_le _⟩ ?_
  exact jv_zret h hr dX11_isDay_7 (bI_nar _) ⟨rfl, rfl, rfl, rfl⟩
set_option maxHeartbeats 4000000 in
set_option maxRecDepth 100000 in
theorem c_isSheet {g : GT} {T : TT} {Mi : MI} {Ml : ML} (v : Int32) : Ct g yX11_isSheet cX11_isSheet 1 (some .boolean) 2 0 0 [.int v] T Mi Ml (Ri T Mi Ml (bI (isB v 0 4))) := by
  refine Ct.of' (plainFor_of_name (by decide +kernel)) (by exact Nat.le_of_ble_eq_true rfl) ?_
  intro x hg hR h hr hnm hnl
  subst hg
  refine jv_iload_n h dX11_isSheet_0 rfl ?_
  refine jv_iconst (nI 0) h dX11_isSheet_1 (by decide) ?_
  refine jv_iconst (nI 3) h dX11_isSheet_2 (by decide) ?_
  refine jv_SRi [_, _, _] h dX11_isSheet_3 cw_X11_68 (c_within (m := 0) (n := 4) _ (by decide) (by decide)) (by decide) rfl rfl (Nat.le_of_ble_eq_true rfl) ⟨Nat.zero_le _, Nat.zero_le _⟩ ?_
  exact jv_zret h hr dX11_isSheet_6 (bI_nar _) ⟨rfl, rfl, rfl, rfl⟩
set_option maxHeartbeats 4000000 in
set_option maxRecDepth 100000 in
theorem c_isLane {g : GT} {T : TT} {Mi : MI} {Ml : ML} (v : Int32) : Ct g yX11_isLane cX11_isLane 1 (some .boolean) 2 0 0 [.int v] T Mi Ml (Ri T Mi Ml (bI (isB v 0 4))) := by
  refine Ct.of' (plainFor_of_name (by decide +kernel)) (by exact Nat.le_of_ble_eq_true rfl) ?_
  intro x hg hR h hr hnm hnl
  subst hg
  refine jv_iload_n h dX11_isLane_0 rfl ?_
  refine jv_iconst (nI 0) h dX11_isLane_1 (by decide) ?_
  refine jv_iconst (nI 3) h dX11_isLane_2 (by decide) ?_
  refine jv_SRi [_, _, _] h dX11_isLane_3 cw_X11_68 (c_within (m := 0) (n := 4) _ (by decide) (by decide)) (by decide) rfl rfl (Nat.le_of_ble_eq_true rfl) ⟨Nat.zero_le _, Nat.zero_le _⟩ ?_
  exact jv_zret h hr dX11_isLane_6 (bI_nar _) ⟨rfl, rfl, rfl, rfl⟩
set_option maxHeartbeats 4000000 in
set_option maxRecDepth 100000 in
theorem cm_isDay {g : GT} {T : TT} {Mi : MI} {Ml : ML} (v : Int32) : Ct g yX12_isDay cX12_isDay 1 (some .boolean) 2 0 0 [.int v] T Mi Ml (Ri T Mi Ml (bI (isB v 0 7))) := by
  refine Ct.of' (plainFor_of_name (by decide +kernel)) (by exact Nat.le_of_ble_eq_true rfl) ?_
  intro x hg hR h hr hnm hnl
  subst hg
  refine jv_iload_n h dX12_isDay_0 rfl ?_
  refine jv_i2l h dX12_isDay_1 ?_
  refine jv_lconst (lN 0) h dX12_isDay_2 (by decide) ?_
  refine jv_ldc2 h dX12_isDay_3 gw_968 ?_
  refine jv_SRi [_, _, _] h dX12_isDay_6 cw_X12_44 (c_mwithin (m := 0) (n := 7) _ (by decide) (by decide)) (by decide) rfl rfl (Nat.le_of_ble_eq_true rfl) ⟨Nat.zero_le _, Nat.zero_le _⟩ ?_
  exact jv_zret h hr dX12_isDay_9 (bI_nar _) ⟨rfl, rfl, rfl, rfl⟩
set_option maxHeartbeats 4000000 in
set_option maxRecDepth 100000 in
theorem cm_isSheet {g : GT} {T : TT} {Mi : MI} {Ml : ML} (v : Int32) : Ct g yX12_isSheet cX12_isSheet 1 (some .boolean) 2 0 0 [.int v] T Mi Ml (Ri T Mi Ml (bI (isB v 0 4))) := by
  refine Ct.of' (plainFor_of_name (by decide +kernel)) (by exact Nat.le_of_ble_eq_true rfl) ?_
  intro x hg hR h hr hnm hnl
  subst hg
  refine jv_iload_n h dX12_isSheet_0 rfl ?_
  refine jv_i2l h dX12_isSheet_1 ?_
  refine jv_lconst (lN 0) h dX12_isSheet_2 (by decide) ?_
  refine jv_ldc2 h dX12_isSheet_3 gw_1204 ?_
  refine jv_SRi [_, _, _] h dX12_isSheet_6 cw_X12_44 (c_mwithin (m := 0) (n := 4) _ (by decide) (by decide)) (by decide) rfl rfl (Nat.le_of_ble_eq_true rfl) ⟨Nat.zero_le _, Nat.zero_le _⟩ ?_
  exact jv_zret h hr dX12_isSheet_9 (bI_nar _) ⟨rfl, rfl, rfl, rfl⟩
set_option maxHeartbeats 4000000 in
set_option maxRecDepth 100000 in
theorem cm_isLane {g : GT} {T : TT} {Mi : MI} {Ml : ML} (v : Int32) : Ct g yX12_isLane cX12_isLane 1 (some .boolean) 2 0 0 [.int v] T Mi Ml (Ri T Mi Ml (bI (isB v 0 4))) := by
  refine Ct.of' (plainFor_of_name (by decide +kernel)) (by exact Nat.le_of_ble_eq_true rfl) ?_
  intro x hg hR h hr hnm hnl
  subst hg
  refine jv_iload_n h dX12_isLane_0 rfl ?_
  refine jv_i2l h dX12_isLane_1 ?_
  refine jv_lconst (lN 0) h dX12_isLane_2 (by decide) ?_
  refine jv_ldc2 h dX12_isLane_3 gw_1204 ?_
  refine jv_SRi [_, _, _] h dX12_isLane_6 cw_X12_44 (c_mwithin (m := 0) (n := 4) _ (by decide) (by decide)) (by decide) rfl rfl (Nat.le_of_ble_eq_true rfl) ⟨Nat.zero_le _, Nat.zero_le _⟩ ?_
  exact jv_zret h hr dX12_isLane_9 (bI_nar _) ⟨rfl, rfl, rfl, rfl⟩
