def okL (v : Int64) : Bool := decide (0 ≤ v.toInt ∧ v.toInt ≤ 999)
theorem okL_lo {v : Int64} (h : lg_cmp v (lN 0) < 0) : okL v = false := by
  rw [lg_cmp_lt0, Int64.lt_iff_toInt_lt, show (lN 0).toInt = 0 from by decide] at h
  unfold okL
  rw [decide_eq_false_iff_not]
  omega
theorem okL_hi {v : Int64} (h : ¬ lg_cmp v 999 ≤ 0) : okL v = false := by
  rw [lg_cmp_le0, Int64.lt_iff_toInt_lt, show (999 : Int64).toInt = 999 from by decide] at h
  unfold okL
  rw [decide_eq_false_iff_not]
  omega
theorem okL_t {v : Int64} (h : ¬ lg_cmp v (lN 0) < 0) (h2 : lg_cmp v 999 ≤ 0) : okL v = true := by
  rw [lg_cmp_lt0, Int64.lt_iff_toInt_lt, show (lN 0).toInt = 0 from by decide] at h
  rw [lg_cmp_le0, Int64.lt_iff_toInt_lt, show (999 : Int64).toInt = 999 from by decide] at h2
  unfold okL
  rw [decide_eq_true_iff]
  omega
def weL (it : Nat → Int64) (i c : Nat) : Nat := (it (i + c)).toInt.toNat
theorem okL_v {it : Nat → Int64} {i c : Nat} (h : okL (it (i + c)) = true) : (it (i + c)).toInt = (weL it i c : Int) ∧ weL it i c ≤ 999 := by
  unfold okL at h
  rw [decide_eq_true_iff] at h
  unfold weL
  omega
def weW (S : Nat → Nat) (it : Nat → Int64) (i n : Nat) : Nat → Nat := wyN (wgN S) (weL it i) (fun _ => 0) n
theorem weW_s {S : Nat → Nat} {it : Nat → Int64} {i n : Nat} : adW (wgN S) (weW S it i n) (weL it i n) = weW S it i (n + 1) := by
  funext s
  unfold weW
  rw [wyN_s]
  unfold adW
  exact smN_cg (fun r _ => by rw [Nat.zero_add])
theorem weW_le {S : Nat → Nat} {it : Nat → Int64} {i n s : Nat} (h6 : S 0 ≤ 6) (hn : n ≤ 4) (hs : s < 2 ^ S 0) : weW S it i n s ≤ 15625 := by
  have h1 : weW S it i n s ≤ (n + 1) ^ S 0 := ways_le h6 hs
  have h2 : (n + 1) ^ S 0 ≤ 5 ^ S 0 := Nat.pow_le_pow_left (by omega) _
  have h3 : 5 ^ S 0 ≤ 5 ^ 6 := Nat.pow_le_pow_right (by omega) h6
  omega
def weN (S : Nat → Nat) (it : Nat → Int64) (i n w : Nat) : Int32 := if w = 0 then nI (smN (weW S it i n) (2 ^ S 0)) else fsN (fun s => decide (0 < weW S it i n s)) 0 (2 ^ S 0)
def sp_weighed (S : Nat → Nat) (q : SH) (s l i n w : Int32) : Int32 := if isB s 0 4 = true ∧ isB l 0 4 = true ∧ isB n 1 5 = true ∧ isB w 0 2 = true then (if rfN (q.1 (pn s)) (pn l) i n (q.2.1 (pn s)) = 0 then (if ∀ c, c < pn n → okL (q.2.2 (pn s) (pn i + c)) = true then weN S (q.2.2 (pn s)) (pn i) (pn n) (pn w) else -2) else rfN (q.1 (pn s)) (pn l) i n (q.2.1 (pn s))) else -1

set_option maxHeartbeats 4000000 in
set_option maxRecDepth 100000 in
theorem c_weighed {g : GT} {T : TT} {Mi : MI} {Ml : ML} {X u nx : Nat} {S : Nat → Nat} {R : Nat → Nat → Nat} (hX : DayS g T X) (hL : BltR Mi (X + 1) S R u nx) (hW : WF S) {q : SH} (hC : ShC Mi Ml X q) (s l i n w : Int32) : Ct g yX11_weighed cX11_weighed 9 (some .int) 4 0 0 [.ref X, .int s, .int l, .int i, .int n, .int w] T Mi Ml (Gi T (fun rv Mi' Ml' => rv = sp_weighed S q s l i n w ∧ Ml' = Ml ∧ Fr Mi Mi' (X + 182) (X + 185))) := by
  refine Ct.of' (plainFor_of_name (by decide +kernel)) (by exact Nat.le_of_ble_eq_true rfl) ?_
  intro x hg hR h hr hnm hnl
  subst hg
  obtain ⟨x0, ⟨x1, x2⟩, ⟨x3, x4⟩, ⟨x5, x6, x7, x8⟩, ⟨x9, x10, x11, x12, x13, x14⟩, ⟨x15, x16⟩, ⟨x17, x18, x19, x20⟩, ⟨x21, x22, x23, x24⟩, ⟨x25, x26, x27, x28, x29, x30⟩, x31, x32, x33, x34, x35, x36⟩ := id hX
  obtain ⟨z1, z2, z3, z4, z5, z6, z7⟩ := id x2
  obtain ⟨e1, e2, e3⟩ := id z5
  obtain ⟨s1, s2, s3, s4, s5⟩ := id z6
  obtain ⟨h1, h2, h3, h4, h5⟩ := id z7
  obtain ⟨l1, l2, l3⟩ := id hL
  obtain ⟨y0, y1, y2, y3⟩ := id l1
  obtain ⟨v1, v2, v3, v4⟩ := id l2
  obtain ⟨r1, r2, r3, r4, r5, r6⟩ := id l3
  obtain ⟨w0, w1, w2, w3, w4, w5, w6, w7⟩ := id hW
  refine jv_iload_n h dX11_weighed_0 rfl ?_
  refine jv_SRi [_] h dX11_weighed_1 cw_X11_290 (c_isSheet _) (by decide) rfl rfl (Nat.le_of_ble_eq_true rfl) ⟨Nat.zero_le _, Nat.zero_le _⟩ ?_
  refine jv_beq 34 h dX11_weighed_4 (by decide) (fun c4 => ?_) (fun c4 => ?_)
  · refine jv_iconst (-1) h dX11_weighed_34 (by decide) ?_
    exact jv_iret h hr dX11_weighed_35 ⟨_, rfl, rfl, by unfold sp_weighed; rw [if_neg (by simp_all)], rfl, fun _ _ => rfl⟩
  · refine jv_iload_n h dX11_weighed_7 rfl ?_
    refine jv_SRi [_] h dX11_weighed_8 cw_X11_293 (c_isLane _) (by decide) rfl rfl (Nat.le_of_ble_eq_true rfl) ⟨Nat.zero_le _, Nat.zero_le _⟩ ?_
    refine jv_beq 34 h dX11_weighed_11 (by decide) (fun c11 => ?_) (fun c11 => ?_)
    · refine jv_iconst (-1) h dX11_weighed_34 (by decide) ?_
      exact jv_iret h hr dX11_weighed_35 ⟨_, rfl, rfl, by unfold sp_weighed; rw [if_neg (by simp_all)], rfl, fun _ _ => rfl⟩
    · refine jv_iload h dX11_weighed_14 rfl ?_
      refine jv_iconst (nI 1) h dX11_weighed_16 (by decide) ?_
      refine jv_iconst (nI 4) h dX11_weighed_17 (by decide) ?_
      refine jv_SRi [_, _, _] h dX11_weighed_18 cw_X11_68 (c_within (m := 1) (n := 5) _ (by decide) (by decide)) (by decide) rfl rfl (Nat.le_of_ble_eq_true rfl) ⟨Nat.zero_le _, Nat.zero_le _⟩ ?_
      refine jv_beq 34 h dX11_weighed_21 (by decide) (fun c21 => ?_) (fun c21 => ?_)
      · refine jv_iconst (-1) h dX11_weighed_34 (by decide) ?_
        exact jv_iret h hr dX11_weighed_35 ⟨_, rfl, rfl, by unfold sp_weighed; rw [if_neg (by simp_all)], rfl, fun _ _ => rfl⟩
      · refine jv_iload h dX11_weighed_24 rfl ?_
        refine jv_iconst (nI 0) h dX11_weighed_26 (by decide) ?_
        refine jv_iconst (nI 1) h dX11_weighed_27 (by decide) ?_
        refine jv_SRi [_, _, _] h dX11_weighed_28 cw_X11_68 (c_within (m := 0) (n := 2) _ (by decide) (by decide)) (by decide) rfl rfl (Nat.le_of_ble_eq_true rfl) ⟨Nat.zero_le _, Nat.zero_le _⟩ ?_
        refine jv_bne 36 h dX11_weighed_31 (by decide) (fun c31 => ?_) (fun c31 => ?_)
        · obtain ⟨s9, rfl, -, hs9⟩ := isB_t c4
          obtain ⟨l9, rfl, -, hl9⟩ := isB_t c11
          obtain ⟨n9, rfl, hn1, hn2⟩ := isB_t c21
          obtain ⟨w9, rfl, -, hw9⟩ := isB_t c31
          obtain ⟨t1, t2, t3⟩ := hC s9 hs9
          have hsp : sp_weighed S q (nI s9) (nI l9) i (nI n9) (nI w9) = (if rfN (q.1 s9) l9 i (nI n9) (q.2.1 s9) = 0 then (if ∀ c, c < n9 → okL (q.2.2 s9 (pn i + c)) = true then weN S (q.2.2 s9) (pn i) n9 w9 else -2) else rfN (q.1 s9) l9 i (nI n9) (q.2.1 s9)) := (by unfold sp_weighed; rw [if_pos ⟨by assumption, by assumption, by assumption, by assumption⟩, pn_nI (by omega), pn_nI (by omega), pn_nI (by omega), pn_nI (by omega)])
          refine jv_aload_n h dX11_weighed_36 rfl ?_
          refine jv_gr 9 h dX11_weighed_37 cf_10 (by decide) gw_289 (by first | assumption | exact x33 _ (by omega) | exact x34 _ (by omega) | exact (hX.sht (by omega)).2.1 | exact (hX.sht (by omega)).2.2 | exact x26) (by first | assumption | exact x33 _ (by omega) | exact x34 _ (by omega) | exact (hX.sht (by omega)).2.1 | exact (hX.sht (by omega)).2.2 | exact x26) ?_
          refine jv_iload_n h dX11_weighed_40 rfl ?_
          refine jv_aald h dX11_weighed_41 (by first | assumption | exact x33 _ (by omega) | exact x34 _ (by omega) | exact (hX.sht (by omega)).2.1 | exact (hX.sht (by omega)).2.2 | exact x26) (by decide) (by repeat (with_reducible first | exact NF_nI _ | assumption | refine NF_add ?_ ?_ | refine NF_mul ?_ ?_)) ⟨by omega, by decide⟩ (by first | assumption | exact x33 _ (by omega) | exact x34 _ (by omega) | exact (hX.sht (by omega)).2.1 | exact (hX.sht (by omega)).2.2 | exact x26) ?_
          refine jv_astore h dX11_weighed_42 (lt_nl hnl (by decide)) ?_
          refine jv_aload h dX11_weighed_44 rfl ?_
          refine jv_iload_n h dX11_weighed_46 rfl ?_
          refine jv_iload_n h dX11_weighed_47 rfl ?_
          refine jv_iload h dX11_weighed_48 rfl ?_
          refine jv_VRi [_, _, _] h dX11_weighed_50 cw_X11_296 cf_6 (by first | assumption | exact x33 _ (by omega) | exact x34 _ (by omega) | exact (hX.sht (by omega)).2.1 | exact (hX.sht (by omega)).2.2 | exact x26) (c_refusal _ _ (x34 _ hs9) t1 t2 (fun z => ⟨(t3 z).1, (t3 z).2.1⟩) (NF_nI _) hl9) (by decide) rfl rfl (Nat.le_of_ble_eq_true rfl) ⟨Nat.zero_le _, Nat.zero_le _⟩ ?_
          refine jv_istore h dX11_weighed_53 (lt_nl hnl (by decide)) ?_
          refine jv_iload h dX11_weighed_55 rfl ?_
          refine jv_if_eq 63 h dX11_weighed_57 (by decide) (fun c57 => ?_) (fun c57 => ?_)
          · obtain ⟨k1, k2⟩ := rfN_0 c57
            obtain ⟨t4, t5, t6⟩ := t3 (by omega)
            obtain ⟨a9, b9, rfl, hb9, hab⟩ := hoB_t k2
            obtain rfl : n9 = b9 := NF_inj hb9 (by omega) (by omega)
            rw [pn_nI (by omega), if_pos c57] at hsp
            refine jv_iload_n h dX11_weighed_63 rfl ?_
            refine jv_istore h dX11_weighed_64 (lt_nl hnl (by decide)) ?_
            have hl66 : ∀ (n : Nat) (c : Nat), n9 - c < n → c ≤ n9 → (∀ j, j < c → okL (q.2.2 s9 (a9 + j)) = true) → V x 0 0 T Mi Ml 66 [some (.ref X), some (.int (nI s9)), some (.int (nI l9)), some (.int (nI a9)), some (.int (nI n9)), some (.int (nI w9)), some (.ref (X + 186 + 2 * s9)), some (.int 0), some (.int (nI (a9 + c)))] [] := by
              intro n
              induction n with
              | zero => intro c hN9 hc f1; exact absurd hN9 (by omega)
              | succ n ih =>
                intro c hN9 hc f1
                refine jv_iload h dX11_weighed_66 rfl ?_
                refine jv_iload_n h dX11_weighed_68 rfl ?_
                refine jv_iload h dX11_weighed_69 rfl ?_
                first | refine jv_iaddN h dX11_weighed_71 (by repeat (with_reducible first | exact NF_nI _ | assumption | refine NF_add ?_ ?_ | refine NF_mul ?_ ?_)) (by repeat (with_reducible first | exact NF_nI _ | assumption | refine NF_add ?_ ?_ | refine NF_mul ?_ ?_)) ?_ | refine jv_iadd h dX11_weighed_71 ?_
                refine jv_nge 112 h dX11_weighed_72 (by decide) (by repeat (with_reducible first | exact NF_nI _ | assumption | refine NF_add ?_ ?_ | refine NF_mul ?_ ?_)) (by repeat (with_reducible first | exact NF_nI _ | assumption | refine NF_add ?_ ?_ | refine NF_mul ?_ ?_)) ⟨by omega, by omega⟩ (fun c72 => ?_) (fun c72 => ?_)
                · have hall : ∀ c, c < n9 → okL (q.2.2 s9 (a9 + c)) = true := fun j hj => f1 j (by omega)
                  rw [if_pos hall] at hsp
                  refine jv_aload_n h dX11_weighed_112 rfl ?_
                  refine jv_gr 8 h dX11_weighed_113 cf_10 (by decide) gw_288 (by first | assumption | exact x33 _ (by omega) | exact x34 _ (by omega) | exact (hX.sht (by omega)).2.1 | exact (hX.sht (by omega)).2.2 | exact x26) (by first | assumption | exact x33 _ (by omega) | exact x34 _ (by omega) | exact (hX.sht (by omega)).2.1 | exact (hX.sht (by omega)).2.2 | exact x26) ?_
                  refine jv_aload_n h dX11_weighed_116 rfl ?_
                  refine jv_gr 0 h dX11_weighed_117 cf_10 (by decide) gw_280 (by first | assumption | exact x33 _ (by omega) | exact x34 _ (by omega) | exact (hX.sht (by omega)).2.1 | exact (hX.sht (by omega)).2.2 | exact x26) (by first | assumption | exact x33 _ (by omega) | exact x34 _ (by omega) | exact (hX.sht (by omega)).2.1 | exact (hX.sht (by omega)).2.2 | exact x26) ?_
                  refine jv_gr 1 h dX11_weighed_120 cf_0 (by decide) gw_165 (by first | assumption | exact x33 _ (by omega) | exact x34 _ (by omega) | exact (hX.sht (by omega)).2.1 | exact (hX.sht (by omega)).2.2 | exact x26) (by first | assumption | exact x33 _ (by omega) | exact x34 _ (by omega) | exact (hX.sht (by omega)).2.1 | exact (hX.sht (by omega)).2.2 | exact x26) ?_
                  refine jv_VGv [_] h dX11_weighed_123 cw_X11_305 cf_9 (by first | assumption | exact x33 _ (by omega) | exact x34 _ (by omega) | exact (hX.sht (by omega)).2.1 | exact (hX.sht (by omega)).2.2 | exact x26) (c_wgbegin hX.wg.2 z6 l2 hW (by omega)) (by decide) rfl rfl (Nat.le_of_ble_eq_true rfl) ⟨Nat.zero_le _, Nat.zero_le _⟩ (fun Mi123 Ml123 hp123 => ?_)
                  have hm9 := hp123.1
                  subst Ml123
                  obtain ⟨-, i1, i2⟩ := hp123
                  refine jv_iload_n h dX11_weighed_126 rfl ?_
                  refine jv_istore h dX11_weighed_127 (lt_nl hnl (by decide)) ?_
                  have hl129 : ∀ (n : Nat) (c : Nat) (M1 : MI), n9 - c < n → c ≤ n9 → Fr Mi M1 (X + 182) (X + 185) → WgR M1 (X + 182) (S 0) (wgN S) (weW S (q.2.2 s9) a9 c) → V x 0 0 T M1 Ml 129 [some (.ref X), some (.int (nI s9)), some (.int (nI l9)), some (.int (nI a9)), some (.int (nI n9)), some (.int (nI w9)), some (.ref (X + 186 + 2 * s9)), some (.int 0), some (.int (nI (a9 + c)))] [] := by
                    intro n
                    induction n with
                    | zero => intro c M1 hN9 hc j1 j2; exact absurd hN9 (by omega)
                    | succ n ih =>
                      intro c M1 hN9 hc j1 j2
                      refine jv_iload h dX11_weighed_129 rfl ?_
                      refine jv_iload_n h dX11_weighed_131 rfl ?_
                      refine jv_iload h dX11_weighed_132 rfl ?_
                      first | refine jv_iaddN h dX11_weighed_134 (by repeat (with_reducible first | exact NF_nI _ | assumption | refine NF_add ?_ ?_ | refine NF_mul ?_ ?_)) (by repeat (with_reducible first | exact NF_nI _ | assumption | refine NF_add ?_ ?_ | refine NF_mul ?_ ?_)) ?_ | refine jv_iadd h dX11_weighed_134 ?_
                      refine jv_nge 159 h dX11_weighed_135 (by decide) (by repeat (with_reducible first | exact NF_nI _ | assumption | refine NF_add ?_ ?_ | refine NF_mul ?_ ?_)) (by repeat (with_reducible first | exact NF_nI _ | assumption | refine NF_add ?_ ?_ | refine NF_mul ?_ ?_)) ⟨by omega, by omega⟩ (fun c135 => ?_) (fun c135 => ?_)
                      · obtain rfl : c = n9 := by omega
                        refine jv_iload h dX11_weighed_159 rfl ?_
                        refine jv_zne 174 h dX11_weighed_161 (by decide) (by repeat (with_reducible first | exact NF_nI _ | assumption | refine NF_add ?_ ?_ | refine NF_mul ?_ ?_)) (by omega) (fun c161 => ?_) (fun c161 => ?_)
                        · refine jv_aload_n h dX11_weighed_174 rfl ?_
                          refine jv_gr 8 h dX11_weighed_175 cf_10 (by decide) gw_288 (by first | assumption | exact x33 _ (by omega) | exact x34 _ (by omega) | exact (hX.sht (by omega)).2.1 | exact (hX.sht (by omega)).2.2 | exact x26) (by first | assumption | exact x33 _ (by omega) | exact x34 _ (by omega) | exact (hX.sht (by omega)).2.1 | exact (hX.sht (by omega)).2.2 | exact x26) ?_
                          refine jv_VRi [] h dX11_weighed_178 cw_X11_313 cf_9 (by first | assumption | exact x33 _ (by omega) | exact x34 _ (by omega) | exact (hX.sht (by omega)).2.1 | exact (hX.sht (by omega)).2.2 | exact x26) (c_leastSet hX.wg.2 j2 w0 (fun r hr => by have := weW_le (it := q.2.2 s9) (i := a9) (n := c) w0 (by omega) hr; omega)) (by decide) rfl rfl (Nat.le_of_ble_eq_true rfl) ⟨Nat.zero_le _, Nat.zero_le _⟩ ?_
                          exact jv_iret h hr dX11_weighed_181 ⟨_, rfl, rfl, by
    rw [hsp]
    unfold weN
    first
    | rw [if_pos c161]
    | rw [if_neg c161], rfl, j1⟩
                        · refine jv_aload_n h dX11_weighed_164 rfl ?_
                          refine jv_gr 8 h dX11_weighed_165 cf_10 (by decide) gw_288 (by first | assumption | exact x33 _ (by omega) | exact x34 _ (by omega) | exact (hX.sht (by omega)).2.1 | exact (hX.sht (by omega)).2.2 | exact x26) (by first | assumption | exact x33 _ (by omega) | exact x34 _ (by omega) | exact (hX.sht (by omega)).2.1 | exact (hX.sht (by omega)).2.2 | exact x26) ?_
                          refine jv_VRi [] h dX11_weighed_168 cw_X11_310 cf_9 (by first | assumption | exact x33 _ (by omega) | exact x34 _ (by omega) | exact (hX.sht (by omega)).2.1 | exact (hX.sht (by omega)).2.2 | exact x26) (c_allWays hX.wg.2 j2 w0) (by decide) rfl rfl (Nat.le_of_ble_eq_true rfl) ⟨Nat.zero_le _, Nat.zero_le _⟩ ?_
                          refine jv_goto 181 h dX11_weighed_171 (by decide) ?_
                          exact jv_iret h hr dX11_weighed_181 ⟨_, rfl, rfl, by
    rw [hsp]
    unfold weN
    first
    | rw [if_pos c161]
    | rw [if_neg c161], rfl, j1⟩
                      · obtain ⟨hv1, hv2⟩ := okL_v (hall c (by omega))
                        rw [← t6 _ (by omega)] at hv1
                        refine jv_aload_n h dX11_weighed_138 rfl ?_
                        refine jv_gr 8 h dX11_weighed_139 cf_10 (by decide) gw_288 (by first | assumption | exact x33 _ (by omega) | exact x34 _ (by omega) | exact (hX.sht (by omega)).2.1 | exact (hX.sht (by omega)).2.2 | exact x26) (by first | assumption | exact x33 _ (by omega) | exact x34 _ (by omega) | exact (hX.sht (by omega)).2.1 | exact (hX.sht (by omega)).2.2 | exact x26) ?_
                        refine jv_aload h dX11_weighed_142 rfl ?_
                        refine jv_gr 0 h dX11_weighed_144 cf_6 (by decide) gw_267 (by first | assumption | exact x33 _ (by omega) | exact x34 _ (by omega) | exact (hX.sht (by omega)).2.1 | exact (hX.sht (by omega)).2.2 | exact x26) (by first | assumption | exact x33 _ (by omega) | exact x34 _ (by omega) | exact (hX.sht (by omega)).2.1 | exact (hX.sht (by omega)).2.2 | exact x26) ?_
                        refine jv_iload h dX11_weighed_147 rfl ?_
                        refine jv_lald h dX11_weighed_149 (by first | assumption | exact x33 _ (by omega) | exact x34 _ (by omega) | exact (hX.sht (by omega)).2.1 | exact (hX.sht (by omega)).2.2 | exact x26) (by repeat (with_reducible first | exact NF_nI _ | assumption | refine NF_add ?_ ?_ | refine NF_mul ?_ ?_)) ⟨by omega, by decide⟩ ?_
                        refine jv_VGv [_] h dX11_weighed_150 cw_X11_307 cf_9 (by first | assumption | exact x33 _ (by omega) | exact x34 _ (by omega) | exact (hX.sht (by omega)).2.1 | exact (hX.sht (by omega)).2.2 | exact x26) (c_addCar hX.wg.2 j2 w0 (fun r hr => by have := (wt_6 hW hr).2; omega) hv1) (by decide) rfl rfl (Nat.le_of_ble_eq_true rfl) ⟨Nat.zero_le _, Nat.zero_le _⟩ (fun Mi150 Ml150 hp150 => ?_)
                        refine jv_iinc (nI (a9 + (c + 1))) h dX11_weighed_153 rfl (lt_nl hnl (by decide)) (nI_inc _) ?_
                        refine jv_goto 129 h dX11_weighed_156 (by decide) ?_
                        have hm9 := hp150.1
                        subst Ml150
                        obtain ⟨-, e1, e2⟩ := hp150
                        rw [weW_s] at e2
                        exact ih (c + 1) _ (by omega) (by omega) (fun a ha => (e1 a (by omega)).trans (j1 a ha)) e2
                  exact hl129 (n9 + 1) 0 _ (by omega) (by omega) i1 i2
                · have ht6 : c < n9 → Ml (X + 186 + 2 * s9 + 1) (a9 + c) = q.2.2 s9 (a9 + c) := fun _ => t6 _ (by omega)
                  have hcn : c < n9 := by omega
                  replace ht6 := ht6 hcn
                  refine jv_aload h dX11_weighed_75 rfl ?_
                  refine jv_gr 0 h dX11_weighed_77 cf_6 (by decide) gw_267 (by first | assumption | exact x33 _ (by omega) | exact x34 _ (by omega) | exact (hX.sht (by omega)).2.1 | exact (hX.sht (by omega)).2.2 | exact x26) (by first | assumption | exact x33 _ (by omega) | exact x34 _ (by omega) | exact (hX.sht (by omega)).2.1 | exact (hX.sht (by omega)).2.2 | exact x26) ?_
                  refine jv_iload h dX11_weighed_80 rfl ?_
                  refine jv_lald h dX11_weighed_82 (by first | assumption | exact x33 _ (by omega) | exact x34 _ (by omega) | exact (hX.sht (by omega)).2.1 | exact (hX.sht (by omega)).2.2 | exact x26) (by repeat (with_reducible first | exact NF_nI _ | assumption | refine NF_add ?_ ?_ | refine NF_mul ?_ ?_)) ⟨by omega, by decide⟩ ?_
                  refine jv_lconst (lN 0) h dX11_weighed_83 (by decide) ?_
                  refine jv_lcmp h dX11_weighed_84 ?_
                  refine jv_if_lt 103 h dX11_weighed_85 (by decide) (fun c85 => ?_) (fun c85 => ?_)
                  · rw [ht6] at c85
                    refine jv_bipush (-2) h dX11_weighed_103 (by decide) ?_
                    exact jv_iret h hr dX11_weighed_105 ⟨_, rfl, rfl, by
    rw [hsp, if_neg (fun z => by
      have h1 := z c hcn
      first
      | (rw [okL_lo c85] at h1; cases h1)
      | (rw [okL_hi c100] at h1; cases h1))], rfl, fun _ _ => rfl⟩
                  · rw [ht6] at c85
                    refine jv_aload h dX11_weighed_88 rfl ?_
                    refine jv_gr 0 h dX11_weighed_90 cf_6 (by decide) gw_267 (by first | assumption | exact x33 _ (by omega) | exact x34 _ (by omega) | exact (hX.sht (by omega)).2.1 | exact (hX.sht (by omega)).2.2 | exact x26) (by first | assumption | exact x33 _ (by omega) | exact x34 _ (by omega) | exact (hX.sht (by omega)).2.1 | exact (hX.sht (by omega)).2.2 | exact x26) ?_
                    refine jv_iload h dX11_weighed_93 rfl ?_
                    refine jv_lald h dX11_weighed_95 (by first | assumption | exact x33 _ (by omega) | exact x34 _ (by omega) | exact (hX.sht (by omega)).2.1 | exact (hX.sht (by omega)).2.2 | exact x26) (by repeat (with_reducible first | exact NF_nI _ | assumption | refine NF_add ?_ ?_ | refine NF_mul ?_ ?_)) ⟨by omega, by decide⟩ ?_
                    refine jv_ldc2 h dX11_weighed_96 gw_840 ?_
                    refine jv_lcmp h dX11_weighed_99 ?_
                    refine jv_if_le 106 h dX11_weighed_100 (by decide) (fun c100 => ?_) (fun c100 => ?_)
                    · rw [ht6] at c100
                      refine jv_iinc (nI (a9 + (c + 1))) h dX11_weighed_106 rfl (lt_nl hnl (by decide)) (nI_inc _) ?_
                      refine jv_goto 66 h dX11_weighed_109 (by decide) ?_
                      exact ih (c + 1) (by omega) (by omega) (fun j hj => by
                        by_cases hjc : j = c
                        · rw [hjc]; exact okL_t c85 c100
                        · exact f1 j (by omega))
                    · rw [ht6] at c100
                      refine jv_bipush (-2) h dX11_weighed_103 (by decide) ?_
                      exact jv_iret h hr dX11_weighed_105 ⟨_, rfl, rfl, by
    rw [hsp, if_neg (fun z => by
      have h1 := z c hcn
      first
      | (rw [okL_lo c85] at h1; cases h1)
      | (rw [okL_hi c100] at h1; cases h1))], rfl, fun _ _ => rfl⟩
            rw [c57]
            exact hl66 (n9 + 1) 0 (by omega) (by omega) (fun j hj => absurd hj (by omega))
          · refine jv_iload h dX11_weighed_60 rfl ?_
            exact jv_iret h hr dX11_weighed_62 ⟨_, rfl, rfl, by rw [hsp, if_neg c57], rfl, fun _ _ => rfl⟩
        · refine jv_iconst (-1) h dX11_weighed_34 (by decide) ?_
          exact jv_iret h hr dX11_weighed_35 ⟨_, rfl, rfl, by unfold sp_weighed; rw [if_neg (by simp_all)], rfl, fun _ _ => rfl⟩
