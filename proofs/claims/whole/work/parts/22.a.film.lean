/-! FILM -/
def goT (S : Nat → Nat) : Nat → Nat → Nat
  | 0 => S
  | k + 1 => goS (goT S k)
theorem goT_s (S : Nat → Nat) (k : Nat) : goT S (k + 1) = goS (goT S k) := rfl
theorem goT_WF {S : Nat → Nat} (h : WF S) (h1 : S 1 ≤ 9999) : ∀ k, k ≤ 100 → WF (goT S k) ∧ goT S k 1 = S 1 + k ∧ goT S k 0 = S 0 ∧ goT S k 2 = S 2
  | 0, _ => ⟨h, rfl, rfl, rfl⟩
  | k + 1, hk => by
    obtain ⟨h2, h3, h4, h5⟩ := goT_WF h h1 k (by omega)
    rw [goT_s]
    exact ⟨goS_WF h2 (by omega), by rw [goS_1, h3]; omega, by rw [goS_0, h4], by rw [goS_2, h5]⟩
theorem BlkR.goT {Mi : MI} {B : Nat} {S : Nat → Nat} (h : BlkR Mi B S) (h6 : S 2 ≤ 6) : ∀ k, BlkR Mi B (goT S k) ∧ goT S k 2 = S 2
  | 0 => ⟨h, rfl⟩
  | k + 1 => by
    obtain ⟨h1, h2⟩ := BlkR.goT h h6 k
    exact ⟨h1.go (by omega), by rw [goT_s, goS_2, h2]⟩
def fiN (S : Nat → Nat) (f s k : Nat) : Nat := ldN (goT S (k + 1)) (ciN (S 2) (pbN (S 2) f s) (S 1 + (k + 1))) (S 0)
def fiI (S : Nat → Nat) (f s : Nat) (it : Nat → Int64) (i n : Nat) : Nat → Int64 := fun k => if i ≤ k ∧ k < i + n then (nI (fiN S f s (k - i))).toInt64 else it k
theorem fiI_0 {S : Nat → Nat} {f s i k : Nat} {it : Nat → Int64} : fiI S f s it i 0 k = it k := by unfold fiI; rw [if_neg (by omega)]
theorem fiI_s {S : Nat → Nat} {f s i n : Nat} {it : Nat → Int64} : fiI S f s it i (n + 1) (i + n) = (nI (fiN S f s n)).toInt64 := by unfold fiI; rw [if_pos (by omega), show i + n - i = n by omega]
theorem fiI_o {S : Nat → Nat} {f s i n k : Nat} {it : Nat → Int64} (h : k ≠ i + n) : fiI S f s it i (n + 1) k = fiI S f s it i n k := by
  unfold fiI
  by_cases hc : i ≤ k ∧ k < i + n
  · rw [if_pos hc, if_pos (by omega)]
  · rw [if_neg hc, if_neg (by omega)]
def sp_film (S : Nat → Nat) (q : SH) (f s n h l i : Int32) : Int32 × SH := if isB f 0 (S 2) = true ∧ isB s 0 2 = true ∧ isB n 1 25 = true ∧ isB h 0 4 = true ∧ isB l 0 4 = true then (if rfN (q.1 (pn h)) (pn l) i n (q.2.1 (pn h)) = 0 then (n, shSet q (pn h) (q.1 (pn h)) (q.2.1 (pn h)) (fiI S (pn f) (pn s) (q.2.2 (pn h)) (pn i) (pn n))) else (rfN (q.1 (pn h)) (pn l) i n (q.2.1 (pn h)), q)) else (-1, q)
theorem cv_id {l v : Nat} (hl : l < 4) (hv : v < 128) : cvL l (nI v).toInt64 = (nI v).toInt64 := by
  have key : ∀ l : Fin 4, ∀ v : Fin 128, cvL l.val (nI v.val).toInt64 = (nI v.val).toInt64 := by decide +kernel
  exact key ⟨l, hl⟩ ⟨v, hv⟩
def FrF (Mi : MI) (Ml : ML) (Mi' : MI) (Ml' : ML) (X : Nat) : Prop := (∀ a, (a < X + 168 ∨ X + 176 ≤ a) → Mi' a = Mi a) ∧ ∀ a, (a < X + 186 ∨ X + 194 ≤ a) → Ml' a = Ml a

theorem ShC.updF {Mi Mi' : MI} {Ml Ml' : ML} {X : Nat} {h : SH} {s ln sz : Nat} {it : Nat → Int64} (hc : ShC Mi Ml X h) (hs : s < 4) (e : ∀ a, X + 186 ≤ a → a < X + 194 → Mi' a = Mi a) (e' : ∀ a, a ≠ X + 186 + 2 * s + 1 → Ml' a = Ml a) (hn : ShtR Mi' Ml' (X + 186 + 2 * s) ln sz it) : ShC Mi' Ml' X (shSet h s ln sz it) := by
  intro k hk
  unfold shSet
  dsimp only
  by_cases hks : k = s
  · subst hks
    rw [if_pos rfl, if_pos rfl, if_pos rfl]
    exact hn
  · rw [if_neg hks, if_neg hks, if_neg hks]
    obtain ⟨h1, h2, h3⟩ := hc k hk
    refine ⟨by rw [e _ (by omega) (by omega)]; exact h1, h2, fun q => ?_⟩
    obtain ⟨k1, k2, k3⟩ := h3 q
    exact ⟨by rw [e _ (by omega) (by omega)]; exact k1, k2, fun j hj => by rw [e' _ (by omega)]; exact k3 j hj⟩

set_option maxHeartbeats 4000000 in
set_option maxRecDepth 100000 in
theorem c_film {g : GT} {T : TT} {Mi : MI} {Ml : ML} {X u nx : Nat} {S : Nat → Nat} {R : Nat → Nat → Nat} (hX : DayS g T X) (hL : BltR Mi (X + 1) S R u nx) (hW : WF S) {q : SH} (hC : ShC Mi Ml X q) (h19 : S 1 ≤ 9999) (f s n sh l i : Int32) : Ct g yX11_film cX11_film 10 (some .int) 6 0 0 [.ref X, .int f, .int s, .int n, .int sh, .int l, .int i] T Mi Ml (Gi T (fun rv Mi' Ml' => rv = (sp_film S q f s n sh l i).1 ∧ FrF Mi Ml Mi' Ml' X ∧ ShC Mi' Ml' X (sp_film S q f s n sh l i).2)) := by
  refine Ct.of' (plainFor_of_name (by decide +kernel)) (by exact Nat.le_of_ble_eq_true rfl) ?_
  intro x hg hR h hr hnm hnl
  subst hg
  obtain ⟨x0, ⟨x1, x2⟩, ⟨x3, x4⟩, ⟨x5, x6, x7, x8⟩, ⟨x9, x10, x11, x12, x13, x14⟩, ⟨x15, x16⟩, ⟨x17, x18, x19, x20⟩, ⟨x21, x22, x23, x24⟩, ⟨x25, x26, x27, x28, x29, x30⟩, x31, x32, x33, x34, x35, x36⟩ := id hX
  obtain ⟨z1, z2, z3, z4, z5, z6, z7⟩ := id x2
  obtain ⟨e1, e2, e3⟩ := id z5
  obtain ⟨s1, s2, s3, s4, s5⟩ := id z6
  obtain ⟨h1, h2, h3, h4, h5⟩ := id z7
  obtain ⟨l1, l2, l3⟩ := id hL
  obtain ⟨y0, y1, y2, y3⟩ := id l1
  obtain ⟨v1, v2, v3, v4⟩ := id l2
  obtain ⟨r1, r2, r3, r4, r5, r6⟩ := id l3
  obtain ⟨w0, w1, w2, w3, w4, w5, w6, w7⟩ := id hW
  refine jv_aload_n h dX11_film_0 rfl ?_
  refine jv_iload_n h dX11_film_1 rfl ?_
  refine jv_VRi [_] h dX11_film_2 cw_X11_72 cf_10 (by first | assumption | exact x16.1 | exact x33 _ (by omega) | exact x34 _ (by omega)) (c_isFloor (by first | assumption | exact x16.1 | exact x33 _ (by omega) | exact x34 _ (by omega)) (by first | assumption | exact x16.1 | exact x33 _ (by omega) | exact x34 _ (by omega)) (by first | assumption | exact x16.1 | exact x33 _ (by omega) | exact x34 _ (by omega)) _) (by decide) rfl rfl (Nat.le_of_ble_eq_true rfl) ⟨Nat.zero_le _, Nat.zero_le _⟩ ?_
  refine jv_beq 41 h dX11_film_5 (by decide) (fun c5 => ?_) (fun c5 => ?_)
  · refine jv_iconst (-1) h dX11_film_41 (by decide) ?_
    exact jv_iret h hr dX11_film_42 ⟨_, rfl, rfl, by
    have e : sp_film S q f s n sh l i = (-1, q) := (by unfold sp_film; rw [if_neg (by simp_all)])
    rw [e]
    exact ⟨rfl, ⟨fun _ _ => rfl, fun _ _ => rfl⟩, hC⟩⟩
  · refine jv_iload_n h dX11_film_8 rfl ?_
    refine jv_SRi [_] h dX11_film_9 cw_X11_211 (c_isSide _) (by decide) rfl rfl (Nat.le_of_ble_eq_true rfl) ⟨Nat.zero_le _, Nat.zero_le _⟩ ?_
    refine jv_beq 41 h dX11_film_12 (by decide) (fun c12 => ?_) (fun c12 => ?_)
    · refine jv_iconst (-1) h dX11_film_41 (by decide) ?_
      exact jv_iret h hr dX11_film_42 ⟨_, rfl, rfl, by
    have e : sp_film S q f s n sh l i = (-1, q) := (by unfold sp_film; rw [if_neg (by simp_all)])
    rw [e]
    exact ⟨rfl, ⟨fun _ _ => rfl, fun _ _ => rfl⟩, hC⟩⟩
    · refine jv_iload_n h dX11_film_15 rfl ?_
      refine jv_iconst (nI 1) h dX11_film_16 (by decide) ?_
      refine jv_bipush (nI 24) h dX11_film_17 (by decide) ?_
      refine jv_SRi [_, _, _] h dX11_film_19 cw_X11_68 (c_within (m := 1) (n := 25) _ (by decide) (by decide)) (by decide) rfl rfl (Nat.le_of_ble_eq_true rfl) ⟨Nat.zero_le _, Nat.zero_le _⟩ ?_
      refine jv_beq 41 h dX11_film_22 (by decide) (fun c22 => ?_) (fun c22 => ?_)
      · refine jv_iconst (-1) h dX11_film_41 (by decide) ?_
        exact jv_iret h hr dX11_film_42 ⟨_, rfl, rfl, by
    have e : sp_film S q f s n sh l i = (-1, q) := (by unfold sp_film; rw [if_neg (by simp_all)])
    rw [e]
    exact ⟨rfl, ⟨fun _ _ => rfl, fun _ _ => rfl⟩, hC⟩⟩
      · refine jv_iload h dX11_film_25 rfl ?_
        refine jv_SRi [_] h dX11_film_27 cw_X11_290 (c_isSheet _) (by decide) rfl rfl (Nat.le_of_ble_eq_true rfl) ⟨Nat.zero_le _, Nat.zero_le _⟩ ?_
        refine jv_beq 41 h dX11_film_30 (by decide) (fun c30 => ?_) (fun c30 => ?_)
        · refine jv_iconst (-1) h dX11_film_41 (by decide) ?_
          exact jv_iret h hr dX11_film_42 ⟨_, rfl, rfl, by
    have e : sp_film S q f s n sh l i = (-1, q) := (by unfold sp_film; rw [if_neg (by simp_all)])
    rw [e]
    exact ⟨rfl, ⟨fun _ _ => rfl, fun _ _ => rfl⟩, hC⟩⟩
        · refine jv_iload h dX11_film_33 rfl ?_
          refine jv_SRi [_] h dX11_film_35 cw_X11_293 (c_isLane _) (by decide) rfl rfl (Nat.le_of_ble_eq_true rfl) ⟨Nat.zero_le _, Nat.zero_le _⟩ ?_
          refine jv_bne 43 h dX11_film_38 (by decide) (fun c38 => ?_) (fun c38 => ?_)
          · obtain ⟨f9, rfl, -, hf9⟩ := isB_t c5
            obtain ⟨s9, rfl, -, hs9⟩ := isB_t c12
            obtain ⟨n9, rfl, hn1, hn2⟩ := isB_t c22
            obtain ⟨h9, rfl, -, hh9⟩ := isB_t c30
            obtain ⟨l9, rfl, -, hl9⟩ := isB_t c38
            obtain ⟨t1, t2, t3⟩ := hC h9 hh9
            have hsp : sp_film S q (nI f9) (nI s9) (nI n9) (nI h9) (nI l9) i = (if rfN (q.1 h9) l9 i (nI n9) (q.2.1 h9) = 0 then (nI n9, shSet q h9 (q.1 h9) (q.2.1 h9) (fiI S f9 s9 (q.2.2 h9) (pn i) n9)) else (rfN (q.1 h9) l9 i (nI n9) (q.2.1 h9), q)) := (by unfold sp_film; rw [if_pos ⟨by assumption, by assumption, by assumption, by assumption, by assumption⟩, pn_nI (by omega), pn_nI (by omega), pn_nI (by omega), pn_nI (by omega), pn_nI (by omega)])
            refine jv_aload_n h dX11_film_43 rfl ?_
            refine jv_gr 9 h dX11_film_44 cf_10 (by decide) gw_289 (by first | assumption | exact x16.1 | exact x33 _ (by omega) | exact x34 _ (by omega)) (by first | assumption | exact x16.1 | exact x33 _ (by omega) | exact x34 _ (by omega)) ?_
            refine jv_iload h dX11_film_47 rfl ?_
            refine jv_aald h dX11_film_49 (by first | assumption | exact x16.1 | exact x33 _ (by omega) | exact x34 _ (by omega)) (by decide) (by repeat (with_reducible first | exact NF_nI _ | assumption | refine NF_add ?_ ?_ | refine NF_mul ?_ ?_)) ⟨by omega, by decide⟩ (by first | assumption | exact x16.1 | exact x33 _ (by omega) | exact x34 _ (by omega)) ?_
            refine jv_astore h dX11_film_50 (lt_nl hnl (by decide)) ?_
            refine jv_aload h dX11_film_52 rfl ?_
            refine jv_iload h dX11_film_54 rfl ?_
            refine jv_iload h dX11_film_56 rfl ?_
            refine jv_iload_n h dX11_film_58 rfl ?_
            refine jv_VRi [_, _, _] h dX11_film_59 cw_X11_296 cf_6 (by first | assumption | exact x16.1 | exact x33 _ (by omega) | exact x34 _ (by omega)) (c_refusal _ _ (x34 _ hh9) t1 t2 (fun z => ⟨(t3 z).1, (t3 z).2.1⟩) (NF_nI _) hl9) (by decide) rfl rfl (Nat.le_of_ble_eq_true rfl) ⟨Nat.zero_le _, Nat.zero_le _⟩ ?_
            refine jv_istore h dX11_film_62 (lt_nl hnl (by decide)) ?_
            refine jv_iload h dX11_film_64 rfl ?_
            refine jv_if_eq 72 h dX11_film_66 (by decide) (fun c66 => ?_) (fun c66 => ?_)
            · obtain ⟨k1, k2⟩ := rfN_0 c66
              obtain ⟨t4, t5, t6⟩ := t3 (by omega)
              obtain ⟨a9, b9, rfl, hb9, hab⟩ := hoB_t k2
              obtain rfl : n9 = b9 := NF_inj hb9 (by omega) (by omega)
              rw [pn_nI (by omega)] at hsp
              refine jv_aload_n h dX11_film_72 rfl ?_
              refine jv_gr 5 h dX11_film_73 cf_10 (by decide) gw_285 (by first | assumption | exact x16.1 | exact x33 _ (by omega) | exact x34 _ (by omega)) (by first | assumption | exact x16.1 | exact x33 _ (by omega) | exact x34 _ (by omega)) ?_
              refine jv_aload_n h dX11_film_76 rfl ?_
              refine jv_gr 0 h dX11_film_77 cf_10 (by decide) gw_280 (by first | assumption | exact x16.1 | exact x33 _ (by omega) | exact x34 _ (by omega)) (by first | assumption | exact x16.1 | exact x33 _ (by omega) | exact x34 _ (by omega)) ?_
              refine jv_gr 1 h dX11_film_80 cf_0 (by decide) gw_165 (by first | assumption | exact x16.1 | exact x33 _ (by omega) | exact x34 _ (by omega)) (by first | assumption | exact x16.1 | exact x33 _ (by omega) | exact x34 _ (by omega)) ?_
              refine jv_VGv [_] h dX11_film_83 cw_X11_316 cf_5 (by first | assumption | exact x16.1 | exact x33 _ (by omega) | exact x34 _ (by omega)) (c_stake x16 z6 l2 hW (by omega)) (by decide) rfl rfl (Nat.le_of_ble_eq_true rfl) ⟨Nat.zero_le _, Nat.zero_le _⟩ (fun Mi83 Ml83 hp83 => ?_)
              have hm9 := hp83.1
              subst Ml83
              obtain ⟨-, i1, i2⟩ := hp83
              refine jv_iconst (nI 0) h dX11_film_86 (by decide) ?_
              refine jv_istore h dX11_film_87 (lt_nl hnl (by decide)) ?_
              have hl89 : ∀ (n : Nat) (k : Nat) (M1 : MI) (L1 : ML), n9 - k < n → k ≤ n9 → (∀ a, (a < X + 168 ∨ X + 176 ≤ a) → M1 a = Mi a) → ScnR M1 (X + 168) (goT S k) → (∀ a, a ≠ X + 186 + 2 * h9 + 1 → L1 a = Ml a) → (∀ j, j < 24 → L1 (X + 186 + 2 * h9 + 1) j = fiI S f9 s9 (q.2.2 h9) a9 k j) → V x 0 0 T M1 L1 89 [some (.ref X), some (.int (nI f9)), some (.int (nI s9)), some (.int (nI n9)), some (.int (nI h9)), some (.int (nI l9)), some (.int (nI a9)), some (.ref (X + 186 + 2 * h9)), some (.int 0), some (.int (nI k))] [] := by
                intro n
                induction n with
                | zero => intro k M1 L1 hN9 hk f1 f2 f3 f4; exact absurd hN9 (by omega)
                | succ n ih =>
                  intro k M1 L1 hN9 hk f1 f2 f3 f4
                  refine jv_iload h dX11_film_89 rfl ?_
                  refine jv_iload_n h dX11_film_91 rfl ?_
                  refine jv_nge 146 h dX11_film_92 (by decide) (by repeat (with_reducible first | exact NF_nI _ | assumption | refine NF_add ?_ ?_ | refine NF_mul ?_ ?_)) (by repeat (with_reducible first | exact NF_nI _ | assumption | refine NF_add ?_ ?_ | refine NF_mul ?_ ?_)) ⟨by omega, by omega⟩ (fun c92 => ?_) (fun c92 => ?_)
                  · refine jv_iload_n h dX11_film_146 rfl ?_
                    exact jv_iret h hr dX11_film_147 ⟨_, rfl, rfl, by
    rw [hsp, if_pos c66]
    obtain rfl : k = n9 := by omega
    exact ⟨rfl, ⟨f1, fun a ha => f3 a (by omega)⟩, ShC.updF hC hh9 (fun a h1 h2 => f1 a (by omega)) f3 ⟨by rw [f1 _ (by omega)]; exact t1, t2, fun _ => ⟨by rw [f1 _ (by omega)]; exact t4, t5, f4⟩⟩⟩⟩
                  · obtain ⟨hWk, hk1, hk0, hk2⟩ := goT_WF hW h19 k (by omega)
                    obtain ⟨hWk', hk1', hk0', hk2'⟩ := goT_WF hW h19 (k + 1) (by omega)
                    rw [goT_s] at hWk' hk1' hk0' hk2'
                    have hbk : BlkR M1 (X + 1 + 1) (goT S k) := ((l1.fr (f1 _ (by omega)) (f1 _ (by omega))).goT (by omega) k).1
                    have hpb := pbN_lt (h := S 2) (f := f9) (s := s9) (by omega)
                    have hci := ciN_lt (h := S 2) (c := pbN (S 2) f9 s9) (s := S 1 + (k + 1)) (by omega)
                    refine jv_aload_n h dX11_film_95 rfl ?_
                    refine jv_gr 5 h dX11_film_96 cf_10 (by decide) gw_285 (by first | assumption | exact x16.1 | exact x33 _ (by omega) | exact x34 _ (by omega)) (by first | assumption | exact x16.1 | exact x33 _ (by omega) | exact x34 _ (by omega)) ?_
                    refine jv_aload_n h dX11_film_99 rfl ?_
                    refine jv_gr 0 h dX11_film_100 cf_10 (by decide) gw_280 (by first | assumption | exact x16.1 | exact x33 _ (by omega) | exact x34 _ (by omega)) (by first | assumption | exact x16.1 | exact x33 _ (by omega) | exact x34 _ (by omega)) ?_
                    refine jv_gr 0 h dX11_film_103 cf_0 (by decide) gw_162 (by first | assumption | exact x16.1 | exact x33 _ (by omega) | exact x34 _ (by omega)) (by first | assumption | exact x16.1 | exact x33 _ (by omega) | exact x34 _ (by omega)) ?_
                    refine jv_VGv [_] h dX11_film_106 cw_X11_318 cf_5 (by first | assumption | exact x16.1 | exact x33 _ (by omega) | exact x34 _ (by omega)) (c_goOn x16 z5 f2 hbk hWk (by omega)) (by decide) rfl rfl (Nat.le_of_ble_eq_true rfl) ⟨Nat.zero_le _, Nat.zero_le _⟩ (fun Mi106 Ml106 hp106 => ?_)
                    have hm9 := hp106.1
                    subst Ml106
                    obtain ⟨-, j1, j2⟩ := hp106
                    have hfr : ∀ a, (a < X + 168 ∨ X + 176 ≤ a) → Mi106 a = Mi a := fun a ha => (j1 a (by omega)).trans (f1 a ha)
                    have hL' : BltR Mi106 (X + 1) S R u nx := hL.fr (by omega) (fun a _ _ => hfr a (by omega))
                    have t1' : Mi106 (X + 186 + 2 * h9) 1 = carI (q.1 h9) := by rw [hfr _ (by omega)]; exact t1
                    refine jv_aload h dX11_film_109 rfl ?_
                    refine jv_iload h dX11_film_111 rfl ?_
                    refine jv_iload h dX11_film_113 rfl ?_
                    first | refine jv_iaddN h dX11_film_115 (by repeat (with_reducible first | exact NF_nI _ | assumption | refine NF_add ?_ ?_ | refine NF_mul ?_ ?_)) (by repeat (with_reducible first | exact NF_nI _ | assumption | refine NF_add ?_ ?_ | refine NF_mul ?_ ?_)) ?_ | refine jv_iadd h dX11_film_115 ?_
                    refine jv_aload_n h dX11_film_116 rfl ?_
                    refine jv_gr 5 h dX11_film_117 cf_10 (by decide) gw_285 (by first | assumption | exact x16.1 | exact x33 _ (by omega) | exact x34 _ (by omega)) (by first | assumption | exact x16.1 | exact x33 _ (by omega) | exact x34 _ (by omega)) ?_
                    refine jv_aload_n h dX11_film_120 rfl ?_
                    refine jv_gr 0 h dX11_film_121 cf_10 (by decide) gw_280 (by first | assumption | exact x16.1 | exact x33 _ (by omega) | exact x34 _ (by omega)) (by first | assumption | exact x16.1 | exact x33 _ (by omega) | exact x34 _ (by omega)) ?_
                    refine jv_iload_n h dX11_film_124 rfl ?_
                    refine jv_iload_n h dX11_film_125 rfl ?_
                    refine jv_iload h dX11_film_126 rfl ?_
                    refine jv_iconst (nI 1) h dX11_film_128 (by decide) ?_
                    first | refine jv_iaddN h dX11_film_129 (by repeat (with_reducible first | exact NF_nI _ | assumption | refine NF_add ?_ ?_ | refine NF_mul ?_ ?_)) (by repeat (with_reducible first | exact NF_nI _ | assumption | refine NF_add ?_ ?_ | refine NF_mul ?_ ?_)) ?_ | refine jv_iadd h dX11_film_129 ?_
                    refine jv_VRi [_, _, _] h dX11_film_130 cw_X11_217 cf_0 (by first | assumption | exact x16.1 | exact x33 _ (by omega) | exact x34 _ (by omega)) (c_carBy x2 hL' hW (NF_nI _) (NF_nI _) (NF_nI _) ⟨hf9, hs9, by omega⟩) (by decide) rfl rfl (Nat.le_of_ble_eq_true rfl) ⟨Nat.zero_le _, Nat.zero_le _⟩ ?_
                    refine jv_VRi [_] h dX11_film_133 cw_X11_165 cf_5 (by first | assumption | exact x16.1 | exact x33 _ (by omega) | exact x34 _ (by omega)) (c_load x16 j2 hWk' (NF_nI _) (by omega)) (by decide) rfl rfl (Nat.le_of_ble_eq_true rfl) ⟨Nat.zero_le _, Nat.zero_le _⟩ ?_
                    refine jv_i2l h dX11_film_136 ?_
                    refine jv_VGv [_, _] h dX11_film_137 cw_X11_321 cf_6 (by first | assumption | exact x16.1 | exact x33 _ (by omega) | exact x34 _ (by omega)) (c_put _ (hX.sht hh9) t1' ⟨by omega, by omega⟩ (NF_nI _) (by omega)) (by decide) rfl rfl (Nat.le_of_ble_eq_true rfl) ⟨Nat.zero_le _, Nat.zero_le _⟩ (fun Mi137 Ml137 hp137 => ?_)
                    refine jv_iinc (nI (k + 1)) h dX11_film_140 rfl (lt_nl hnl (by decide)) (nI_inc k) ?_
                    refine jv_goto 89 h dX11_film_143 (by decide) ?_
                    obtain ⟨p1, p2⟩ := hp137
                    subst p1
                    subst p2
                    rw [cv_id (by omega) (by have := ldN_le hWk' (ciN (S 2) (pbN (S 2) f9 s9) (S 1 + (k + 1))) _ (Nat.le_refl _); omega)]
                    exact ih (k + 1) _ _ (by omega) (by omega) hfr j2 (fun a ha => by rw [upd2_row _ _ ha]; exact f3 a ha) (fun j hj => by
                      by_cases hjk : j = a9 + k
                      · rw [hjk, upd2_same, fiI_s]
                        unfold fiN
                        rw [goT_s, hk0']
                      · rw [upd2_ne _ _ (by omega), fiI_o hjk]; exact f4 j hj)
              rw [c66]
              exact hl89 (n9 + 1) 0 _ _ (by omega) (by omega) (fun a ha => i1 a (by omega)) i2 (fun _ _ => rfl) (fun j hj => by rw [fiI_0]; exact t6 j hj)
            · refine jv_iload h dX11_film_69 rfl ?_
              exact jv_iret h hr dX11_film_71 ⟨_, rfl, rfl, by
    have e : sp_film S q (nI f9) (nI s9) (nI n9) (nI h9) (nI l9) i = (rfN (q.1 h9) l9 i (nI n9) (q.2.1 h9), q) := (by rw [hsp, if_neg c66])
    rw [e]
    exact ⟨rfl, ⟨fun _ _ => rfl, fun _ _ => rfl⟩, hC⟩⟩
          · refine jv_iconst (-1) h dX11_film_41 (by decide) ?_
            exact jv_iret h hr dX11_film_42 ⟨_, rfl, rfl, by
    have e : sp_film S q f s n sh l i = (-1, q) := (by unfold sp_film; rw [if_neg (by simp_all)])
    rw [e]
    exact ⟨rfl, ⟨fun _ _ => rfl, fun _ _ => rfl⟩, hC⟩⟩
