/-! WHERE ONE CAN BE, by what it was -/
def mvQ (S : Nat → Nat) (A : Nat → Bool) (st m p k : Nat) : Prop := (stF A (flN (S 2) p) = true ∧ btN m (sdN (S 2) p + 1) = 1 ∧ k = 42 + ciN (S 2) p st) ∨ (A (42 + ciN (S 2) p st) = true ∧ btN m 3 = 1 ∧ k = flN (S 2) p * 7 + S (6 + ciN (S 2) p st))
theorem mvP_iff {S : Nat → Nat} {A : Nat → Bool} {st m : Nat} (k : Nat) : ∀ n, mvP S A st m n k = true ↔ (btN m 0 = 1 ∧ A k = true) ∨ ∃ p, p < n ∧ mvQ S A st m p k
  | 0 => by
    show (decide (btN m 0 = 1) && A k) = true ↔ _
    rw [Bool.and_eq_true, decide_eq_true_iff]
    exact ⟨Or.inl, fun h => h.elim id (fun ⟨p, h1, _⟩ => absurd h1 (Nat.not_lt_zero _))⟩
  | n + 1 => by
    have ih := mvP_iff (S := S) (A := A) (st := st) (m := m) k n
    show ((mvP S A st m n k || ((stF A (flN (S 2) n) && decide (btN m (sdN (S 2) n + 1) = 1)) && decide (k = 42 + ciN (S 2) n st))) || ((A (42 + ciN (S 2) n st) && decide (btN m 3 = 1)) && decide (k = flN (S 2) n * 7 + S (6 + ciN (S 2) n st)))) = true ↔ _
    rw [Bool.or_eq_true, Bool.or_eq_true, ih, Bool.and_eq_true, Bool.and_eq_true, Bool.and_eq_true, Bool.and_eq_true, decide_eq_true_iff, decide_eq_true_iff, decide_eq_true_iff, decide_eq_true_iff]
    constructor
    · rintro (((h | ⟨p, h1, h2⟩) | ⟨⟨h1, h2⟩, h3⟩) | ⟨⟨h1, h2⟩, h3⟩)
      · exact Or.inl h
      · exact Or.inr ⟨p, by omega, h2⟩
      · exact Or.inr ⟨n, by omega, Or.inl ⟨h1, h2, h3⟩⟩
      · exact Or.inr ⟨n, by omega, Or.inr ⟨h1, h2, h3⟩⟩
    · rintro (h | ⟨p, h1, h2⟩)
      · exact Or.inl (Or.inl (Or.inl h))
      · rcases (show p < n ∨ p = n by omega) with z | z
        · exact Or.inl (Or.inl (Or.inr ⟨p, z, h2⟩))
        · subst z
          rcases h2 with ⟨a, b, c⟩ | ⟨a, b, c⟩
          · exact Or.inl (Or.inr ⟨⟨a, b⟩, c⟩)
          · exact Or.inr ⟨⟨a, b⟩, c⟩
theorem stF_iff {A : Nat → Bool} {f : Nat} : stF A f = true ↔ ∃ d, d < 7 ∧ A (f * 7 + d) = true := by
  unfold stF
  simp only [Bool.or_eq_true]
  constructor
  · rintro ((((((h | h) | h) | h) | h) | h) | h)
    · exact ⟨0, by omega, h⟩
    · exact ⟨1, by omega, h⟩
    · exact ⟨2, by omega, h⟩
    · exact ⟨3, by omega, h⟩
    · exact ⟨4, by omega, h⟩
    · exact ⟨5, by omega, h⟩
    · exact ⟨6, by omega, h⟩
  · rintro ⟨d, hd, h⟩
    rcases (show d = 0 ∨ d = 1 ∨ d = 2 ∨ d = 3 ∨ d = 4 ∨ d = 5 ∨ d = 6 by omega) with rfl | rfl | rfl | rfl | rfl | rfl | rfl
    · exact Or.inl (Or.inl (Or.inl (Or.inl (Or.inl (Or.inl h)))))
    · exact Or.inl (Or.inl (Or.inl (Or.inl (Or.inl (Or.inr h)))))
    · exact Or.inl (Or.inl (Or.inl (Or.inl (Or.inr h))))
    · exact Or.inl (Or.inl (Or.inl (Or.inr h)))
    · exact Or.inl (Or.inl (Or.inr h))
    · exact Or.inl (Or.inr h)
    · exact Or.inr h
theorem toA_iff {S : Nat → Nat} {A : Nat → Bool} {st pl : Nat} (k : Nat) : toA S A st pl k = true ↔ (A k = true ∧ k ≠ 42 + ciN (S 2) pl st) ∨ (A (42 + ciN (S 2) pl st) = true ∧ k = flN (S 2) pl * 7 + S (6 + ciN (S 2) pl st)) := by
  unfold toA
  cases hA : A (42 + ciN (S 2) pl st) with
  | true =>
    rw [if_pos rfl, Bool.or_eq_true, Bool.and_eq_true, decide_eq_true_iff, Bool.not_eq_true', decide_eq_false_iff_not]
    exact ⟨fun h => h.elim Or.inl (fun z => Or.inr ⟨rfl, z⟩), fun h => h.elim Or.inl (fun z => Or.inr z.2)⟩
  | false =>
    rw [if_neg (by decide)]
    constructor
    · intro h
      exact Or.inl ⟨h, fun z => by rw [z, hA] at h; cases h⟩
    · rintro (h | h)
      · exact h.1
      · cases h.1
/-- what acts upon each of a set alone -/
def Lin (F : (Nat → Bool) → Nat → Bool) : Prop := ∃ R : Nat → Nat → Prop, ∀ A k, F A k = true ↔ ∃ i, A i = true ∧ R i k
theorem Lin.comp {F G : (Nat → Bool) → Nat → Bool} (hF : Lin F) (hG : Lin G) : Lin (fun A => G (F A)) := by
  obtain ⟨R, hR⟩ := hF
  obtain ⟨Q, hQ⟩ := hG
  refine ⟨fun i k => ∃ j, R i j ∧ Q j k, fun A k => ?_⟩
  rw [hQ]
  constructor
  · rintro ⟨j, h1, h2⟩
    obtain ⟨i, h3, h4⟩ := (hR A j).mp h1
    exact ⟨i, h3, j, h4, h2⟩
  · rintro ⟨i, h1, j, h2, h3⟩
    exact ⟨j, (hR A j).mpr ⟨i, h1, h2⟩, h3⟩
theorem Lin.rf : Lin (fun A => A) := ⟨fun i k => i = k, fun A k => ⟨fun h => ⟨k, h, rfl⟩, fun ⟨i, h1, h2⟩ => h2 ▸ h1⟩⟩
theorem Lin.un {F : (Nat → Bool) → Nat → Bool} (hF : Lin F) {B : Nat → Bool} {C : Nat → Nat → Bool} (h : ∀ k, B k = true ↔ ∃ q, q < 4 ∧ C q k = true) (k : Nat) : F B k = true ↔ ∃ q, q < 4 ∧ F (C q) k = true := by
  obtain ⟨R, hR⟩ := hF
  rw [hR]
  constructor
  · rintro ⟨i, h1, h2⟩
    obtain ⟨q, h3, h4⟩ := (h i).mp h1
    exact ⟨q, h3, (hR _ _).mpr ⟨i, h4, h2⟩⟩
  · rintro ⟨q, h3, h4⟩
    obtain ⟨i, h1, h2⟩ := (hR _ _).mp h4
    exact ⟨i, (h i).mpr ⟨q, h3, h1⟩, h2⟩
theorem Lin.mv (S : Nat → Nat) (st m n : Nat) : Lin (fun A => mvP S A st m n) := by
  refine ⟨fun i k => (btN m 0 = 1 ∧ i = k) ∨ ∃ p, p < n ∧ (((∃ d, d < 7 ∧ i = flN (S 2) p * 7 + d) ∧ btN m (sdN (S 2) p + 1) = 1 ∧ k = 42 + ciN (S 2) p st) ∨ (i = 42 + ciN (S 2) p st ∧ btN m 3 = 1 ∧ k = flN (S 2) p * 7 + S (6 + ciN (S 2) p st))), fun A k => ?_⟩
  show mvP S A st m n k = true ↔ _
  rw [mvP_iff]
  constructor
  · rintro (⟨h1, h2⟩ | ⟨p, hp, ⟨h1, h2, h3⟩ | ⟨h1, h2, h3⟩⟩)
    · exact ⟨k, h2, Or.inl ⟨h1, rfl⟩⟩
    · obtain ⟨d, hd, hA⟩ := stF_iff.mp h1
      exact ⟨_, hA, Or.inr ⟨p, hp, Or.inl ⟨⟨d, hd, rfl⟩, h2, h3⟩⟩⟩
    · exact ⟨_, h1, Or.inr ⟨p, hp, Or.inr ⟨rfl, h2, h3⟩⟩⟩
  · rintro ⟨i, hA, ⟨h1, h2⟩ | ⟨p, hp, ⟨⟨d, hd, h1⟩, h2, h3⟩ | ⟨h1, h2, h3⟩⟩⟩
    · exact Or.inl ⟨h1, h2 ▸ hA⟩
    · exact Or.inr ⟨p, hp, Or.inl ⟨stF_iff.mpr ⟨d, hd, h1 ▸ hA⟩, h2, h3⟩⟩
    · exact Or.inr ⟨p, hp, Or.inr ⟨h1 ▸ hA, h2, h3⟩⟩
theorem Lin.to (S : Nat → Nat) (st pl : Nat) : Lin (fun A => toA S A st pl) := by
  refine ⟨fun i k => (i = k ∧ k ≠ 42 + ciN (S 2) pl st) ∨ (i = 42 + ciN (S 2) pl st ∧ k = flN (S 2) pl * 7 + S (6 + ciN (S 2) pl st)), fun A k => ?_⟩
  show toA S A st pl k = true ↔ _
  rw [toA_iff]
  constructor
  · rintro (⟨h1, h2⟩ | ⟨h1, h2⟩)
    · exact ⟨k, h1, Or.inl ⟨rfl, h2⟩⟩
    · exact ⟨_, h1, Or.inr ⟨rfl, h2⟩⟩
  · rintro ⟨i, hA, ⟨h1, h2⟩ | ⟨h1, h2⟩⟩
    · exact Or.inl ⟨h1 ▸ hA, h2⟩
    · exact Or.inr ⟨h1 ▸ hA, h2⟩
theorem Lin.go (S : Nat → Nat) (kk st : Nat) : Lin (fun A => goA S A kk st) := by
  have h1 : Lin (fun A => if kk = 1 ∨ kk = 4 then toA S A st 0 else A) := by
    by_cases h : kk = 1 ∨ kk = 4
    · have e : (fun A => if kk = 1 ∨ kk = 4 then toA S A st 0 else A) = fun A => toA S A st 0 := by funext A; rw [if_pos h]
      rw [e]; exact Lin.to S st 0
    · have e : (fun A => if kk = 1 ∨ kk = 4 then toA S A st 0 else A) = fun A => A := by funext A; rw [if_neg h]
      rw [e]; exact Lin.rf
  by_cases h : kk = 1
  · have e : (fun A => goA S A kk st) = fun A => toA S (if kk = 1 ∨ kk = 4 then toA S A st 0 else A) st (S 2) := by funext A; unfold goA; rw [if_pos h]
    rw [e]; exact Lin.comp h1 (Lin.to S st (S 2))
  · have e : (fun A => goA S A kk st) = fun A => if kk = 1 ∨ kk = 4 then toA S A st 0 else A := by funext A; unfold goA; rw [if_neg h]
    rw [e]; exact h1
def raG (S : Nat → Nat) (kk st : Nat) : Nat → (Nat → Bool) → Nat → Bool
  | 0 => fun B => B
  | k + 1 => fun B => mvP S (goA S (raG S kk st k B) kk (st + k + 1)) (st + k + 1) 15 (2 * S 2)
theorem raG_eq (S : Nat → Nat) (A : Nat → Bool) (kk st m : Nat) : ∀ k, raA S A kk st m k = raG S kk st k (mvP S A st m (2 * S 2))
  | 0 => rfl
  | k + 1 => by show mvP S (goA S (raA S A kk st m k) kk (st + k + 1)) _ _ _ = mvP S (goA S (raG S kk st k _) kk (st + k + 1)) _ _ _; rw [raG_eq S A kk st m k]
theorem Lin.ra (S : Nat → Nat) (kk st : Nat) : ∀ k, Lin (raG S kk st k)
  | 0 => Lin.rf
  | k + 1 => Lin.comp (F := fun A => goA S (raG S kk st k A) kk (st + k + 1)) (G := fun A => mvP S A (st + k + 1) 15 (2 * S 2)) (Lin.comp (F := raG S kk st k) (G := fun A => goA S A kk (st + k + 1)) (Lin.ra S kk st k) (Lin.go S kk (st + k + 1))) (Lin.mv S (st + k + 1) 15 (2 * S 2))
theorem bt_15 : ∀ x, x < 4 → btN 15 x = 1 := by
  have key : ∀ x : Fin 4, btN 15 x.val = 1 := by decide
  exact fun x hx => key ⟨x, hx⟩
theorem bt_pw {q x : Nat} (hq : q < 4) (hx : x < 4) : btN (2 ^ q) x = 1 ↔ x = q := by
  have key : ∀ q x : Fin 4, btN (2 ^ q.val) x.val = 1 ↔ x.val = q.val := by decide
  exact key ⟨q, hq⟩ ⟨x, hx⟩
theorem sdN_lt {h p : Nat} : sdN h p < 2 := by unfold sdN; split <;> omega
theorem mv_un {S : Nat → Nat} {A : Nat → Bool} {st n : Nat} (k : Nat) : mvP S A st 15 n k = true ↔ ∃ q, q < 4 ∧ mvP S A st (2 ^ q) n k = true := by
  rw [mvP_iff]
  constructor
  · rintro (⟨h1, h2⟩ | ⟨p, hp, ⟨h1, h2, h3⟩ | ⟨h1, h2, h3⟩⟩)
    · exact ⟨0, by omega, (mvP_iff k n).mpr (Or.inl ⟨(bt_pw (by omega) (by omega)).mpr rfl, h2⟩)⟩
    · have := sdN_lt (h := S 2) (p := p)
      exact ⟨sdN (S 2) p + 1, by omega, (mvP_iff k n).mpr (Or.inr ⟨p, hp, Or.inl ⟨h1, (bt_pw (by omega) (by omega)).mpr rfl, h3⟩⟩)⟩
    · exact ⟨3, by omega, (mvP_iff k n).mpr (Or.inr ⟨p, hp, Or.inr ⟨h1, (bt_pw (by omega) (by omega)).mpr rfl, h3⟩⟩)⟩
  · rintro ⟨q, hq, h⟩
    rcases (mvP_iff k n).mp h with ⟨h1, h2⟩ | ⟨p, hp, ⟨h1, h2, h3⟩ | ⟨h1, h2, h3⟩⟩
    · exact Or.inl ⟨bt_15 0 (by omega), h2⟩
    · exact Or.inr ⟨p, hp, Or.inl ⟨h1, bt_15 _ (by have := sdN_lt (h := S 2) (p := p); omega), h3⟩⟩
    · exact Or.inr ⟨p, hp, Or.inr ⟨h1, bt_15 3 (by omega), h3⟩⟩
theorem ra_15 (S : Nat → Nat) (A : Nat → Bool) (kk st : Nat) : ∀ n, raA S A kk st 15 n = mvP S (wsA S A kk st n) (st + n) 15 (2 * S 2)
  | 0 => rfl
  | n + 1 => by
    show mvP S (goA S (raA S A kk st 15 n) kk (st + n + 1)) (st + n + 1) 15 (2 * S 2) = _
    rw [ra_15 S A kk st n]
    rfl
theorem ra_un {S : Nat → Nat} {A : Nat → Bool} {kk st j : Nat} (n : Nat) : wmB S A kk st j n = true ↔ ∃ q, q < 4 ∧ raA S A kk st (2 ^ q) n j = true := by
  have e : wmB S A kk st j n = raA S A kk st 15 n j := by rw [ra_15]; rfl
  rw [e, raG_eq, (Lin.ra S kk st n).un (B := mvP S A st 15 (2 * S 2)) (C := fun q => mvP S A st (2 ^ q) (2 * S 2)) (fun k => mv_un k)]
  constructor
  · rintro ⟨q, h1, h2⟩
    exact ⟨q, h1, by rw [raG_eq]; exact h2⟩
  · rintro ⟨q, h1, h2⟩
    exact ⟨q, h1, by rw [raG_eq] at h2; exact h2⟩
/-- the first move: so soon by it, or not -/
theorem first_iff {S : Nat → Nat} {A : Nat → Bool} {kk st j n q : Nat} (hq : q < 4) (hn : n < 61) (h : fsN (wmB S A kk st j) 0 61 = nI n) : fsN (fun m => raA S A kk st (2 ^ q) m j) 0 61 = nI n ↔ raA S A kk st (2 ^ q) n j = true := by
  rcases fsN_spec (wmB S A kk st j) 61 0 with ⟨i, h1, h2, h3, h4, h5⟩ | ⟨h1, h2⟩
  · have hin : i = n := (nI_eq (by omega) (by omega)).mp (h5.symm.trans h)
    subst hin
    rcases fsN_spec (fun m => raA S A kk st (2 ^ q) m j) 61 0 with ⟨i', g1, g2, g3, g4, g5⟩ | ⟨g1, g2⟩
    · rw [g5, nI_eq (by omega) (by omega)]
      constructor
      · intro z; rw [← z]; exact g3
      · intro z
        rcases (show i' < i ∨ i' = i ∨ i < i' by omega) with y | y | y
        · have := h4 i' (by omega) y
          rw [(ra_un i').mpr ⟨q, hq, g3⟩] at this
          cases this
        · exact y
        · have := g4 i (by omega) y
          rw [this] at z
          cases z
    · rw [g2]
      constructor
      · intro z; exact absurd z.symm (nI_ne4 (by omega))
      · intro z
        have := g1 i (by omega) (by omega)
        rw [this] at z
        cases z
  · rw [h2] at h
    exact absurd h.symm (nI_ne4 (by omega))
/-- there is one -/
theorem first_ex {S : Nat → Nat} {A : Nat → Bool} {kk st j n : Nat} (hn : n < 61) (h : fsN (wmB S A kk st j) 0 61 = nI n) : ∃ q, q < 4 ∧ fsN (fun q => raA S A kk st (2 ^ q) n j) 0 4 = nI q ∧ raA S A kk st (2 ^ q) n j = true ∧ ∀ r, r < q → raA S A kk st (2 ^ r) n j = false := by
  rcases fsN_spec (wmB S A kk st j) 61 0 with ⟨i, h1, h2, h3, h4, h5⟩ | ⟨h1, h2⟩
  · have hin : i = n := (nI_eq (by omega) (by omega)).mp (h5.symm.trans h)
    subst hin
    obtain ⟨q0, hq0, hr⟩ := (ra_un i).mp h3
    rcases fsN_spec (fun q => raA S A kk st (2 ^ q) i j) 4 0 with ⟨q, g1, g2, g3, g4, g5⟩ | ⟨g1, g2⟩
    · exact ⟨q, by omega, g5, g3, fun r hr => g4 r (by omega) hr⟩
    · have := g1 q0 (by omega) (by omega)
      rw [this] at hr
      cases hr
  · rw [h2] at h
    exact absurd h.symm (nI_ne4 (by omega))
/-- who stands on a spot may stay there -/
theorem toA_sp {S : Nat → Nat} {A : Nat → Bool} {st pl k : Nat} (hk : k < 42) (h : A k = true) : toA S A st pl k = true := (toA_iff k).mpr (Or.inl ⟨h, by omega⟩)
theorem goA_sp {S : Nat → Nat} {A : Nat → Bool} {kk st k : Nat} (hk : k < 42) (h : A k = true) : goA S A kk st k = true := by
  have h1 : (if kk = 1 ∨ kk = 4 then toA S A st 0 else A) k = true := by
    split
    · exact toA_sp hk h
    · exact h
  unfold goA
  split
  · rename_i hk1
    exact toA_sp hk h1
  · exact h1
theorem wm_up {S : Nat → Nat} {A : Nat → Bool} {kk st j n : Nat} (hj : j < 42) (h : wmB S A kk st j n = true) : wmB S A kk st j (n + 1) = true := by
  refine (mvP_iff j _).mpr (Or.inl ⟨bt_15 0 (by omega), ?_⟩)
  exact goA_sp hj h
theorem wm_all {S : Nat → Nat} {A : Nat → Bool} {kk st j n : Nat} (hj : j < 42) (h : wmB S A kk st j n = true) : ∀ m, wmB S A kk st j (n + m) = true
  | 0 => h
  | m + 1 => wm_up hj (wm_all hj h m)
theorem never_iff {S : Nat → Nat} {i j : Nat} (hj : j < 42) : snI S i j = -4 ↔ whB S i j 60 = false := by
  unfold snI
  rcases fsN_spec (whB S i j) 61 0 with ⟨n, h1, h2, h3, h4, h5⟩ | ⟨h1, h2⟩
  · rw [h5]
    have := wm_all hj h3 (60 - n)
    rw [show n + (60 - n) = 60 by omega] at this
    have h60 : whB S i j 60 = true := this
    rw [h60]
    exact ⟨fun z => absurd z (nI_ne4 (by omega)), fun z => by cases z⟩
  · rw [h2]
    exact ⟨fun _ => h1 60 (by omega) (by omega), fun _ => rfl⟩
