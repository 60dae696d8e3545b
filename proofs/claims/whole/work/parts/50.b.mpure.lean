/-! THE REFERENCE'S MOVES, by floors and cars, are the class's, by places -/
def mm1 (S : Nat → Nat) (A : Nat → Bool) (st s : Nat) : Nat → Nat → Bool
  | 0 => fun _ => false
  | f + 1 => fun k => mm1 S A st s f k || (stF A f && decide (k = 42 + ciN (S 2) (pbN (S 2) f s) st))
def mm3 (S : Nat → Nat) (A : Nat → Bool) (st : Nat) : Nat → Nat → Bool
  | 0 => fun _ => false
  | c + 1 => fun k => mm3 S A st c k || (A (42 + c) && decide (k = 7 * flN (S 2) (plN (S 2) c st) + S (6 + c)))
theorem mm1_iff {S : Nat → Nat} {A : Nat → Bool} {st s : Nat} (k : Nat) : ∀ n, mm1 S A st s n k = true ↔ ∃ f, f < n ∧ stF A f = true ∧ k = 42 + ciN (S 2) (pbN (S 2) f s) st
  | 0 => ⟨(fun h => by cases h), fun ⟨f, h, _⟩ => absurd h (Nat.not_lt_zero _)⟩
  | n + 1 => by
    have ih := mm1_iff (S := S) (A := A) (st := st) (s := s) k n
    show (mm1 S A st s n k || (stF A n && decide (k = 42 + ciN (S 2) (pbN (S 2) n s) st))) = true ↔ _
    rw [Bool.or_eq_true, ih, Bool.and_eq_true, decide_eq_true_iff]
    constructor
    · rintro (⟨f, h1, h2⟩ | ⟨h1, h2⟩)
      · exact ⟨f, by omega, h2⟩
      · exact ⟨n, by omega, h1, h2⟩
    · rintro ⟨f, h1, h2, h3⟩
      rcases (show f < n ∨ f = n by omega) with z | z
      · exact Or.inl ⟨f, z, h2, h3⟩
      · subst z; exact Or.inr ⟨h2, h3⟩
theorem mm3_iff {S : Nat → Nat} {A : Nat → Bool} {st : Nat} (k : Nat) : ∀ n, mm3 S A st n k = true ↔ ∃ c, c < n ∧ A (42 + c) = true ∧ k = 7 * flN (S 2) (plN (S 2) c st) + S (6 + c)
  | 0 => ⟨(fun h => by cases h), fun ⟨f, h, _⟩ => absurd h (Nat.not_lt_zero _)⟩
  | n + 1 => by
    have ih := mm3_iff (S := S) (A := A) (st := st) k n
    show (mm3 S A st n k || (A (42 + n) && decide (k = 7 * flN (S 2) (plN (S 2) n st) + S (6 + n)))) = true ↔ _
    rw [Bool.or_eq_true, ih, Bool.and_eq_true, decide_eq_true_iff]
    constructor
    · rintro (⟨f, h1, h2⟩ | ⟨h1, h2⟩)
      · exact ⟨f, by omega, h2⟩
      · exact ⟨n, by omega, h1, h2⟩
    · rintro ⟨f, h1, h2, h3⟩
      rcases (show f < n ∨ f = n by omega) with z | z
      · exact Or.inl ⟨f, z, h2, h3⟩
      · subst z; exact Or.inr ⟨h2, h3⟩
theorem pb_fl {h p : Nat} (hp : p < 2 * h) : pbN h (flN h p) (sdN h p) = p := by
  unfold pbN flN sdN
  by_cases h1 : p < h
  · rw [if_pos h1, if_pos h1, if_pos rfl]
  · rw [if_neg h1, if_neg h1, if_neg (by decide)]; omega
theorem fl_pb {h f s : Nat} (hf : f < h) : flN h (pbN h f s) = f := by
  unfold pbN flN
  by_cases h1 : s = 0
  · rw [if_pos h1, if_pos hf]
  · rw [if_neg h1, if_neg (by omega)]; omega
theorem sd_pb {h f s : Nat} (hf : f < h) (hs : s < 2) : sdN h (pbN h f s) = s := by
  unfold pbN sdN
  by_cases h1 : s = 0
  · rw [if_pos h1, if_pos hf, h1]
  · rw [if_neg h1, if_neg (by omega)]; omega
theorem ci_pl {h c s : Nat} (hh : 2 ≤ h ∧ h ≤ 6) (hc : c < 2 * h) : ciN h (plN h c s) s = c := by
  unfold ciN plN
  rcases (show h = 2 ∨ h = 3 ∨ h = 4 ∨ h = 5 ∨ h = 6 by omega) with rfl | rfl | rfl | rfl | rfl <;> omega
theorem pl_ci {h p s : Nat} (hh : 2 ≤ h ∧ h ≤ 6) (hp : p < 2 * h) : plN h (ciN h p s) s = p := by
  unfold ciN plN
  rcases (show h = 2 ∨ h = 3 ∨ h = 4 ∨ h = 5 ∨ h = 6 by omega) with rfl | rfl | rfl | rfl | rfl <;> omega
/-- a reference's move, as its loops make it -/
def moM (S : Nat → Nat) (A : Nat → Bool) (st mv f : Nat) : Nat → Bool := fun k => (decide (mv = 0) && A k) || ((decide (mv = 1) || decide (mv = 2)) && mm1 S A st (mv - 1) f k)
theorem mv_all {S : Nat → Nat} {A : Nat → Bool} {st mv : Nat} (hW : WF S) (hm : mv < 4) (k : Nat) : mvP S A st (2 ^ mv) (2 * S 2) k = (moM S A st mv (S 2) k || (decide (mv = 3) && mm3 S A st (2 * S 2) k)) := by
  have hh := hW.2.2.1
  rw [Bool.eq_iff_iff, mvP_iff]
  unfold moM
  rw [Bool.or_eq_true, Bool.or_eq_true, Bool.and_eq_true, Bool.and_eq_true, Bool.and_eq_true, Bool.or_eq_true, decide_eq_true_iff, decide_eq_true_iff, decide_eq_true_iff, decide_eq_true_iff, mm1_iff, mm3_iff]
  constructor
  · rintro (⟨h1, h2⟩ | ⟨p, hp, ⟨h1, h2, h3⟩ | ⟨h1, h2, h3⟩⟩)
    · exact Or.inl (Or.inl ⟨((bt_pw hm (by omega)).mp h1).symm, h2⟩)
    · have hs := sdN_lt (h := S 2) (p := p)
      have hz := (bt_pw hm (by omega)).mp h2
      refine Or.inl (Or.inr ⟨by omega, flN (S 2) p, flN_lt hp, h1, ?_⟩)
      rw [show mv - 1 = sdN (S 2) p by omega, pb_fl hp]
      exact h3
    · have hz := (bt_pw hm (by omega)).mp h2
      refine Or.inr ⟨hz.symm, ciN (S 2) p st, ciN_lt (by omega), h1, ?_⟩
      rw [pl_ci hh hp, Nat.mul_comm]
      exact h3
  · rintro ((⟨h1, h2⟩ | ⟨h1, f, hf, h2, h3⟩) | ⟨h1, c, hc, h2, h3⟩)
    · exact Or.inl ⟨(bt_pw hm (by omega)).mpr h1.symm, h2⟩
    · refine Or.inr ⟨pbN (S 2) f (mv - 1), pbN_lt hf, Or.inl ⟨?_, ?_, h3⟩⟩
      · rw [fl_pb hf]; exact h2
      · rw [sd_pb hf (by omega)]; exact (bt_pw hm (by omega)).mpr (by omega)
    · refine Or.inr ⟨plN (S 2) c st, plN_lt (by omega), Or.inr ?_⟩
      rw [ci_pl hh hc]
      exact ⟨h2, (bt_pw hm (by omega)).mpr h1.symm, by rw [Nat.mul_comm]; exact h3⟩
theorem mv_15 {S : Nat → Nat} {A : Nat → Bool} {st n : Nat} (k : Nat) : mvP S A st 15 n k = (((A k || mvP S A st (2 ^ 1) n k) || mvP S A st (2 ^ 2) n k) || mvP S A st (2 ^ 3) n k) := by
  have h0 : mvP S A st (2 ^ 0) n k = true ↔ A k = true := by
    rw [mvP_iff]
    constructor
    · rintro (⟨h1, h2⟩ | ⟨p, hp, ⟨h1, h2, h3⟩ | ⟨h1, h2, h3⟩⟩)
      · exact h2
      · have hs := sdN_lt (h := S 2) (p := p)
        have := (bt_pw (by omega) (by omega)).mp h2
        omega
      · have := (bt_pw (by omega) (by omega)).mp h2
        omega
    · intro h; exact Or.inl ⟨(bt_pw (by omega) (by omega)).mpr rfl, h⟩
  rw [Bool.eq_iff_iff, mv_un, Bool.or_eq_true, Bool.or_eq_true, Bool.or_eq_true]
  constructor
  · rintro ⟨q, hq, h⟩
    rcases (show q = 0 ∨ q = 1 ∨ q = 2 ∨ q = 3 by omega) with rfl | rfl | rfl | rfl
    · exact Or.inl (Or.inl (Or.inl (h0.mp h)))
    · exact Or.inl (Or.inl (Or.inr h))
    · exact Or.inl (Or.inr h)
    · exact Or.inr h
  · rintro (((h | h) | h) | h)
    · exact ⟨0, by omega, h0.mpr h⟩
    · exact ⟨1, by omega, h⟩
    · exact ⟨2, by omega, h⟩
    · exact ⟨3, by omega, h⟩
/-! TURNED OUT -/
def tuP (S : Nat → Nat) (A : Nat → Bool) (kk st : Nat) : Nat → Nat → Bool
  | 0 => A
  | c + 1 => fun q => if (A (42 + c) && trN (S 2) kk (plN (S 2) c st)) = true then (tuP S A kk st c q && !decide (q = 42 + c)) || decide (q = 7 * flN (S 2) (plN (S 2) c st) + S (6 + c)) else tuP S A kk st c q
theorem tuP_iff {S : Nat → Nat} {A : Nat → Bool} {kk st : Nat} (hW : WF S) (q : Nat) : ∀ n, n ≤ 2 * S 2 → (tuP S A kk st n q = true ↔ (A q = true ∧ ∀ c, c < n → trN (S 2) kk (plN (S 2) c st) = true → q ≠ 42 + c) ∨ ∃ c, c < n ∧ A (42 + c) = true ∧ trN (S 2) kk (plN (S 2) c st) = true ∧ q = 7 * flN (S 2) (plN (S 2) c st) + S (6 + c))
  | 0, _ => ⟨fun h => Or.inl ⟨h, fun c hc => absurd hc (Nat.not_lt_zero _)⟩, fun h => h.elim (fun z => z.1) (fun ⟨c, hc, _⟩ => absurd hc (Nat.not_lt_zero _))⟩
  | n + 1, hn => by
    have ih := tuP_iff (S := S) (A := A) (kk := kk) (st := st) hW q n (by omega)
    have hsp : ∀ c, c < 2 * S 2 → 7 * flN (S 2) (plN (S 2) c st) + S (6 + c) < 42 := fun c hc => by
      have h1 := hW.2.2.2.2.2.2.1 c hc
      have h2 := hW.2.2.1
      have h3 : flN (S 2) (plN (S 2) c st) < S 2 := flN_lt (plN_lt (by omega))
      omega
    show (if (A (42 + n) && trN (S 2) kk (plN (S 2) n st)) = true then (tuP S A kk st n q && !decide (q = 42 + n)) || decide (q = 7 * flN (S 2) (plN (S 2) n st) + S (6 + n)) else tuP S A kk st n q) = true ↔ _
    by_cases hc : (A (42 + n) && trN (S 2) kk (plN (S 2) n st)) = true
    · rw [if_pos hc, Bool.or_eq_true, Bool.and_eq_true, ih, decide_eq_true_iff, Bool.not_eq_true', decide_eq_false_iff_not]
      rw [Bool.and_eq_true] at hc
      constructor
      · rintro (⟨⟨h1, h2⟩ | ⟨c, h1, h2⟩, h3⟩ | h)
        · refine Or.inl ⟨h1, fun c hcl ht => ?_⟩
          rcases (show c < n ∨ c = n by omega) with z | z
          · exact h2 c z ht
          · rw [z]; exact h3
        · exact Or.inr ⟨c, by omega, h2⟩
        · exact Or.inr ⟨n, by omega, hc.1, hc.2, h⟩
      · rintro (⟨h1, h2⟩ | ⟨c, h1, h2, h3, h4⟩)
        · exact Or.inl ⟨Or.inl ⟨h1, fun c hcl ht => h2 c (by omega) ht⟩, h2 n (by omega) hc.2⟩
        · rcases (show c < n ∨ c = n by omega) with z | z
          · exact Or.inl ⟨Or.inr ⟨c, z, h2, h3, h4⟩, by have := hsp c (by omega); omega⟩
          · subst z; exact Or.inr h4
    · rw [if_neg hc, ih]
      rw [Bool.and_eq_true] at hc
      constructor
      · rintro (⟨h1, h2⟩ | ⟨c, h1, h2⟩)
        · refine Or.inl ⟨h1, fun c hcl ht => ?_⟩
          rcases (show c < n ∨ c = n by omega) with z | z
          · exact h2 c z ht
          · intro hq
            subst z
            exact hc ⟨hq ▸ h1, ht⟩
        · exact Or.inr ⟨c, by omega, h2⟩
      · rintro (⟨h1, h2⟩ | ⟨c, h1, h2, h3, h4⟩)
        · exact Or.inl ⟨h1, fun c hcl ht => h2 c (by omega) ht⟩
        · rcases (show c < n ∨ c = n by omega) with z | z
          · exact Or.inr ⟨c, z, h2, h3, h4⟩
          · subst z; exact absurd ⟨h2, h3⟩ hc
theorem goA_iff {S : Nat → Nat} {A : Nat → Bool} {kk st : Nat} (hW : WF S) (q : Nat) : goA S A kk st q = true ↔ (A q = true ∧ ∀ p, p < 2 * S 2 → trN (S 2) kk p = true → q ≠ 42 + ciN (S 2) p st) ∨ ∃ p, p < 2 * S 2 ∧ A (42 + ciN (S 2) p st) = true ∧ trN (S 2) kk p = true ∧ q = flN (S 2) p * 7 + S (6 + ciN (S 2) p st) := by
  have hh := hW.2.2.1
  have hsp : ∀ p, p < 2 * S 2 → flN (S 2) p * 7 + S (6 + ciN (S 2) p st) < 42 := fun p hp => by
    have h1 := hW.2.2.2.2.2.2.1 _ (ciN_lt (h := S 2) (c := p) (s := st) (by omega))
    have h3 : flN (S 2) p < S 2 := flN_lt hp
    omega
  have hT : ∀ p, trN (S 2) kk p = true ↔ (p = 0 ∧ (kk = 1 ∨ kk = 4)) ∨ (p = S 2 ∧ kk = 1) := fun p => by unfold trN; rw [decide_eq_true_iff]
  unfold goA
  by_cases h1 : kk = 1
  · rw [if_pos h1, if_pos (Or.inl h1), toA_iff, toA_iff, toA_iff]
    have hne : ciN (S 2) 0 st ≠ ciN (S 2) (S 2) st := fun z => by
      have e1 := pl_ci (h := S 2) (p := 0) (s := st) hh (by omega)
      have e2 := pl_ci (h := S 2) (p := S 2) (s := st) hh (by omega)
      rw [z, e2] at e1
      omega
    have g0 := hsp 0 (by omega)
    have g1 := hsp (S 2) (by omega)
    constructor
    · rintro (⟨⟨a1, a2⟩ | ⟨a1, a2⟩, a3⟩ | ⟨⟨a1, a2⟩ | ⟨a1, a2⟩, a3⟩)
      · refine Or.inl ⟨a1, fun p hp ht => ?_⟩
        rcases (hT p).mp ht with ⟨z, -⟩ | ⟨z, -⟩
        · rw [z]; exact a2
        · rw [z]; exact a3
      · exact Or.inr ⟨0, by omega, a1, (hT 0).mpr (Or.inl ⟨rfl, Or.inl h1⟩), a2⟩
      · exact Or.inr ⟨S 2, by omega, a1, (hT _).mpr (Or.inr ⟨rfl, h1⟩), a3⟩
      · omega
    · rintro (⟨a1, a2⟩ | ⟨p, hp, a1, a2, a3⟩)
      · exact Or.inl ⟨Or.inl ⟨a1, a2 0 (by omega) ((hT 0).mpr (Or.inl ⟨rfl, Or.inl h1⟩))⟩, a2 (S 2) (by omega) ((hT _).mpr (Or.inr ⟨rfl, h1⟩))⟩
      · have g := hsp p hp
        rcases (hT p).mp a2 with ⟨z, -⟩ | ⟨z, -⟩
        · subst z
          exact Or.inl ⟨Or.inr ⟨a1, a3⟩, by omega⟩
        · subst z
          exact Or.inr ⟨Or.inl ⟨a1, by omega⟩, a3⟩
  · rw [if_neg h1]
    by_cases h4 : kk = 4
    · rw [if_pos (Or.inr h4), toA_iff]
      constructor
      · rintro (⟨a1, a2⟩ | ⟨a1, a2⟩)
        · refine Or.inl ⟨a1, fun p hp ht => ?_⟩
          rcases (hT p).mp ht with ⟨z, -⟩ | ⟨-, z⟩
          · rw [z]; exact a2
          · exact absurd z h1
        · exact Or.inr ⟨0, by omega, a1, (hT 0).mpr (Or.inl ⟨rfl, Or.inr h4⟩), a2⟩
      · rintro (⟨a1, a2⟩ | ⟨p, hp, a1, a2, a3⟩)
        · exact Or.inl ⟨a1, a2 0 (by omega) ((hT 0).mpr (Or.inl ⟨rfl, Or.inr h4⟩))⟩
        · rcases (hT p).mp a2 with ⟨z, -⟩ | ⟨-, z⟩
          · subst z; exact Or.inr ⟨a1, a3⟩
          · exact absurd z h1
    · have h14 : ¬ (kk = 1 ∨ kk = 4) := fun z => z.elim h1 h4
      have hN : ∀ p, ¬ trN (S 2) kk p = true := fun p ht => by
        rcases (hT p).mp ht with ⟨-, z⟩ | ⟨-, z⟩
        · exact h14 z
        · exact h1 z
      rw [if_neg h14]
      constructor
      · intro a; exact Or.inl ⟨a, fun p _ ht => absurd ht (hN p)⟩
      · rintro (⟨a1, -⟩ | ⟨p, -, -, a2, -⟩)
        · exact a1
        · exact absurd a2 (hN p)
theorem go_tu {S : Nat → Nat} {A : Nat → Bool} {kk st : Nat} (hW : WF S) (q : Nat) : goA S A kk st q = tuP S A kk st (2 * S 2) q := by
  have hh := hW.2.2.1
  rw [Bool.eq_iff_iff, goA_iff hW, tuP_iff hW q _ (Nat.le_refl _)]
  constructor
  · rintro (⟨a1, a2⟩ | ⟨p, hp, a1, a2, a3⟩)
    · refine Or.inl ⟨a1, fun c hc ht => ?_⟩
      have := a2 (plN (S 2) c st) (plN_lt (by omega)) ht
      rw [ci_pl hh hc] at this
      exact this
    · refine Or.inr ⟨ciN (S 2) p st, ciN_lt (by omega), a1, ?_, ?_⟩
      · rw [pl_ci hh hp]; exact a2
      · rw [pl_ci hh hp, Nat.mul_comm]; exact a3
  · rintro (⟨a1, a2⟩ | ⟨c, hc, a1, a2, a3⟩)
    · refine Or.inl ⟨a1, fun p hp ht => ?_⟩
      exact a2 (ciN (S 2) p st) (ciN_lt (by omega)) (by rw [pl_ci hh hp]; exact ht)
    · refine Or.inr ⟨plN (S 2) c st, plN_lt (by omega), ?_, a2, ?_⟩
      · rw [ci_pl hh hc]; exact a1
      · rw [ci_pl hh hc, Nat.mul_comm]; exact a3
/-! BITS as the reference asks for them -/
theorem BR.bitv {x : Int64} {A : Nat → Bool} {j : Nat} (h : BR x A) (hj : j < 54) : (x >>> ((nI j).toInt64 &&& 63)) &&& lN 1 = if A j = true then lN 1 else lN 0 := by
  have h0 := h.bit hj
  rw [lg_cmp_eq0] at h0
  cases hA : A j with
  | false => rw [if_neg (by decide)]; exact h0.mpr hA
  | true =>
    rw [if_pos rfl]
    apply Int64.toBitVec_inj.mp
    apply BitVec.eq_of_getLsbD_eq
    intro i hi
    by_cases hi0 : i = 0
    · subst hi0
      have e1 : (lN 1).toBitVec.getLsbD 0 = true := by decide
      rw [e1, Int64.toBitVec_and, BitVec.getLsbD_and, e1, Bool.and_true]
      have key : ∀ j : Fin 54, ((((nI j.val).toInt64 &&& 63) : Int64).toBitVec.smod 64).toNat = j.val := by decide +kernel
      have hk := key ⟨j, hj⟩
      dsimp only at hk
      rw [Int64.toBitVec_shiftRight]
      unfold BitVec.sshiftRight'
      rw [hk, BitVec.getLsbD_sshiftRight]
      have hx := h j
      rw [decide_eq_true hj, Bool.true_and, hA] at hx
      have h64 : j < 64 := by omega
      simp [h64]
      rw [← hx, BitVec.getLsbD_eq_getElem h64]
    · have e1 : (lN 1).toBitVec.getLsbD i = false := by
        have := BR.one (j := 0) (by decide) i
        rw [show lN (2 ^ 0) = lN 1 from rfl] at this
        rw [this]
        simp [hi0]
      rw [Int64.toBitVec_and, BitVec.getLsbD_and, e1, Bool.and_false]
theorem BR.bit1 {x : Int64} {A : Nat → Bool} {j : Nat} (h : BR x A) (hj : j < 54) : lg_cmp ((x >>> ((nI j).toInt64 &&& 63)) &&& lN 1) (lN 1) = 0 ↔ A j = true := by
  rw [h.bitv hj, lg_cmp_eq0]
  cases A j with
  | false => exact ⟨fun z => absurd z (by decide), fun z => by cases z⟩
  | true => exact ⟨fun _ => rfl, fun _ => rfl⟩
theorem BR.anyW {x : Int64} {A : Nat → Bool} {f : Nat} (h : BR x A) (hf : f < 6) : lg_cmp ((x >>> ((nI (7 * f)).toInt64 &&& 63)) &&& (127 : Int64)) (lN 0) = 0 ↔ stF A f = false := by
  have hb : ∀ i, i < 64 → ((x >>> ((nI (7 * f)).toInt64 &&& 63)) &&& (127 : Int64)).toBitVec.getLsbD i = (decide (i < 7) && A (f * 7 + i)) := by
    intro i hi
    have e1 : (127 : Int64).toBitVec.getLsbD i = decide (i < 7) := by
      have key : ∀ i : Fin 64, (127 : Int64).toBitVec.getLsbD i.val = decide (i.val < 7) := by decide +kernel
      exact key ⟨i, hi⟩
    rw [Int64.toBitVec_and, BitVec.getLsbD_and, e1]
    by_cases h7 : i < 7
    · rw [decide_eq_true h7, Bool.and_true, Bool.true_and]
      have key : ∀ f : Fin 6, ((((nI (7 * f.val)).toInt64 &&& 63) : Int64).toBitVec.smod 64).toNat = 7 * f.val := by decide +kernel
      have hk := key ⟨f, hf⟩
      dsimp only at hk
      rw [Int64.toBitVec_shiftRight]
      unfold BitVec.sshiftRight'
      rw [hk, BitVec.getLsbD_sshiftRight]
      have hx := h (7 * f + i)
      rw [decide_eq_true (show 7 * f + i < 54 by omega), Bool.true_and] at hx
      rw [if_pos (show 7 * f + i < 64 by omega), hx, decide_eq_false (show ¬ 64 ≤ i by omega), show 7 * f + i = f * 7 + i by omega]
      rfl
    · rw [decide_eq_false h7, Bool.and_false, Bool.false_and]
  rw [lg_cmp_eq0]
  constructor
  · intro hz
    cases hs : stF A f with
    | false => rfl
    | true =>
      obtain ⟨d, hd, hA⟩ := stF_iff.mp hs
      have := hb d (by omega)
      rw [hz, hA, decide_eq_true hd] at this
      have ez : (lN 0).toBitVec.getLsbD d = false := by have := BR.zero d; rw [this]; simp
      rw [ez] at this
      cases this
  · intro hs
    apply Int64.toBitVec_inj.mp
    apply BitVec.eq_of_getLsbD_eq
    intro i hi
    have ez : (lN 0).toBitVec.getLsbD i = false := by have := BR.zero i; rw [this]; simp
    rw [ez, hb i hi]
    by_cases h7 : i < 7
    · cases hA : A (f * 7 + i) with
      | false => rw [Bool.and_false]
      | true =>
        have := stF_iff.mpr ⟨i, h7, hA⟩
        rw [hs] at this
        cases this
    · rw [decide_eq_false h7, Bool.false_and]
