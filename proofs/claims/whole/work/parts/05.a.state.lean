/-! THE STATE, for class and reference alike. S 0 PEOPLE, 1 STEPS, 2 HIGH, 3 LIMIT, 4 NOON, 5 DRAW, 6+k the day of car k; of person p from 18+6p on: kind, weight, floor, car+1 (0: none), day, lunches. -/
def WF (S : Nat → Nat) : Prop := S 0 ≤ 6 ∧ S 1 ≤ 10100 ∧ (2 ≤ S 2 ∧ S 2 ≤ 6) ∧ (1 ≤ S 3 ∧ S 3 ≤ 60) ∧ (2 ≤ S 4 ∧ S 4 ≤ 24) ∧ S 5 < 2147483648 ∧ (∀ k, k < 2 * S 2 → S (6 + k) < 7) ∧ ∀ p, p < S 0 → S (18 + 6 * p) < 5 ∧ (1 ≤ S (19 + 6 * p) ∧ S (19 + 6 * p) ≤ 9) ∧ S (20 + 6 * p) < S 2 ∧ S (21 + 6 * p) ≤ 2 * S 2 ∧ S (22 + 6 * p) < 7 ∧ S (23 + 6 * p) ≤ S 1
def eN (k v : Nat) : Int32 := if 18 ≤ k ∧ k % 6 = 3 then carI v else nI v
theorem eN_lo {k v : Nat} (h : k < 18) : eN k v = nI v := by unfold eN; rw [if_neg (by omega)]
theorem eN_car {p v : Nat} : eN (18 + 6 * p + 3) v = carI v := by unfold eN; rw [if_pos (by omega)]
theorem eN_per {p j v : Nat} (h : j < 6) (h3 : j ≠ 3) : eN (18 + 6 * p + j) v = nI v := by unfold eN; rw [if_neg (by omega)]
/-- the reference's row of numbers -/
def NowR (Mi : MI) (a : Nat) (S : Nat → Nat) : Prop := ∀ k, k < 54 → Mi a k = eN k (S k)
section NowL
variable {Mi : MI} {a p k : Nat} {S : Nat → Nat}
theorem NowR.n0 (h : NowR Mi a S) : Mi a 0 = nI (S 0) := h 0 (by decide)
theorem NowR.n1 (h : NowR Mi a S) : Mi a 1 = nI (S 1) := h 1 (by decide)
theorem NowR.n2 (h : NowR Mi a S) : Mi a 2 = nI (S 2) := h 2 (by decide)
theorem NowR.n3 (h : NowR Mi a S) : Mi a 3 = nI (S 3) := h 3 (by decide)
theorem NowR.n4 (h : NowR Mi a S) : Mi a 4 = nI (S 4) := h 4 (by decide)
theorem NowR.n5 (h : NowR Mi a S) : Mi a 5 = nI (S 5) := h 5 (by decide)
theorem NowR.dy (h : NowR Mi a S) (hk : k < 12) : Mi a (6 + k) = nI (S (6 + k)) := by rw [h _ (by omega), eN_lo (by omega)]
theorem NowR.p0 (h : NowR Mi a S) (hp : p < 6) : Mi a (18 + 6 * p + 0) = nI (S (18 + 6 * p)) := by rw [h _ (by omega), eN_per (by omega) (by omega)]; rfl
theorem NowR.p1 (h : NowR Mi a S) (hp : p < 6) : Mi a (18 + 6 * p + 1) = nI (S (19 + 6 * p)) := by rw [h _ (by omega), eN_per (by omega) (by omega), show 18 + 6 * p + 1 = 19 + 6 * p by omega]
theorem NowR.p2 (h : NowR Mi a S) (hp : p < 6) : Mi a (18 + 6 * p + 2) = nI (S (20 + 6 * p)) := by rw [h _ (by omega), eN_per (by omega) (by omega), show 18 + 6 * p + 2 = 20 + 6 * p by omega]
theorem NowR.p3 (h : NowR Mi a S) (hp : p < 6) : Mi a (18 + 6 * p + 3) = carI (S (21 + 6 * p)) := by rw [h _ (by omega), eN_car, show 18 + 6 * p + 3 = 21 + 6 * p by omega]
theorem NowR.p4 (h : NowR Mi a S) (hp : p < 6) : Mi a (18 + 6 * p + 4) = nI (S (22 + 6 * p)) := by rw [h _ (by omega), eN_per (by omega) (by omega), show 18 + 6 * p + 4 = 22 + 6 * p by omega]
theorem NowR.p5 (h : NowR Mi a S) (hp : p < 6) : Mi a (18 + 6 * p + 5) = nI (S (23 + 6 * p)) := by rw [h _ (by omega), eN_per (by omega) (by omega), show 18 + 6 * p + 5 = 23 + 6 * p by omega]
end NowL
/-- the class's own: a person, a scene, a block -/
def PerR (Mi : MI) (a : Nat) (S : Nat → Nat) (p : Nat) : Prop := Mi a 0 = nI (S (18 + 6 * p)) ∧ Mi a 1 = nI (S (19 + 6 * p)) ∧ Mi a 2 = nI (S (20 + 6 * p)) ∧ Mi a 3 = nI (S (22 + 6 * p)) ∧ Mi a 4 = carI (S (21 + 6 * p)) ∧ Mi a 5 = nI (S (23 + 6 * p))
def ScnR (Mi : MI) (A : Nat) (S : Nat → Nat) : Prop := Mi A 1 = nI (S 0) ∧ Mi A 2 = nI (S 1) ∧ Mi A 3 = nI (S 5) ∧ ∀ p, p < S 0 → PerR Mi (A + 2 + p) S p
def BlkR (Mi : MI) (B : Nat) (S : Nat → Nat) : Prop := Mi B 0 = nI (S 2) ∧ Mi B 1 = nI (S 3) ∧ Mi B 2 = nI (S 4) ∧ ∀ k, k < 2 * S 2 → Mi (B + 1) k = nI (S (6 + k))
/-- what never changes of them -/
def BlkS (g : GT) (T : TT) (B : Nat) : Prop := KD g T B 1 ∧ AR g T (B + 1) 12 12 ∧ T.2.2 B 3 = some (B + 1)
def ScnS (g : GT) (T : TT) (A : Nat) : Prop := KD g T A 5 ∧ AR g T (A + 1) 14 6 ∧ T.2.2 A 0 = some (A + 1) ∧ (∀ p, p < 6 → KD g T (A + 2 + p) 4) ∧ ∀ p, p < 6 → T.2.2 (A + 1) p = some (A + 2 + p)
def HisS (g : GT) (T : TT) (A : Nat) : Prop := KD g T A 3 ∧ AR g T (A + 1) 15 8 ∧ T.2.2 A 0 = some (A + 1) ∧ (∀ k, k < 8 → ScnS g T (A + 2 + 8 * k)) ∧ ∀ k, k < 8 → T.2.2 (A + 1) k = some (A + 2 + 8 * k)
def BltS (g : GT) (T : TT) (A : Nat) : Prop := KD g T A 0 ∧ T.2.2 A 0 = some (A + 1) ∧ T.2.2 A 1 = some (A + 3) ∧ T.2.2 A 2 = some (A + 11) ∧ BlkS g T (A + 1) ∧ ScnS g T (A + 3) ∧ HisS g T (A + 11)
def ModS (g : GT) (T : TT) (Y : Nat) : Prop := KD g T Y 11 ∧ (T.2.2 Y 0 = some (Y + 1) ∧ AR g T (Y + 1) 12 54) ∧ (T.2.2 Y 1 = some (Y + 2) ∧ AR g T (Y + 2) 12 60) ∧ (T.2.2 Y 5 = some (Y + 3) ∧ AR g T (Y + 3) 12 12) ∧ (T.2.2 Y 6 = some (Y + 4) ∧ AR g T (Y + 4) 12 24) ∧ (T.2.2 Y 7 = some (Y + 5) ∧ AR g T (Y + 5) 12 432) ∧ (T.2.2 Y 9 = some (Y + 6) ∧ AR g T (Y + 6) 12 486) ∧ (T.2.2 Y 12 = some (Y + 7) ∧ AR g T (Y + 7) 12 4) ∧ (T.2.2 Y 13 = some (Y + 8) ∧ AR g T (Y + 8) 12 4) ∧ (T.2.2 Y 14 = some (Y + 9) ∧ AR g T (Y + 9) 13 96) ∧ (T.2.2 Y 15 = some (Y + 10) ∧ AR g T (Y + 10) 13 24) ∧ (T.2.2 Y 16 = some (Y + 11) ∧ AR g T (Y + 11) 12 54)
/-! what is asked of it -/
def tmN (k : Nat) : Nat := if k = 2 ∨ k = 3 then 2 else 1
def wgN (S : Nat → Nat) (p : Nat) : Nat := S (19 + 6 * p) * tmN (S (18 + 6 * p))
/-- LOAD of a car, of the first n people -/
def ldN (S : Nat → Nat) (c : Nat) : Nat → Nat
  | 0 => 0
  | p + 1 => ldN S c p + (if S (21 + 6 * p) = c + 1 then wgN S p else 0)
/-- a set, of the first n -/
def stN (f : Nat → Bool) : Nat → Nat
  | 0 => 0
  | p + 1 => stN f p + (if f p then 2 ^ p else 0)
theorem stN_lt (f : Nat → Bool) : ∀ n, stN f n < 2 ^ n
  | 0 => by simp [stN]
  | n + 1 => by
    have := stN_lt f n
    unfold stN
    rw [Nat.pow_succ]
    split <;> omega
theorem tmN_le (k : Nat) : tmN k = 1 ∨ tmN k = 2 := by unfold tmN; split <;> simp
theorem wgN_le {S : Nat → Nat} (h : WF S) {p : Nat} (hp : p < S 0) : wgN S p ≤ 18 := by
  have := (h.2.2.2.2.2.2.2 p hp).2.1
  unfold wgN
  rcases tmN_le (S (18 + 6 * p)) with e | e <;> rw [e] <;> omega
theorem ldN_le {S : Nat → Nat} (h : WF S) (c : Nat) : ∀ n, n ≤ S 0 → ldN S c n ≤ 18 * n
  | 0, _ => by simp [ldN]
  | n + 1, hn => by
    have h1 := ldN_le h c n (by omega)
    have h2 := wgN_le h (show n < S 0 by omega)
    unfold ldN
    split <;> omega
theorem nI_or {a p : Nat} (ha : a < 2 ^ p) (hp : p < 31) : nI a ||| (nI 1 <<< (nI p &&& 31)) = nI (a + 2 ^ p) := by
  have e1 : nI p &&& 31 = nI p := by
    have : ∀ q : Fin 31, nI q.val &&& 31 = nI q.val := by decide +kernel
    exact this ⟨p, hp⟩
  have e2 : ∀ q : Fin 31, nI 1 <<< nI q.val = nI (2 ^ q.val) := by decide +kernel
  rw [e1, e2 ⟨p, hp⟩]
  apply Int32.toBitVec_inj.mp
  rw [Int32.toBitVec_or]
  show BitVec.ofNat 32 a ||| BitVec.ofNat 32 (2 ^ p) = BitVec.ofNat 32 (a + 2 ^ p)
  apply BitVec.eq_of_toNat_eq
  have hp2 : 2 ^ p < 2 ^ 31 := Nat.pow_lt_pow_right (by decide) hp
  rw [BitVec.toNat_or, BitVec.toNat_ofNat, BitVec.toNat_ofNat, BitVec.toNat_ofNat, Nat.mod_eq_of_lt (by omega), Nat.mod_eq_of_lt (by omega), Nat.mod_eq_of_lt (by omega)]
  rw [Nat.or_comm]
  have := Nat.two_pow_add_eq_or_of_lt ha 1
  rw [Nat.mul_one] at this
  omega
/-- a number from lo on, below n -/
def isB (v : Int32) (lo n : Nat) : Bool := decide ((lo : Int) ≤ v.toInt ∧ v.toInt < (n : Int))
theorem isB_t {v : Int32} {lo n : Nat} (h : isB v lo n = true) : ∃ j : Nat, NF v j ∧ lo ≤ j ∧ j < n := by
  unfold isB at h
  rw [decide_eq_true_iff] at h
  refine ⟨v.toInt.toNat, toInt_nI (by omega), by omega, by omega⟩
theorem isB_nI {j lo n : Nat} (hj : j < 2 ^ 31) : isB (nI j) lo n = decide (lo ≤ j ∧ j < n) := by
  unfold isB
  rw [nI_toInt hj]
  apply decide_eq_decide.mpr
  omega
theorem isB_f {v : Int32} {lo n : Nat} (h : isB v lo n = false) : ¬ ((lo : Int) ≤ v.toInt ∧ v.toInt < (n : Int)) := by
  unfold isB at h
  exact of_decide_eq_false h
theorem b_lo {n : Nat} (h : n < 2 ^ 31) : (nI n).toInt + 1 = ((n + 1 : Nat) : Int) := by rw [nI_toInt h]; omega
theorem b_pr {n : Nat} (h : n < 2 ^ 30) : (nI n - nI 1).toInt + 1 = (n : Int) := by rw [pk_sub_toInt h (by decide)]; omega
theorem b_pr' {n : Nat} (h : n < 2 ^ 30) (h0 : 0 < n) : (nI (n - 1)).toInt + 1 = (n : Int) := by rw [nI_toInt (by omega)]; omega
theorem l_i (x : Int32) : x.toInt64.toInt = x.toInt := Int32.toInt_toInt64 x
theorem nI_or0 (a : Nat) : nI a ||| nI 0 = nI a := by
  apply Int32.toBitVec_inj.mp
  rw [Int32.toBitVec_or]
  show BitVec.ofNat 32 a ||| 0#32 = BitVec.ofNat 32 a
  simp
/-- the kinds, as the enum has them -/
theorem nbE {k : Nat} (h : k < 5) : ([0, 1, 2, 3, 4] : List Int32).getD k 0 = nI k := by
  rcases (show k = 0 ∨ k = 1 ∨ k = 2 ∨ k = 3 ∨ k = 4 by omega) with rfl | rfl | rfl | rfl | rfl <;> decide
theorem tmE {k : Nat} (h : k < 5) : ([1, 1, 2, 2, 1] : List Int32).getD k 0 = nI (tmN k) := by
  rcases (show k = 0 ∨ k = 1 ∨ k = 2 ∨ k = 3 ∨ k = 4 by omega) with rfl | rfl | rfl | rfl | rfl <;> decide
theorem alE {k : Nat} (h : k < 5) : ([0, 0, 0, 1, 0] : List Int32).getD k 0 = bI (decide (k = 3)) := by
  rcases (show k = 0 ∨ k = 1 ∨ k = 2 ∨ k = 3 ∨ k = 4 by omega) with rfl | rfl | rfl | rfl | rfl <;> decide
theorem oaE {k : Nat} (h : k < 5) : ([0, 1, 0, 0, 0] : List Int32).getD k 0 = bI (decide (k = 1)) := by
  rcases (show k = 0 ∨ k = 1 ∨ k = 2 ∨ k = 3 ∨ k = 4 by omega) with rfl | rfl | rfl | rfl | rfl <;> decide
theorem obE {k : Nat} (h : k < 5) : ([0, 1, 0, 0, 1] : List Int32).getD k 0 = bI (decide (k = 1 ∨ k = 4)) := by
  rcases (show k = 0 ∨ k = 1 ∨ k = 2 ∨ k = 3 ∨ k = 4 by omega) with rfl | rfl | rfl | rfl | rfl <;> decide
