/-! PLAIN FACTS OF NUMBERS -/
theorem bm32 {x : Int} (h1 : -2147483648 ≤ x) (h2 : x < 2147483648) : x.bmod (2 ^ 32) = x := by
  show x.bmod 4294967296 = x
  unfold Int.bmod
  dsimp only
  split <;> omega
theorem i32_neg (x : Int32) : x < 0 ↔ x.toBitVec.msb = true := by
  rw [Int32.lt_iff_toInt_lt, BitVec.msb_eq_toInt, decide_eq_true_iff]
  rfl
theorem i32_xor_neg (x y : Int32) : (x ^^^ y < 0) ↔ ((x < 0) ↔ ¬ (y < 0)) := by
  rw [i32_neg, i32_neg, i32_neg, Int32.toBitVec_xor, BitVec.msb_xor]
  cases x.toBitVec.msb <;> cases y.toBitVec.msb <;> simp
theorem i32_le0 (x : Int32) : 0 ≤ x ↔ ¬ x < 0 := by rw [Int32.not_lt]
/-- what is left over of a number that may be below 0 -/
theorem irem_neg {u v : Int32} {q n : Nat} (hu : u.toInt = -(q : Int)) (hv : v.toInt = n) (hq : q < 2 ^ 31) (hn : 0 < n) (hn2 : n < 2 ^ 31) : (u - u / v * v).toInt = -((q % n : Nat) : Int) := by
  have h1 : (u / v).toInt = -((q / n : Nat) : Int) := by
    rw [Int32.toInt_div, hu, hv, Int.neg_tdiv]
    have : (q : Int).tdiv (n : Int) = ((q / n : Nat) : Int) := by rw [Int.tdiv_eq_ediv_of_nonneg (by omega)]; rfl
    rw [this]
    have hz := Nat.div_le_self q n
    generalize q / n = z at hz ⊢
    exact bm32 (by omega) (by omega)
  have hm : q / n * n ≤ q := Nat.div_mul_le_self q n
  have h2 : (u / v * v).toInt = -((q / n * n : Nat) : Int) := by
    rw [Int32.toInt_mul, h1, hv]
    have : -((q / n : Nat) : Int) * (n : Int) = -((q / n * n : Nat) : Int) := by rw [Int.neg_mul]; rfl
    rw [this]
    generalize q / n * n = z at hm ⊢
    exact bm32 (by omega) (by omega)
  have h3 : q % n = q - q / n * n := by
    have := Nat.mod_add_div q n
    rw [Nat.mul_comm] at this
    omega
  rw [Int32.toInt_sub, hu, h2, h3]
  rw [bm32 (by omega) (by omega)]
  omega
theorem toInt_nI {u : Int32} {n : Nat} (h : u.toInt = n) : u = nI n := by
  have hb := Int32.toInt_lt u
  apply Int32.toInt_inj.mp
  rw [h, nI_toInt (by omega)]
theorem emodN {X : Int} {n : Nat} (hn : 0 < n) : 0 ≤ X % n ∧ X % n < n := ⟨Int.emod_nonneg _ (by omega), Int.emod_lt_of_pos _ (by omega)⟩
theorem emod_neg {q n : Nat} (hn : 0 < n) : ((-(q : Int)) % (n : Int)).toNat = if q % n = 0 then 0 else n - q % n := by
  have h1 : (q : Int) = n * (q / n : Nat) + (q % n : Nat) := by exact_mod_cast (Nat.div_add_mod q n).symm
  have hlt := Nat.mod_lt q hn
  split
  · rename_i h
    have : (-(q : Int)) % n = 0 := by
      apply Int.emod_eq_zero_of_dvd
      refine ⟨-(q / n : Nat), ?_⟩
      rw [Int.mul_neg, ← Int.neg_inj, Int.neg_neg, Int.neg_neg]
      omega
    omega
  · rename_i h
    have e : -(q : Int) = (n - q % n : Nat) + n * (-(q / n : Nat) - 1) := by
      rw [Int.mul_sub, Int.mul_neg]
      omega
    rw [e, Int.add_mul_emod_self_left, Int.emod_eq_of_lt (by omega) (by omega)]
    omega
def flN (h p : Nat) : Nat := if p < h then p else 2 * h - 1 - p
def sdN (h p : Nat) : Nat := if p < h then 0 else 1
def pbN (h f s : Nat) : Nat := if s = 0 then f else 2 * h - 1 - f
def plN (h c s : Nat) : Nat := (c + s) % (2 * h)
def ciN (h p s : Nat) : Nat := (p + (2 * h - s % (2 * h))) % (2 * h)
theorem ciN_emod {h p s : Nat} (hh : 0 < h) : (((p : Int) - (s : Int)) % ((2 * h : Nat) : Int)).toNat = ciN h p s := by
  unfold ciN
  have hs : (s : Int) = (2 * h : Nat) * (s / (2 * h) : Nat) + (s % (2 * h) : Nat) := by exact_mod_cast (Nat.div_add_mod s (2 * h)).symm
  have hlt := Nat.mod_lt s (show 0 < 2 * h by omega)
  have e : (p : Int) - s = ((p + (2 * h - s % (2 * h)) : Nat) : Int) + (2 * h : Nat) * (-(s / (2 * h) : Nat) - 1) := by
    rw [Int.mul_sub, Int.mul_neg]
    omega
  rw [e, Int.add_mul_emod_self_left]
  have : (((p + (2 * h - s % (2 * h)) : Nat) : Int) % ((2 * h : Nat) : Int)) = (((p + (2 * h - s % (2 * h))) % (2 * h) : Nat) : Int) := by rfl
  rw [this]
  rfl
theorem fm_key {u v : Int32} {X : Int} {n : Nat} (hu : u.toInt = X) (hv : NF v n) (hX : -2147483648 < X) (hn : 0 < n ∧ n < 2 ^ 31) : (0 ≤ X ∧ u - u / v * v = nI (X % (n : Int)).toNat ∧ ¬ u < 0) ∨ (X < 0 ∧ u < 0 ∧ ∃ q : Nat, q < n ∧ (u - u / v * v).toInt = -(q : Int) ∧ (X % (n : Int)).toNat = if q = 0 then 0 else n - q) := by
  have hvt : v.toInt = (n : Int) := by rw [hv]; exact nI_toInt hn.2
  rcases Int.lt_or_le X 0 with hx | hx
  · right
    obtain ⟨q, rfl⟩ : ∃ q : Nat, X = -(q : Int) := ⟨X.natAbs, by omega⟩
    exact ⟨hx, by rw [Int32.lt_iff_toInt_lt, hu]; exact hx, q % n, Nat.mod_lt _ hn.1, irem_neg hu hvt (by omega) hn.1 hn.2, emod_neg hn.1⟩
  · left
    obtain ⟨q, rfl⟩ : ∃ q : Nat, X = (q : Int) := ⟨X.natAbs, by omega⟩
    have huq : u = nI q := toInt_nI hu
    have hq : q < 2 ^ 31 := by have := Int32.toInt_lt u; omega
    refine ⟨hx, ?_, by rw [huq]; exact nI_pos hq⟩
    rw [huq, hv, pk_rem hq hn.1 hn.2]
    rfl
theorem fm_xor {u v : Int32} {n : Nat} (hv : NF v n) (hn : n < 2 ^ 31) : 0 ≤ u ^^^ v ↔ ¬ u < 0 := by
  have hvn : ¬ v < 0 := by rw [hv]; exact nI_pos hn
  rw [i32_le0, i32_xor_neg]
  simp [hvn]
theorem fm_a {u v : Int32} {X : Int} {n : Nat} (hu : u.toInt = X) (hv : NF v n) (hX : -2147483648 < X) (hn : 0 < n ∧ n < 2 ^ 31) (c7 : ¬ 0 ≤ u ^^^ v) (c11 : ¬ u - u / v * v = 0) : u - u / v * v + v = nI (X % (n : Int)).toNat := by
  have hvt : v.toInt = (n : Int) := by rw [hv]; exact nI_toInt hn.2
  rw [fm_xor hv hn.2] at c7
  rcases fm_key hu hv hX hn with ⟨k1, k2, k3⟩ | ⟨k1, k2, q, k3, k4, k5⟩
  · exact absurd k3 c7
  · have hq0 : q ≠ 0 := fun z => c11 (by apply Int32.toInt_inj.mp; rw [k4, z]; rfl)
    rw [k5, if_neg hq0]
    apply Int32.toInt_inj.mp
    rw [Int32.toInt_add, k4, hvt, nI_toInt (by omega), bm32 (by omega) (by omega)]
    omega
theorem fm_b {u v : Int32} {X : Int} {n : Nat} (hu : u.toInt = X) (hv : NF v n) (hX : -2147483648 < X) (hn : 0 < n ∧ n < 2 ^ 31) (c : 0 ≤ u ^^^ v ∨ u - u / v * v = 0) : u - u / v * v = nI (X % (n : Int)).toNat := by
  rw [fm_xor hv hn.2] at c
  rcases fm_key hu hv hX hn with ⟨k1, k2, k3⟩ | ⟨k1, k2, q, k3, k4, k5⟩
  · exact k2
  · rcases c with c | c
    · exact absurd k2 c
    · have hq0 : q = 0 := by
        rw [c] at k4
        have : (0 : Int32).toInt = 0 := by decide
        omega
      rw [k5, if_pos hq0, c]
      rfl
