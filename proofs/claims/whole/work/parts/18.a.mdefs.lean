def MFr (Mi Mi' : MI) (Y : Nat) : Prop := (∀ a, a ≠ Y → a ≠ Y + 1 → a ≠ Y + 5 → Mi' a = Mi a) ∧ ∀ q, q ≠ 8 → Mi' Y q = Mi Y q
theorem MFr.rf (Mi : MI) (Y : Nat) : MFr Mi Mi Y := ⟨fun _ _ _ _ => rfl, fun _ _ => rfl⟩
theorem MFr.tr {Mi Mi' Mi'' : MI} {Y : Nat} (h1 : MFr Mi Mi' Y) (h2 : MFr Mi' Mi'' Y) : MFr Mi Mi'' Y := ⟨fun a a1 a2 a3 => by rw [h2.1 a a1 a2 a3, h1.1 a a1 a2 a3], fun q hq => by rw [h2.2 q hq, h1.2 q hq]⟩
def MKep (Mi : MI) (Y : Nat) (kS : Nat → Nat) (kU : Nat → Nat → Nat) (ku : Nat) (ik : Bool) : Prop := Mi Y 11 = bI ik ∧ (ik = true → Mi Y 10 = nI ku ∧ ku ≤ 8 ∧ (∀ k, k < 54 → Mi (Y + 6) k = eN k (kS k)) ∧ ∀ j, j < ku → ∀ k, k < 54 → Mi (Y + 6) (54 + (54 * j + k)) = eN k (kU j k))
theorem lN_mask (a : Nat) : lN a &&& (2147483647 : Int64) = lN (a % 2147483648) := by
  apply Int64.toBitVec_inj.mp
  rw [Int64.toBitVec_and]
  show BitVec.ofNat 64 a &&& BitVec.ofNat 64 2147483647 = BitVec.ofNat 64 (a % 2147483648)
  apply BitVec.eq_of_toNat_eq
  rw [BitVec.toNat_and, BitVec.toNat_ofNat, BitVec.toNat_ofNat, BitVec.toNat_ofNat]
  have h1 : (2147483647 % 2 ^ 64) = 2 ^ 31 - 1 := by decide
  rw [h1, Nat.and_two_pow_sub_one_eq_mod]
  omega
theorem l_dr {a : Nat} (h : a < 2 ^ 31) : (((nI a).toInt64 * 1103515245 + 12345) &&& 2147483647 : Int64).toInt32 = nI (drN a) := by
  have e1 : (1103515245 : Int64) = lN 1103515245 := by decide
  have e2 : (12345 : Int64) = lN 12345 := by decide
  rw [nI_l h, e1, e2, lN_mul, lN_add, lN_mask, lN_i]
  unfold drN
  rfl
def clN (q : Nat) : Nat := q &&& (q - 1)
theorem clE {q : Nat} (h : q < 64) (h0 : 0 < q) : nI q &&& nI (q - 1) = nI (clN q) ∧ pcN (clN q) + 1 = pcN q ∧ clN q < q := by
  have : ∀ z : Fin 64, 0 < z.val → nI z.val &&& nI (z.val - 1) = nI (clN z.val) ∧ pcN (clN z.val) + 1 = pcN z.val ∧ clN z.val < z.val := by decide +kernel
  exact this ⟨q, h⟩ h0
