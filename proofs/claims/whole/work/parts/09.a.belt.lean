/-! THE BELT, THE CLASS -/
def BltR (Mi : MI) (B : Nat) (S : Nat → Nat) (R : Nat → Nat → Nat) (u nx : Nat) : Prop := BlkR Mi (B + 1) S ∧ ScnR Mi (B + 3) S ∧ HisR Mi (B + 11) R u nx
theorem BltR.fr {Mi Mi' : MI} {B u nx : Nat} {S : Nat → Nat} {R : Nat → Nat → Nat} (h : BltR Mi B S R u nx) (h6 : S 0 ≤ 6) (e : ∀ a, B ≤ a → a < B + 77 → Mi' a = Mi a) : BltR Mi' B S R u nx :=
  ⟨h.1.fr (e _ (by omega) (by omega)) (e _ (by omega) (by omega)), h.2.1.fr h6 (fun a h1 h2 => e a (by omega) (by omega)), h.2.2.fr (fun a h1 h2 => e a (by omega) (by omega))⟩
def DayS (g : GT) (T : TT) (X : Nat) : Prop := KD g T X 10 ∧ (T.2.2 X 0 = some (X + 1) ∧ BltS g T (X + 1)) ∧ (T.2.2 X 1 = some (X + 78) ∧ BltS g T (X + 78)) ∧ (T.2.2 X 3 = some (X + 155) ∧ KD g T (X + 155) 7 ∧ T.2.2 (X + 155) 0 = some (X + 156) ∧ AR g T (X + 156) 12 60) ∧
  (T.2.2 X 4 = some (X + 157) ∧ KD g T (X + 157) 2 ∧ T.2.2 (X + 157) 0 = some (X + 158) ∧ T.2.2 (X + 157) 1 = some (X + 160) ∧ BlkS g T (X + 158) ∧ ScnS g T (X + 160)) ∧ (T.2.2 X 5 = some (X + 168) ∧ ScnS g T (X + 168)) ∧
  (T.2.2 X 6 = some (X + 176) ∧ KD g T (X + 176) 8 ∧ T.2.2 (X + 176) 0 = some (X + 177) ∧ BlkS g T (X + 177)) ∧ (T.2.2 X 7 = some (X + 179) ∧ KD g T (X + 179) 8 ∧ T.2.2 (X + 179) 0 = some (X + 180) ∧ BlkS g T (X + 180)) ∧
  (T.2.2 X 8 = some (X + 182) ∧ KD g T (X + 182) 9 ∧ T.2.2 (X + 182) 0 = some (X + 183) ∧ AR g T (X + 183) 12 64 ∧ T.2.2 (X + 182) 1 = some (X + 184) ∧ AR g T (X + 184) 12 64) ∧
  (T.2.2 X 9 = some (X + 185) ∧ AR g T (X + 185) 16 4 ∧ (∀ s, s < 4 → T.2.2 (X + 185) s = some (X + 186 + 2 * s)) ∧ (∀ s, s < 4 → KD g T (X + 186 + 2 * s) 6) ∧ (∀ s, s < 4 → T.2.2 (X + 186 + 2 * s) 0 = some (X + 187 + 2 * s)) ∧ ∀ s, s < 4 → AR g T (X + 187 + 2 * s) 13 24)
/-- bits of a small set -/
def pcN (n : Nat) : Nat := n % 2 + n / 2 % 2 + n / 4 % 2 + n / 8 % 2 + n / 16 % 2 + n / 32 % 2
def us (a b : Int32) : Int32 := (a.toUInt32 >>> (b.toUInt32 &&& Int32.toUInt32 31)).toInt32
def bcX (v : Int32) : Int32 :=
  let a := v - (us v (nI 1) &&& 1431655765)
  let b := (a &&& 858993459) + (us a (nI 2) &&& 858993459)
  let c := (b + us b (nI 4)) &&& 252645135
  let d := c + us c (nI 8)
  let e := d + us d (nI 16)
  e &&& nI 63
theorem bcE {n : Nat} (h : n < 64) : bcX (nI n) = nI (pcN n) := by
  have : ∀ q : Fin 64, bcX (nI q.val) = nI (pcN q.val) := by decide +kernel
  exact this ⟨n, h⟩
theorem pcN_le (n : Nat) : pcN n ≤ 6 := by unfold pcN; omega
/-! THE DRAW -/
def drN (d : Nat) : Nat := (d * 1103515245 + 12345) % 2147483648
def dwS (S : Nat → Nat) : Nat → Nat := fun j => if j = 5 then drN (S 5) else S j
def rdN (S : Nat → Nat) : Nat := stN (fun p => decide (S (21 + 6 * p) ≠ 0)) (S 0)
def stB (S : Nat → Nat) : Bool := decide (drN (S 5) / 65536 % 12 < pcN (rdN S))
def dS (S : Nat → Nat) : Nat → Nat := if stB S = true then dwS S else goS (dwS S)
theorem NF_l1 : NF (1103515245 : Int32) 1103515245 := by unfold NF; decide
theorem NF_l2 : NF (65536 : Int32) 65536 := by unfold NF; decide
theorem NF_l3 : NF (1000000 : Int32) 1000000 := by unfold NF; decide
theorem nI_mask (a : Nat) : nI a &&& (2147483647 : Int32) = nI (a % 2147483648) := by
  apply Int32.toBitVec_inj.mp
  rw [Int32.toBitVec_and]
  show BitVec.ofNat 32 a &&& BitVec.ofNat 32 2147483647 = BitVec.ofNat 32 (a % 2147483648)
  apply BitVec.eq_of_toNat_eq
  rw [BitVec.toNat_and, BitVec.toNat_ofNat, BitVec.toNat_ofNat, BitVec.toNat_ofNat]
  have h1 : (2147483647 % 2 ^ 32) = 2 ^ 31 - 1 := by decide
  rw [h1, Nat.and_two_pow_sub_one_eq_mod]
  omega
theorem dwS_o {S : Nat → Nat} {j : Nat} (h : j ≠ 5) : dwS S j = S j := by unfold dwS; rw [if_neg h]
theorem dwS_5 {S : Nat → Nat} : dwS S 5 = drN (S 5) := by unfold dwS; rw [if_pos rfl]
theorem drN_lt (d : Nat) : drN d < 2147483648 := Nat.mod_lt _ (by decide)
theorem dwS_WF {S : Nat → Nat} (hW : WF S) : WF (dwS S) := by
  obtain ⟨w0, w1, w2, w3, w4, w5, w6, w7⟩ := hW
  unfold WF
  rw [dwS_5, dwS_o (show 0 ≠ 5 by decide), dwS_o (show 1 ≠ 5 by decide), dwS_o (show 2 ≠ 5 by decide), dwS_o (show 3 ≠ 5 by decide), dwS_o (show 4 ≠ 5 by decide)]
  refine ⟨w0, w1, w2, w3, w4, drN_lt _, fun k hk => by rw [dwS_o (by omega)]; exact w6 k hk, fun p hp => ?_⟩
  rw [dwS_o (by omega), dwS_o (by omega), dwS_o (by omega), dwS_o (by omega), dwS_o (by omega), dwS_o (by omega)]
  exact w7 p hp
theorem rdN_lt {S : Nat → Nat} (hW : WF S) : rdN S < 64 := Nat.lt_of_lt_of_le (stN_lt _ _) (Nat.pow_le_pow_right (by decide) hW.1)
/-- a block read -/
def beS (S S2 : Nat → Nat) : Nat → Nat := fun j => if j = 1 then 0 else if j = 3 ∨ j = 4 ∨ j = 5 then S j else S2 j
