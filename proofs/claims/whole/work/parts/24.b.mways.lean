/-! WEIGHED: the reference's numbers -/
def suN (w : Nat → Nat) (b t : Nat) : Nat → Nat
  | 0 => 0
  | p + 1 => suN w b t p + (if dgN b p t = 0 then 0 else w p * 2 ^ (10 * (dgN b p t - 1)))
theorem lc_le {w : Nat → Nat} {b t c : Nat} : ∀ {n : Nat}, (∀ p, p < n → w p ≤ 18) → lcN w b t c n ≤ 18 * n
  | 0, _ => Nat.le_refl _
  | n + 1, h => by
    have h1 := lc_le (b := b) (t := t) (c := c) (fun p hp => h p (by omega : p < n + 1)) (n := n)
    have h2 := h n (by omega)
    show lcN w b t c n + _ ≤ _
    split <;> omega
theorem su_eq {w : Nat → Nat} {b t : Nat} (hb : 0 < b) (hb5 : b ≤ 5) : ∀ n, suN w b t n = lcN w b t 0 n + 1024 * lcN w b t 1 n + 1048576 * lcN w b t 2 n + 1073741824 * lcN w b t 3 n
  | 0 => rfl
  | n + 1 => by
    show suN w b t n + (if dgN b n t = 0 then 0 else w n * 2 ^ (10 * (dgN b n t - 1))) = (lcN w b t 0 n + (if dgN b n t = 0 + 1 then w n else 0)) + 1024 * (lcN w b t 1 n + (if dgN b n t = 1 + 1 then w n else 0)) + 1048576 * (lcN w b t 2 n + (if dgN b n t = 2 + 1 then w n else 0)) + 1073741824 * (lcN w b t 3 n + (if dgN b n t = 3 + 1 then w n else 0))
    rw [su_eq hb hb5 n]
    have hd : dgN b n t < b := Nat.mod_lt _ hb
    generalize dgN b n t = d at hd
    rcases (show d = 0 ∨ d = 1 ∨ d = 2 ∨ d = 3 ∨ d = 4 by omega) with rfl | rfl | rfl | rfl | rfl <;> simp <;> omega
theorem su_ex {w : Nat → Nat} {b t n c : Nat} (hb : 0 < b) (hb5 : b ≤ 5) (hn : n ≤ 6) (hw : ∀ p, p < n → w p ≤ 18) (hc : c < 4) : suN w b t n < 2 ^ 40 ∧ suN w b t n / 2 ^ (10 * c) % 1024 = lcN w b t c n := by
  have h0 := lc_le (b := b) (t := t) (c := 0) hw
  have h1 := lc_le (b := b) (t := t) (c := 1) hw
  have h2 := lc_le (b := b) (t := t) (c := 2) hw
  have h3 := lc_le (b := b) (t := t) (c := 3) hw
  rw [su_eq hb hb5 n]
  refine ⟨by omega, ?_⟩
  rcases (show c = 0 ∨ c = 1 ∨ c = 2 ∨ c = 3 by omega) with rfl | rfl | rfl | rfl
  · show (_ : Nat) / 1 % 1024 = _; omega
  · show (_ : Nat) / 1024 % 1024 = _; omega
  · show (_ : Nat) / 1048576 % 1024 = _; omega
  · show (_ : Nat) / 1073741824 % 1024 = _; omega
theorem lN_sum (a b : Nat) : lN a + lN b = lN (a + b) := by
  apply Int64.toBitVec_inj.mp
  rw [Int64.toBitVec_add]
  show BitVec.ofNat 64 a + BitVec.ofNat 64 b = BitVec.ofNat 64 (a + b)
  rw [BitVec.ofNat_add]
theorem sh_w {w d : Nat} (hw : w ≤ 18) (hd : d < 4) : (nI w).toInt64 <<< ((nI (10 * d)).toInt64 &&& 63) = lN (w * 2 ^ (10 * d)) := by
  have key : ∀ w : Fin 19, ∀ d : Fin 4, (nI w.val).toInt64 <<< ((nI (10 * d.val)).toInt64 &&& 63) = lN (w.val * 2 ^ (10 * d.val)) := by decide +kernel
  exact key ⟨w, by omega⟩ ⟨d, hd⟩
theorem l_shr {m k : Nat} {y : Int64} (hm : m < 2 ^ 62) (hy : (y.toBitVec.smod 64).toNat = k) : lN m >>> y = lN (m / 2 ^ k) := by
  apply Int64.toInt_inj.mp
  have e : (lN m >>> y).toInt = (lN m).toInt >>> k := by
    rw [← hy]
    rw [← Int64.toInt_toBitVec, Int64.toBitVec_shiftRight]
    show (BitVec.sshiftRight' (lN m).toBitVec (y.toBitVec.smod 64)).toInt = _
    unfold BitVec.sshiftRight'
    rw [BitVec.toInt_sshiftRight, Int64.toInt_toBitVec]
  rw [e, pk_lT (by omega), pk_lT (Nat.lt_of_le_of_lt (Nat.div_le_self _ _) (by omega)), Int.shiftRight_eq_div_pow]
  push_cast
  rfl
theorem l_and {m : Nat} : lN m &&& 1023 = lN (m % 1024) := by
  apply Int64.toBitVec_inj.mp
  rw [Int64.toBitVec_and]
  show BitVec.ofNat 64 m &&& BitVec.ofNat 64 1023 = BitVec.ofNat 64 (m % 1024)
  rw [← BitVec.ofNat_and, show (1023 : Nat) = 2 ^ 10 - 1 from rfl, Nat.and_two_pow_sub_one_eq_mod]
theorem ex_l {m c : Nat} (hm : m < 2 ^ 40) (hc : c < 4) : (lN m >>> ((nI (10 * c)).toInt64 &&& 63)) &&& 1023 = lN (m / 2 ^ (10 * c) % 1024) := by
  have key : ∀ c : Fin 4, ((((nI (10 * c.val)).toInt64 &&& 63) : Int64).toBitVec.smod 64).toNat = 10 * c.val := by decide +kernel
  rw [l_shr (by omega) (key ⟨c, hc⟩), l_and]
theorem lN_v {a l : Nat} {v : Int64} (ha : a < 2 ^ 63) (hv : v.toInt = (l : Int)) : lN a = v ↔ a = l := by
  rw [← Int64.toInt_inj, pk_lT ha, hv]
  omega
def bsI (m : Nat) : Int32 := if m = 0 then -4 else nI (m - 1)
theorem bsI_4 {m : Nat} (h : m < 2 ^ 30) : bsI m = -4 ↔ m = 0 := by
  unfold bsI
  by_cases hm : m = 0
  · rw [if_pos hm]; simp [hm]
  · rw [if_neg hm]
    constructor
    · intro z
      have := nI_toInt (show m - 1 < 2 ^ 31 by omega)
      rw [z, show (-4 : Int32).toInt = -4 from by decide] at this
      omega
    · intro z; exact absurd z hm
theorem bsI_n {m : Nat} (h : m ≠ 0) : bsI m = nI (m - 1) := by unfold bsI; rw [if_neg h]
def mnN (f : Nat → Bool) (g : Nat → Nat) : Nat → Nat
  | 0 => 0
  | t + 1 => if f t = true ∧ (mnN f g t = 0 ∨ g t < mnN f g t - 1) then g t + 1 else mnN f g t
theorem mnN_s {f : Nat → Bool} {g : Nat → Nat} {t : Nat} : mnN f g (t + 1) = if f t = true ∧ (mnN f g t = 0 ∨ g t < mnN f g t - 1) then g t + 1 else mnN f g t := rfl
theorem mnN_c {f : Nat → Bool} {g : Nat → Nat} : ∀ T, (mnN f g T = 0 → ∀ t, t < T → f t = false) ∧ ∀ s, mnN f g T = s + 1 → (∃ t, t < T ∧ f t = true ∧ g t = s) ∧ ∀ t, t < T → f t = true → s ≤ g t
  | 0 => ⟨fun _ t h => absurd h (by omega), fun s h => absurd h (by show ¬ 0 = s + 1; omega)⟩
  | T + 1 => by
    obtain ⟨h1, h2⟩ := mnN_c (f := f) (g := g) T
    rw [mnN_s]
    by_cases hc : f T = true ∧ (mnN f g T = 0 ∨ g T < mnN f g T - 1)
    · rw [if_pos hc]
      refine ⟨fun z => by omega, fun s hs => ⟨⟨T, by omega, hc.1, by omega⟩, fun t ht hf => ?_⟩⟩
      by_cases htT : t = T
      · subst htT; omega
      · rcases hc.2 with h0 | h0
        · rw [h1 h0 t (by omega)] at hf; cases hf
        · have := (h2 (mnN f g T - 1) (by omega)).2 t (by omega) hf
          omega
    · rw [if_neg hc]
      refine ⟨fun z t ht => ?_, fun s hs => ?_⟩
      · by_cases htT : t = T
        · subst htT
          cases hf : f t with
          | false => rfl
          | true => exact absurd ⟨hf, Or.inl z⟩ hc
        · exact h1 z t (by omega)
      · obtain ⟨⟨t, k1, k2, k3⟩, k4⟩ := h2 s hs
        refine ⟨⟨t, by omega, k2, k3⟩, fun t' ht' hf => ?_⟩
        by_cases htT : t' = T
        · subst htT
          by_cases hle : s ≤ g t'
          · exact hle
          · exact absurd ⟨hf, Or.inr (by omega)⟩ hc
        · exact k4 t' (by omega) hf
theorem mnN_le {f : Nat → Bool} {g : Nat → Nat} {M : Nat} (hg : ∀ t, g t < M) : ∀ T, mnN f g T ≤ M
  | 0 => Nat.zero_le _
  | T + 1 => by
    have h1 := mnN_le (f := f) hg T
    have h2 := hg T
    rw [mnN_s]
    split <;> omega
theorem fsN_n {f : Nat → Bool} : ∀ {m i : Nat}, (∀ j, i ≤ j → j < i + m → f j = false) → fsN f i m = -4
  | 0, i, _ => rfl
  | m + 1, i, h => by
    rw [fsN_s, h i (by omega) (by omega), if_neg (by decide)]
    exact fsN_n (fun j h1 h2 => h j (by omega) (by omega))
theorem fsN_f {f : Nat → Bool} : ∀ {m i k : Nat}, i ≤ k → k < i + m → f k = true → (∀ j, i ≤ j → j < k → f j = false) → fsN f i m = nI k
  | 0, i, k, h1, h2, _, _ => absurd h2 (by omega)
  | m + 1, i, k, h1, h2, h3, h4 => by
    rw [fsN_s]
    by_cases hik : i = k
    · subst hik; rw [if_pos h3]
    · rw [h4 i (by omega) (by omega), if_neg (by decide)]
      exact fsN_f (by omega) (by omega) h3 (fun j q1 q2 => h4 j (by omega) q2)
/-- what the reference finds is what the class finds -/
theorem we_min {S : Nat → Nat} {it : Nat → Int64} {i n : Nat} (h6 : S 0 ≤ 6) : bsI (mnN (fun t => decide (okP (wgN S) (weL it i) (fun _ => 0) n t (S 0))) (fun t => seN (n + 1) t (S 0)) ((n + 1) ^ S 0)) = fsN (fun s => decide (0 < weW S it i n s)) 0 (2 ^ S 0) := by
  obtain ⟨h1, h2⟩ := mnN_c (f := fun t => decide (okP (wgN S) (weL it i) (fun _ => 0) n t (S 0))) (g := fun t => seN (n + 1) t (S 0)) ((n + 1) ^ S 0)
  generalize mnN (fun t => decide (okP (wgN S) (weL it i) (fun _ => 0) n t (S 0))) (fun t => seN (n + 1) t (S 0)) ((n + 1) ^ S 0) = m at h1 h2
  have hp : ∀ s, s < 2 ^ S 0 → (0 < weW S it i n s ↔ ∃ t, t < (n + 1) ^ S 0 ∧ seN (n + 1) t (S 0) = s ∧ okP (wgN S) (weL it i) (fun _ => 0) n t (S 0)) := fun s hs => ways_pos h6 hs
  cases m with
  | zero =>
    rw [fsN_n (fun j _ hj => by
      rw [decide_eq_false_iff_not, hp j (by omega)]
      rintro ⟨t, k1, k2, k3⟩
      have := h1 rfl t k1
      rw [decide_eq_false_iff_not] at this
      exact this k3)]
    rfl
  | succ s =>
    obtain ⟨⟨t, k1, k2, k3⟩, k4⟩ := h2 s rfl
    rw [decide_eq_true_iff] at k2
    have hs : s < 2 ^ S 0 := by rw [← k3]; exact se_lt _
    rw [fsN_f (k := s) (by omega) (by omega) (by rw [decide_eq_true_iff, hp s hs]; exact ⟨t, k1, k3, k2⟩) (fun j _ hj => by
      rw [decide_eq_false_iff_not, hp j (by omega)]
      rintro ⟨t', q1, q2, q3⟩
      have := k4 t' q1 (by rw [decide_eq_true_iff]; exact q3)
      omega)]
    rfl
