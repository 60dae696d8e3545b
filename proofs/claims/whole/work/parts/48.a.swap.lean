/-! DAYS CHANGED -/
theorem fsN_spec (f : Nat → Bool) : ∀ m n, (∃ i, n ≤ i ∧ i < n + m ∧ f i = true ∧ (∀ j, n ≤ j → j < i → f j = false) ∧ fsN f n m = nI i) ∨ ((∀ j, n ≤ j → j < n + m → f j = false) ∧ fsN f n m = -4)
  | 0, n => Or.inr ⟨fun j h1 h2 => by omega, rfl⟩
  | m + 1, n => by
    cases hf : f n with
    | true => exact Or.inl ⟨n, by omega, by omega, hf, fun j h1 h2 => by omega, by rw [fsN_s, if_pos hf]⟩
    | false =>
      have e : fsN f n (m + 1) = fsN f (n + 1) m := by rw [fsN_s, if_neg (by rw [hf]; decide)]
      rcases fsN_spec f m (n + 1) with ⟨i, h1, h2, h3, h4, h5⟩ | ⟨h1, h2⟩
      · refine Or.inl ⟨i, by omega, by omega, h3, fun j q1 q2 => ?_, e.trans h5⟩
        rcases (show j = n ∨ n + 1 ≤ j by omega) with z | z
        · rw [z]; exact hf
        · exact h4 j z q2
      · refine Or.inr ⟨fun j q1 q2 => ?_, e.trans h2⟩
        rcases (show j = n ∨ n + 1 ≤ j by omega) with z | z
        · rw [z]; exact hf
        · exact h1 j z (by omega)
theorem fsN_cg {f h : Nat → Bool} : ∀ m n, (∀ i, n ≤ i → i < n + m → f i = h i) → fsN f n m = fsN h n m
  | 0, n, _ => rfl
  | m + 1, n, e => by rw [fsN_s, fsN_s, e n (by omega) (by omega), fsN_cg m (n + 1) (fun i h1 h2 => e i (by omega) (by omega))]
theorem nI_ne4 {n : Nat} (h : n < 2 ^ 31) : nI n ≠ -4 := by
  intro q
  have h1 := nI_toInt h
  rw [q] at h1
  have h2 : (-4 : Int32).toInt = -4 := by decide
  omega
def swS (S : Nat → Nat) (k l : Nat) : Nat → Nat := setS (setS S (6 + k) (S (6 + l))) (6 + l) (S (6 + k))
theorem swS_l {S : Nat → Nat} {k l : Nat} : swS S k l (6 + l) = S (6 + k) := setS_s
theorem swS_k {S : Nat → Nat} {k l : Nat} : swS S k l (6 + k) = S (6 + l) := by
  unfold swS
  by_cases h : k = l
  · subst h; exact setS_s
  · rw [setS_o (by omega)]; exact setS_s
theorem swS_o {S : Nat → Nat} {k l q : Nat} (h1 : q ≠ 6 + k) (h2 : q ≠ 6 + l) : swS S k l q = S q := by
  unfold swS; rw [setS_o h2, setS_o h1]
theorem swS_d {S : Nat → Nat} {k l c : Nat} : swS S k l (6 + c) = S (6 + (if c = l then k else if c = k then l else c)) := by
  by_cases h2 : c = l
  · rw [if_pos h2, h2, swS_l]
  · rw [if_neg h2]
    by_cases h1 : c = k
    · rw [if_pos h1, h1, swS_k]
    · rw [if_neg h1, swS_o (by omega) (by omega)]
theorem swS_WF {S : Nat → Nat} {k l : Nat} (hW : WF S) (hk : k < 2 * S 2) (hl : l < 2 * S 2) : WF (swS S k l) := by
  obtain ⟨w0, w1, w2, w3, w4, w5, w6, w7⟩ := hW
  unfold WF
  rw [swS_o (q := 0) (by omega) (by omega), swS_o (q := 1) (by omega) (by omega), swS_o (q := 2) (by omega) (by omega), swS_o (q := 3) (by omega) (by omega), swS_o (q := 4) (by omega) (by omega), swS_o (q := 5) (by omega) (by omega)]
  refine ⟨w0, w1, w2, w3, w4, w5, fun c hc => ?_, fun p hp => ?_⟩
  · rw [swS_d]
    split
    · exact w6 _ hk
    · split
      · exact w6 _ hl
      · exact w6 _ hc
  · rw [swS_o (q := 18 + 6 * p) (by omega) (by omega), swS_o (q := 19 + 6 * p) (by omega) (by omega), swS_o (q := 20 + 6 * p) (by omega) (by omega), swS_o (q := 21 + 6 * p) (by omega) (by omega), swS_o (q := 22 + 6 * p) (by omega) (by omega), swS_o (q := 23 + 6 * p) (by omega) (by omega)]
    exact w7 p hp
theorem upd_back {M N : MI} {a k l : Nat} (h : N a = upd2 (upd2 M a k (M a l)) a l (M a k) a) : upd2 (upd2 N a k (N a l)) a l (N a k) a = M a := by
  have hl : N a l = M a k := by rw [h, upd2_same]
  have hk : N a k = M a l := by
    rw [h]
    by_cases hkl : k = l
    · rw [hkl, upd2_same]
    · rw [upd2_ne _ _ (by omega), upd2_same]
  funext q
  by_cases h1 : q = l
  · rw [h1, upd2_same, hk]
  · rw [upd2_ne _ _ (by omega)]
    by_cases h2 : q = k
    · rw [h2, upd2_same, hl]
    · rw [upd2_ne _ _ (by omega), h, upd2_ne _ _ (by omega), upd2_ne _ _ (by omega)]
theorem BlkR.sw {Mi : MI} {B k l : Nat} {S : Nat → Nat} (h : BlkR Mi B S) (hk : k < 2 * S 2) (hl : l < 2 * S 2) : BlkR (upd2 (upd2 Mi (B + 1) k (Mi (B + 1) l)) (B + 1) l (Mi (B + 1) k)) B (swS S k l) := by
  obtain ⟨y0, y1, y2, y3⟩ := h
  have e2 : swS S k l 2 = S 2 := swS_o (by omega) (by omega)
  refine ⟨?_, ?_, ?_, fun c hc => ?_⟩
  · rw [upd2_row _ _ (by omega), upd2_row _ _ (by omega), e2]; exact y0
  · rw [upd2_row _ _ (by omega), upd2_row _ _ (by omega), swS_o (by omega) (by omega)]; exact y1
  · rw [upd2_row _ _ (by omega), upd2_row _ _ (by omega), swS_o (by omega) (by omega)]; exact y2
  · rw [e2] at hc
    by_cases h1 : c = l
    · rw [h1, upd2_same, swS_l]; exact y3 k hk
    · rw [upd2_ne _ _ (by omega)]
      by_cases h2 : c = k
      · rw [h2, upd2_same, swS_k]; exact y3 l hl
      · rw [upd2_ne _ _ (by omega), swS_o (by omega) (by omega)]; exact y3 c hc
theorem carI_sub (b : Nat) : nI b - nI 1 = carI b := by
  cases b with
  | zero => decide
  | succ b => rw [carI_s, NF_sub (by omega) (NF_nI (b + 1)) (NF_nI 1)]; rfl
/-- the loops over two cars -/
def inF (f : Nat → Nat → Nat × Int32 → Nat × Int32) (k : Nat) (z : Nat × Int32) : Nat → Nat × Int32
  | 0 => z
  | m + 1 => f k (k + 1 + m) (inF f k z m)
def ouF (f : Nat → Nat → Nat × Int32 → Nat × Int32) (N : Nat) (z : Nat × Int32) : Nat → Nat × Int32
  | 0 => z
  | k + 1 => inF f k (ouF f N z k) (N - (k + 1))
/-- the class's step, the reference's -/
def fcI (S : Nat → Nat) (A : Nat → Bool) (kk st j k l e : Nat) : Int32 := fsN (wmB (swS S k l) A kk st j) 0 e
def cstp (S : Nat → Nat) (A : Nat → Bool) (kk st j k l : Nat) (z : Nat × Int32) : Nat × Int32 := if fcI S A kk st j k l z.1 = -4 then z else (pn (fcI S A kk st j k l z.1), nI (100 * k + l))
def bst0 (n : Int32) : Nat := if n = -4 then 61 else pn n
theorem fs_le {f : Nat → Bool} {e : Nat} (he : e ≤ 61) (h : fsN f 0 e ≠ -4) : pn (fsN f 0 e) < e ∧ fsN f 0 e = nI (pn (fsN f 0 e)) := by
  rcases fsN_spec f e 0 with ⟨i, h1, h2, h3, h4, h5⟩ | ⟨h1, h2⟩
  · rw [h5, pn_nI (by omega)]
    exact ⟨by omega, rfl⟩
  · exact absurd h2 h
theorem fc_le {S : Nat → Nat} {A : Nat → Bool} {kk st j k l e : Nat} (he : e ≤ 61) (h : fcI S A kk st j k l e ≠ -4) : pn (fcI S A kk st j k l e) < e ∧ fcI S A kk st j k l e = nI (pn (fcI S A kk st j k l e)) := by
  unfold fcI at h ⊢
  exact fs_le he h
theorem bst0_le {f : Nat → Bool} : bst0 (fsN f 0 61) ≤ 61 := by
  unfold bst0
  split
  · omega
  · rename_i h; have := (fs_le (by omega) h).1; omega
theorem cstp_le {S : Nat → Nat} {A : Nat → Bool} {kk st j k l : Nat} {z : Nat × Int32} (hz : z.1 ≤ 61) : (cstp S A kk st j k l z).1 ≤ z.1 := by
  unfold cstp
  split
  · exact Nat.le_refl _
  · rename_i h
    have := (fc_le hz h).1
    show pn _ ≤ _
    omega
theorem inF_le {S : Nat → Nat} {A : Nat → Bool} {kk st j k : Nat} {z : Nat × Int32} (hz : z.1 ≤ 61) : ∀ m, (inF (cstp S A kk st j) k z m).1 ≤ z.1
  | 0 => Nat.le_refl _
  | m + 1 => by
    have h := inF_le (S := S) (A := A) (kk := kk) (st := st) (j := j) (k := k) hz m
    have h2 := cstp_le (S := S) (A := A) (kk := kk) (st := st) (j := j) (k := k) (l := k + 1 + m) (z := inF (cstp S A kk st j) k z m) (by omega)
    show (cstp S A kk st j k (k + 1 + m) _).1 ≤ _
    omega
theorem ouF_le {S : Nat → Nat} {A : Nat → Bool} {kk st j N : Nat} {z : Nat × Int32} (hz : z.1 ≤ 61) : ∀ m, (ouF (cstp S A kk st j) N z m).1 ≤ z.1
  | 0 => Nat.le_refl _
  | m + 1 => by
    have h := ouF_le (S := S) (A := A) (kk := kk) (st := st) (j := j) (N := N) hz m
    have h2 := inF_le (S := S) (A := A) (kk := kk) (st := st) (j := j) (k := m) (z := ouF (cstp S A kk st j) N z m) (by omega) (N - (m + 1))
    show (inF (cstp S A kk st j) m _ _).1 ≤ _
    omega
def bcI (z : Nat × Int32) (b : Bool) : Int32 := if b = true ∧ z.2 ≠ -4 then nI z.1 else z.2
theorem bc_a {z : Nat × Int32} {b : Bool} (h1 : b = true) (h2 : ¬ z.2 = -4) : nI z.1 = bcI z b := (if_pos ⟨h1, h2⟩).symm
theorem bc_b {z : Nat × Int32} {b : Bool} (h2 : z.2 = -4) : z.2 = bcI z b := (if_neg (fun q => q.2 h2)).symm
theorem bc_c {z : Nat × Int32} {b : Bool} (h1 : b = false) : z.2 = bcI z b := (if_neg (fun q => absurd (h1.symm.trans q.1) Bool.false_ne_true)).symm
