/-! CHANGED: the class looks only for what is sooner, and only where a car has that day -/
def mstp (S : Nat → Nat) (A : Nat → Bool) (kk st j k l : Nat) (z : Nat × Int32) : Nat × Int32 := if fsN (wmB (swS S k l) A kk st j) 0 61 ≠ -4 ∧ pn (fsN (wmB (swS S k l) A kk st j) 0 61) < z.1 then (pn (fsN (wmB (swS S k l) A kk st j) 0 61), nI (100 * k + l)) else z
theorem bst0_no {n : Int32} {e : Nat} (hz : e ≤ bst0 n) : ¬ (n ≠ -4 ∧ pn n < e) := by
  rintro ⟨h1, h2⟩
  unfold bst0 at hz
  rw [if_neg h1] at hz
  omega
theorem stp_eq {S : Nat → Nat} {A : Nat → Bool} {kk st j k l : Nat} {z : Nat × Int32} (hz : z.1 ≤ bst0 (fsN (wmB S A kk st j) 0 61)) : cstp S A kk st j k l z = mstp S A kk st j k l z := by
  have hz61 : z.1 ≤ 61 := Nat.le_trans hz bst0_le
  unfold cstp mstp fcI
  generalize wmB (swS S k l) A kk st j = f
  rcases fsN_spec f z.1 0 with ⟨i, h1, h2, h3, h4, h5⟩ | ⟨h1, h2⟩
  · have e61 : fsN f 0 61 = nI i := by
      rcases fsN_spec f 61 0 with ⟨i', g1, g2, g3, g4, g5⟩ | ⟨g1, g2⟩
      · rcases (show i' < i ∨ i' = i ∨ i < i' by omega) with y | y | y
        · rw [h4 i' (by omega) y] at g3; cases g3
        · rw [g5, y]
        · rw [g4 i (by omega) y] at h3; cases h3
      · rw [g1 i (by omega) (by omega)] at h3; cases h3
    rw [h5, e61, if_neg (nI_ne4 (by omega)), if_pos ⟨nI_ne4 (by omega), by rw [pn_nI (by omega)]; omega⟩]
  · rw [h2, if_pos rfl, if_neg]
    rintro ⟨h3, h4⟩
    rcases fsN_spec f 61 0 with ⟨i', g1, g2, g3, g4, g5⟩ | ⟨g1, g2⟩
    · rw [g5, pn_nI (by omega)] at h4
      rw [h1 i' (by omega) (by omega)] at g3
      cases g3
    · exact h3 g2
theorem in_eq {S : Nat → Nat} {A : Nat → Bool} {kk st j k : Nat} {z : Nat × Int32} (hz : z.1 ≤ bst0 (fsN (wmB S A kk st j) 0 61)) : ∀ m, inF (cstp S A kk st j) k z m = inF (mstp S A kk st j) k z m
  | 0 => rfl
  | m + 1 => by
    show cstp S A kk st j k (k + 1 + m) (inF (cstp S A kk st j) k z m) = mstp S A kk st j k (k + 1 + m) (inF (mstp S A kk st j) k z m)
    have h1 := inF_le (S := S) (A := A) (kk := kk) (st := st) (j := j) (k := k) (z := z) (Nat.le_trans hz bst0_le) m
    rw [stp_eq (Nat.le_trans h1 hz), in_eq hz m]
theorem ou_eq {S : Nat → Nat} {A : Nat → Bool} {kk st j N : Nat} {z : Nat × Int32} (hz : z.1 ≤ bst0 (fsN (wmB S A kk st j) 0 61)) : ∀ m, ouF (cstp S A kk st j) N z m = ouF (mstp S A kk st j) N z m
  | 0 => rfl
  | m + 1 => by
    show inF (cstp S A kk st j) m (ouF (cstp S A kk st j) N z m) (N - (m + 1)) = inF (mstp S A kk st j) m (ouF (mstp S A kk st j) N z m) (N - (m + 1))
    have h1 := ouF_le (S := S) (A := A) (kk := kk) (st := st) (j := j) (N := N) (z := z) (Nat.le_trans hz bst0_le) m
    rw [in_eq (Nat.le_trans h1 hz), ou_eq hz m]
theorem mv_no {S : Nat → Nat} {A : Nat → Bool} {st dd f : Nat} (hW : WF S) (hno : ∀ c, c < 2 * S 2 → S (6 + c) ≠ dd) (hd : dd < 7) (hf : f < 6) : mvP S A st 15 (2 * S 2) (f * 7 + dd) = A (f * 7 + dd) := by
  have hh := hW.2.2.1
  rw [Bool.eq_iff_iff, mvP_iff]
  constructor
  · rintro (⟨h1, h2⟩ | ⟨p, hp, ⟨h1, h2, h3⟩ | ⟨h1, h2, h3⟩⟩)
    · exact h2
    · omega
    · have hc := ciN_lt (h := S 2) (c := p) (s := st) (by omega)
      have h7 := hW.2.2.2.2.2.2.1 _ hc
      exact absurd (show S (6 + ciN (S 2) p st) = dd by omega) (hno _ hc)
  · intro h
    exact Or.inl ⟨bt_15 0 (by omega), h⟩
theorem go_no {S : Nat → Nat} {A : Nat → Bool} {kk st dd f : Nat} (hW : WF S) (hno : ∀ c, c < 2 * S 2 → S (6 + c) ≠ dd) (hd : dd < 7) (hf : f < 6) : goA S A kk st (f * 7 + dd) = A (f * 7 + dd) := by
  have hh := hW.2.2.1
  rw [Bool.eq_iff_iff, goA_iff hW]
  constructor
  · rintro (⟨h1, h2⟩ | ⟨p, hp, h1, h2, h3⟩)
    · exact h1
    · have hc := ciN_lt (h := S 2) (c := p) (s := st) (by omega)
      have h7 := hW.2.2.2.2.2.2.1 _ hc
      exact absurd (show S (6 + ciN (S 2) p st) = dd by omega) (hno _ hc)
  · intro h
    exact Or.inl ⟨h, fun p _ _ => by omega⟩
theorem ws_no {S : Nat → Nat} {A : Nat → Bool} {kk st dd f : Nat} (hW : WF S) (hno : ∀ c, c < 2 * S 2 → S (6 + c) ≠ dd) (hd : dd < 7) (hf : f < 6) : ∀ n, wsA S A kk st n (f * 7 + dd) = A (f * 7 + dd)
  | 0 => rfl
  | n + 1 => by
    show goA S (mvP S (wsA S A kk st n) (st + n) 15 (2 * S 2)) kk (st + n + 1) (f * 7 + dd) = _
    rw [go_no hW hno hd hf, mv_no hW hno hd hf, ws_no hW hno hd hf n]
theorem wm_no {S : Nat → Nat} {A : Nat → Bool} {kk st dd f : Nat} (hW : WF S) (hno : ∀ c, c < 2 * S 2 → S (6 + c) ≠ dd) (hd : dd < 7) (hf : f < 6) (n : Nat) : wmB S A kk st (f * 7 + dd) n = A (f * 7 + dd) := by
  unfold wmB
  rw [mv_no hW hno hd hf, ws_no hW hno hd hf]
theorem mstp_no {S : Nat → Nat} {A : Nat → Bool} {kk st dd f k l : Nat} {z : Nat × Int32} (hW : WF S) (hno : ∀ c, c < 2 * S 2 → S (6 + c) ≠ dd) (hd : dd < 7) (hf : f < 6) (hk : k < 2 * S 2) (hl : l < 2 * S 2) (hz : z.1 ≤ bst0 (fsN (wmB S A kk st (f * 7 + dd)) 0 61)) : mstp S A kk st (f * 7 + dd) k l z = z := by
  have e2 : swS S k l 2 = S 2 := swS_o (by omega) (by omega)
  have hno' : ∀ c, c < 2 * swS S k l 2 → swS S k l (6 + c) ≠ dd := fun c hc => by
    rw [e2] at hc
    rw [swS_d]
    split
    · exact hno _ hk
    · split
      · exact hno _ hl
      · exact hno _ hc
  have e : fsN (wmB (swS S k l) A kk st (f * 7 + dd)) 0 61 = fsN (wmB S A kk st (f * 7 + dd)) 0 61 := fsN_cg 61 0 (fun n _ _ => by rw [wm_no (swS_WF hW hk hl) hno' hd hf, wm_no hW hno hd hf])
  unfold mstp
  rw [e, if_neg (bst0_no hz)]
theorem in_no {S : Nat → Nat} {A : Nat → Bool} {kk st dd f k : Nat} {z : Nat × Int32} (hW : WF S) (hno : ∀ c, c < 2 * S 2 → S (6 + c) ≠ dd) (hd : dd < 7) (hf : f < 6) (hz : z.1 ≤ bst0 (fsN (wmB S A kk st (f * 7 + dd)) 0 61)) : ∀ m, k + 1 + m ≤ 2 * S 2 → inF (mstp S A kk st (f * 7 + dd)) k z m = z
  | 0, _ => rfl
  | m + 1, hm => by
    show mstp S A kk st (f * 7 + dd) k (k + 1 + m) (inF (mstp S A kk st (f * 7 + dd)) k z m) = z
    rw [in_no hW hno hd hf hz m (by omega), mstp_no hW hno hd hf (by omega) (by omega) hz]
theorem ou_no {S : Nat → Nat} {A : Nat → Bool} {kk st dd f : Nat} {z : Nat × Int32} (hW : WF S) (hno : ∀ c, c < 2 * S 2 → S (6 + c) ≠ dd) (hd : dd < 7) (hf : f < 6) (hz : z.1 ≤ bst0 (fsN (wmB S A kk st (f * 7 + dd)) 0 61)) : ∀ m, m ≤ 2 * S 2 → ouF (mstp S A kk st (f * 7 + dd)) (2 * S 2) z m = z
  | 0, _ => rfl
  | m + 1, hm => by
    show inF (mstp S A kk st (f * 7 + dd)) m (ouF (mstp S A kk st (f * 7 + dd)) (2 * S 2) z m) (2 * S 2 - (m + 1)) = z
    rw [ou_no hW hno hd hf hz m (by omega), in_no hW hno hd hf hz _ (by omega)]
def chZ (S : Nat → Nat) (i j : Nat) : Nat × Int32 := ouF (mstp S (stA S i) (S (18 + 6 * i)) (S 1) j) (2 * S 2) (bst0 (snI S i j), -4) (2 * S 2)
def sp_changed (S : Nat → Nat) (p f d w : Int32) : Int32 := if isB p 0 (S 0) = true ∧ isB f 0 (S 2) = true ∧ isB d 0 7 = true ∧ isB w 0 2 = true then bcI (chZ S (pn p) (pn f * 7 + pn d)) (decide (pn w = 1)) else -1
theorem ch_eq {S : Nat → Nat} {i f dd N : Nat} (hW : WF S) (hd : dd < 7) (hf : f < 6) (hN : ((∃ c, c < 2 * S 2 ∧ S (6 + c) = dd) ∧ N = 2 * S 2) ∨ (¬ (∃ c, c < 2 * S 2 ∧ S (6 + c) = dd) ∧ N = 0)) : ouF (cstp S (stA S i) (S (18 + 6 * i)) (S 1) (f * 7 + dd)) N (bst0 (fsN (wmB S (stA S i) (S (18 + 6 * i)) (S 1) (f * 7 + dd)) 0 61), -4) N = chZ S i (f * 7 + dd) := by
  rcases hN with ⟨-, h⟩ | ⟨hno, h⟩
  · subst h
    exact ou_eq (Nat.le_refl _) _
  · subst h
    have := ou_no (A := stA S i) (kk := S (18 + 6 * i)) (st := S 1) (z := (bst0 (fsN (wmB S (stA S i) (S (18 + 6 * i)) (S 1) (f * 7 + dd)) 0 61), -4)) hW (fun c hc z => hno ⟨c, hc, z⟩) hd hf (Nat.le_refl _) (2 * S 2) (Nat.le_refl _)
    exact this.symm
/-! the reference's swap, and back -/
theorem NowR.sw {Mi : MI} {a k l : Nat} {S : Nat → Nat} (h : NowR Mi a S) (hk : k < 12) (hl : l < 12) : NowR (upd2 (upd2 Mi a (6 + k) (Mi a (6 + l))) a (6 + l) (Mi a (6 + k))) a (swS S k l) := by
  intro q hq
  by_cases h1 : q = 6 + l
  · rw [h1, upd2_same, swS_l, eN_lo (by omega)]; exact h.dy hk
  · rw [upd2_ne _ _ (by omega)]
    by_cases h2 : q = 6 + k
    · rw [h2, upd2_same, swS_k, eN_lo (by omega)]; exact h.dy hl
    · rw [upd2_ne _ _ (by omega), swS_o h2 h1]; exact h q hq
theorem upd_back2 (M : MI) (a k l : Nat) : upd2 (upd2 (upd2 (upd2 M a k (M a l)) a l (M a k)) a k (upd2 (upd2 M a k (M a l)) a l (M a k) a l)) a l (upd2 (upd2 M a k (M a l)) a l (M a k) a k) = M := by
  funext b
  by_cases hb : b = a
  · rw [hb]; exact upd_back rfl
  · rw [upd2_row _ _ hb, upd2_row _ _ hb, upd2_row _ _ hb, upd2_row _ _ hb]
theorem st_sw {S : Nat → Nat} {i k l : Nat} (hk : k < 12) (hl : l < 12) : stA (swS S k l) i = stA S i := by
  unfold stA sjN
  rw [swS_o (q := 20 + 6 * i) (by omega) (by omega), swS_o (q := 21 + 6 * i) (by omega) (by omega), swS_o (q := 22 + 6 * i) (by omega) (by omega)]
theorem sn_sw {S : Nat → Nat} {i j k l : Nat} (hk : k < 12) (hl : l < 12) : snI (swS S k l) i j = fsN (wmB (swS S k l) (stA S i) (S (18 + 6 * i)) (S 1) j) 0 61 := by
  unfold snI
  refine fsN_cg 61 0 (fun n _ _ => ?_)
  unfold whB
  rw [st_sw hk hl, swS_o (q := 18 + 6 * i) (by omega) (by omega), swS_o (q := 1) (by omega) (by omega)]
theorem BR.low : BR (4398046511103 : Int64) (fun k => decide (k < 42)) := fun k => by
  by_cases hk : k < 64
  · have key : ∀ k : Fin 64, (4398046511103 : Int64).toBitVec.getLsbD k.val = (decide (k.val < 54) && decide (k.val < 42)) := by decide +kernel
    exact key ⟨k, hk⟩
  · rw [BitVec.getLsbD_of_ge _ _ (by omega), decide_eq_false (show ¬ k < 54 by omega)]; rfl
