/-! WEIGHED: how many ways, by cars (class) and by people (reference) -/
def smN (f : Nat → Nat) : Nat → Nat
  | 0 => 0
  | n + 1 => smN f n + f n
theorem smN_cg {f g : Nat → Nat} : ∀ {n : Nat}, (∀ i, i < n → f i = g i) → smN f n = smN g n
  | 0, _ => rfl
  | n + 1, h => by
    show smN f n + f n = smN g n + g n
    rw [smN_cg (fun i hi => h i (by omega)), h n (by omega)]
theorem smN_z {f : Nat → Nat} : ∀ {n : Nat}, (∀ i, i < n → f i = 0) → smN f n = 0
  | 0, _ => rfl
  | n + 1, h => by
    show smN f n + f n = 0
    rw [smN_z (fun i hi => h i (by omega)), h n (by omega)]
theorem smN_add {f g : Nat → Nat} : ∀ n, smN (fun i => f i + g i) n = smN f n + smN g n
  | 0 => rfl
  | n + 1 => by
    show smN (fun i => f i + g i) n + (f n + g n) = (smN f n + f n) + (smN g n + g n)
    rw [smN_add n]; omega
theorem smN_split {f : Nat → Nat} (m : Nat) : ∀ n, smN f (m + n) = smN f m + smN (fun i => f (m + i)) n
  | 0 => rfl
  | n + 1 => by
    show smN f (m + n) + f (m + n) = smN f m + (smN (fun i => f (m + i)) n + f (m + n))
    rw [smN_split m n]; omega
theorem smN_first {f : Nat → Nat} : ∀ n, smN f (n + 1) = f 0 + smN (fun i => f (i + 1)) n
  | 0 => by show 0 + f 0 = f 0 + 0; omega
  | n + 1 => by
    show smN f (n + 1) + f (n + 1) = f 0 + (smN (fun i => f (i + 1)) n + f (n + 1))
    rw [smN_first n]; omega
theorem smN_swap {f : Nat → Nat → Nat} (m : Nat) : ∀ n, smN (fun i => smN (fun j => f i j) m) n = smN (fun j => smN (fun i => f i j) n) m
  | 0 => (smN_z (fun _ _ => rfl)).symm
  | n + 1 => by
    show smN (fun i => smN (fun j => f i j) m) n + smN (fun j => f n j) m = smN (fun j => smN (fun i => f i j) n + f n j) m
    rw [smN_swap m n, ← smN_add]
theorem smN_ite {P : Prop} [Decidable P] {f : Nat → Nat} {m : Nat} : (if P then smN f m else 0) = smN (fun j => if P then f j else 0) m := by
  by_cases h : P
  · rw [if_pos h]; exact smN_cg (fun i _ => by rw [if_pos h])
  · rw [if_neg h]; exact (smN_z (fun i _ => by rw [if_neg h])).symm
theorem smN_mul {f : Nat → Nat} (b : Nat) : ∀ m, smN f (b * m) = smN (fun d => smN (fun t => f (t + d * b)) b) m
  | 0 => rfl
  | m + 1 => by
    show smN f (b * m + b) = smN (fun d => smN (fun t => f (t + d * b)) b) m + smN (fun t => f (t + m * b)) b
    rw [smN_split, smN_mul b m]
    congr 1
    exact smN_cg (fun i _ => by rw [Nat.mul_comm b m, Nat.add_comm])
theorem smN_ext {f : Nat → Nat} {m n : Nat} (h : m ≤ n) (hz : ∀ i, m ≤ i → i < n → f i = 0) : smN f n = smN f m := by
  obtain ⟨k, rfl⟩ : ∃ k, n = m + k := ⟨n - m, by omega⟩
  rw [smN_split, smN_z (f := fun i => f (m + i)) (fun i hi => hz _ (by omega) (by omega))]
  omega
theorem smN_one {P : Prop} [Decidable P] {x : Nat} : ∀ {m : Nat}, x < m → smN (fun s => if x = s ∧ P then 1 else 0) m = if P then 1 else 0
  | 0, h => absurd h (by omega)
  | m + 1, h => by
    show smN (fun s => if x = s ∧ P then 1 else 0) m + (if x = m ∧ P then 1 else 0) = _
    by_cases hx : x = m
    · rw [smN_z (fun i hi => by rw [if_neg (by omega)])]
      by_cases hP : P
      · rw [if_pos ⟨hx, hP⟩, if_pos hP]
      · rw [if_neg (fun z => hP z.2), if_neg hP]
    · rw [if_neg (fun z => hx z.1), smN_one (by omega)]; rfl
theorem smN_pos {f : Nat → Nat} : ∀ {n : Nat}, 0 < smN f n ↔ ∃ i, i < n ∧ 0 < f i
  | 0 => ⟨fun h => absurd h (by show ¬ 0 < 0; omega), fun ⟨i, h, _⟩ => absurd h (by omega)⟩
  | n + 1 => by
    show 0 < smN f n + f n ↔ _
    have ih := smN_pos (f := f) (n := n)
    constructor
    · intro h
      by_cases hf : 0 < f n
      · exact ⟨n, by omega, hf⟩
      · obtain ⟨i, h1, h2⟩ := ih.mp (by omega)
        exact ⟨i, by omega, h2⟩
    · rintro ⟨i, h1, h2⟩
      by_cases hi : i = n
      · subst hi; omega
      · have := ih.mpr ⟨i, by omega, h2⟩
        omega
theorem smN_le {f : Nat → Nat} : ∀ {n : Nat}, (∀ i, i < n → f i ≤ 1) → smN f n ≤ n
  | 0, _ => Nat.le_refl _
  | n + 1, h => by
    have h1 := smN_le (f := f) (n := n) (fun i hi => h i (by omega))
    have h2 := h n (by omega)
    show smN f n + f n ≤ n + 1
    omega
def btN (r q : Nat) : Nat := r / 2 ^ q % 2
def wtN (w : Nat → Nat) (r : Nat) : Nat → Nat
  | 0 => 0
  | n + 1 => wtN w r n + (if btN r n = 1 then w n else 0)
theorem wtN_cg {w : Nat → Nat} {r r' : Nat} : ∀ {n : Nat}, (∀ q, q < n → btN r q = btN r' q) → wtN w r n = wtN w r' n
  | 0, _ => rfl
  | n + 1, h => by
    show wtN w r n + _ = wtN w r' n + _
    rw [wtN_cg (fun q hq => h q (by omega)), h n (by omega)]
theorem wtN_ext {w : Nat → Nat} {r n : Nat} (hr : r < 2 ^ n) : ∀ k, wtN w r (n + k) = wtN w r n
  | 0 => rfl
  | k + 1 => by
    show wtN w r (n + k) + (if btN r (n + k) = 1 then w (n + k) else 0) = _
    rw [wtN_ext hr k]
    have : btN r (n + k) = 0 := by
      unfold btN
      rw [Nat.div_eq_of_lt (Nat.lt_of_lt_of_le hr (Nat.pow_le_pow_right (by omega) (by omega)))]
    rw [this, if_neg (by omega)]
    rfl
theorem bt_all : ∀ p : Fin 6, ∀ q : Fin 6, ∀ r : Fin (2 ^ p.val), btN (r.val + 2 ^ p.val) q.val = if q.val = p.val then 1 else btN r.val q.val := by decide +kernel
theorem bt_top : ∀ p : Fin 6, ∀ r : Fin (2 ^ p.val), btN r.val p.val = 0 := by decide +kernel
theorem wtN_top {w : Nat → Nat} {p r : Nat} (hp : p < 6) (hr : r < 2 ^ p) : wtN w (r + 2 ^ p) 6 = wtN w r 6 + w p := by
  have key : ∀ n, n ≤ 6 → wtN w (r + 2 ^ p) n = wtN w r n + (if p < n then w p else 0) := by
    intro n
    induction n with
    | zero => intro _; rfl
    | succ n ih =>
      intro hn
      have h1 : btN (r + 2 ^ p) n = if n = p then 1 else btN r n := bt_all ⟨p, hp⟩ ⟨n, by omega⟩ ⟨r, hr⟩
      show wtN w (r + 2 ^ p) n + (if btN (r + 2 ^ p) n = 1 then w n else 0) = wtN w r n + (if btN r n = 1 then w n else 0) + (if p < n + 1 then w p else 0)
      rw [ih (by omega)]
      by_cases hnp : n = p
      · subst hnp
        have h2 : btN r n = 0 := bt_top ⟨n, hp⟩ ⟨r, hr⟩
        have a1 : (if n < n then w n else 0) = 0 := if_neg (by omega)
        have a2 : (if n < n + 1 then w n else 0) = w n := if_pos (by omega)
        have a3 : (if btN (r + 2 ^ n) n = 1 then w n else 0) = w n := by rw [h1, if_pos rfl, if_pos rfl]
        have a4 : (if btN r n = 1 then w n else 0) = 0 := by rw [h2]; rfl
        rw [a1, a2, a3, a4]
      · rw [if_neg hnp] at h1
        rw [h1]
        by_cases hlt : p < n
        · have a1 : (if p < n then w p else 0) = w p := if_pos hlt
          have a2 : (if p < n + 1 then w p else 0) = w p := if_pos (by omega)
          rw [a1, a2]; omega
        · have a1 : (if p < n then w p else 0) = 0 := if_neg hlt
          have a2 : (if p < n + 1 then w p else 0) = 0 := if_neg (by omega)
          rw [a1, a2]; omega
  rw [key 6 (by omega), if_pos hp]
/-- by cars: the first c cars take the set s, onto what they hold -/
def wyN (w L A : Nat → Nat) : Nat → Nat → Nat
  | 0, s => if s = 0 then 1 else 0
  | c + 1, s => smN (fun r => if r &&& s = r ∧ A c + wtN w r 6 = L c then wyN w L A c (s ^^^ r) else 0) 64
theorem wyN_s {w L A : Nat → Nat} {c s : Nat} : wyN w L A (c + 1) s = smN (fun r => if r &&& s = r ∧ A c + wtN w r 6 = L c then wyN w L A c (s ^^^ r) else 0) 64 := rfl
theorem wyN_cg {w L A A' : Nat → Nat} : ∀ {c s : Nat}, (∀ j, j < c → A j = A' j) → wyN w L A c s = wyN w L A' c s
  | 0, s, _ => rfl
  | c + 1, s, h => by
    rw [wyN_s, wyN_s]
    exact smN_cg (fun r _ => by rw [h c (by omega), wyN_cg (fun j hj => h j (by omega))])
def adA (A : Nat → Nat) (j v : Nat) : Nat → Nat := fun k => if k = j then A k + v else A k
theorem land_le {r s : Nat} (h : r &&& s = r) : r ≤ s := by rw [← h]; exact Nat.and_le_right
theorem sub_lo : ∀ p : Fin 6, ∀ r : Fin (2 ^ p.val), ∀ s : Fin (2 ^ p.val), r.val &&& (s.val + 2 ^ p.val) = r.val &&& s.val ∧ (s.val + 2 ^ p.val) ^^^ r.val = (s.val ^^^ r.val) + 2 ^ p.val ∧ s.val ^^^ r.val < 2 ^ p.val := by decide +kernel
theorem sub_hi : ∀ p : Fin 6, ∀ r : Fin (2 ^ p.val), ∀ s : Fin (2 ^ p.val), (r.val + 2 ^ p.val) &&& (s.val + 2 ^ p.val) = (r.val &&& s.val) + 2 ^ p.val ∧ (s.val + 2 ^ p.val) ^^^ (r.val + 2 ^ p.val) = s.val ^^^ r.val := by decide +kernel
theorem pw_6 {p : Nat} (hp : p < 6) : 2 ^ p + 2 ^ p ≤ 64 := by
  have : 2 ^ (p + 1) ≤ 2 ^ 6 := Nat.pow_le_pow_right (by omega) (by omega)
  have e : 2 ^ (p + 1) = 2 ^ p + 2 ^ p := by rw [Nat.pow_succ]; omega
  omega
theorem wyN_lo {w L A : Nat → Nat} {c p s : Nat} (hp : p < 6) (hs : s < 2 ^ p) : wyN w L A (c + 1) s = smN (fun r => if r &&& s = r ∧ A c + wtN w r 6 = L c then wyN w L A c (s ^^^ r) else 0) (2 ^ p) := by
  rw [wyN_s]
  exact smN_ext (by have := pw_6 hp; omega) (fun i h1 h2 => by rw [if_neg (fun z => by have := land_le z.1; omega)])
theorem wyN_top {w L : Nat → Nat} {p : Nat} (hp : p < 6) : ∀ {c s : Nat} {A : Nat → Nat}, s < 2 ^ p → wyN w L A c (s + 2 ^ p) = smN (fun j => wyN w L (adA A j (w p)) c s) c
  | 0, s, A, hs => by
    show (if s + 2 ^ p = 0 then 1 else 0) = 0
    rw [if_neg (by have := Nat.two_pow_pos p; omega)]
  | c + 1, s, A, hs => by
    have h64 := pw_6 hp
    rw [wyN_s, smN_ext (m := 2 ^ p + 2 ^ p) h64 (fun i h1 h2 => by rw [if_neg (fun z => by have := land_le z.1; omega)]), smN_split]
    show _ = smN (fun j => wyN w L (adA A j (w p)) (c + 1) s) c + wyN w L (adA A c (w p)) (c + 1) s
    congr 1
    · have e1 : smN (fun r => if r &&& (s + 2 ^ p) = r ∧ A c + wtN w r 6 = L c then wyN w L A c ((s + 2 ^ p) ^^^ r) else 0) (2 ^ p) = smN (fun r => smN (fun j => if r &&& s = r ∧ A c + wtN w r 6 = L c then wyN w L (adA A j (w p)) c (s ^^^ r) else 0) c) (2 ^ p) := smN_cg (fun r hr => by
        obtain ⟨k1, k2, k3⟩ := sub_lo ⟨p, hp⟩ ⟨r, hr⟩ ⟨s, hs⟩
        dsimp only at k1 k2 k3
        rw [k1, k2, wyN_top hp k3, smN_ite])
      rw [e1, smN_swap]
      exact smN_cg (fun j hj => by
        rw [wyN_lo hp hs]
        have e2 : adA A j (w p) c = A c := by unfold adA; rw [if_neg (by omega)]
        rw [e2])
    · rw [wyN_lo hp hs]
      refine smN_cg (fun r hr => ?_)
      obtain ⟨k1, k2⟩ := sub_hi ⟨p, hp⟩ ⟨r, hr⟩ ⟨s, hs⟩
      dsimp only at k1 k2
      have e2 : adA A c (w p) c = A c + w p := by unfold adA; rw [if_pos rfl]
      have e3 : wyN w L (adA A c (w p)) c (s ^^^ r) = wyN w L A c (s ^^^ r) := wyN_cg (fun j hj => by unfold adA; rw [if_neg (by omega)])
      rw [Nat.add_comm (2 ^ p) r, k1, k2, wtN_top hp hr, e2, e3]
      by_cases hc : r &&& s = r ∧ A c + w p + wtN w r 6 = L c
      · rw [if_pos hc, if_pos ⟨by rw [hc.1], by omega⟩]
      · rw [if_neg hc, if_neg (fun z => hc ⟨by omega, by omega⟩)]
theorem wt_0 {w : Nat → Nat} : ∀ n, wtN w 0 n = 0
  | 0 => rfl
  | n + 1 => by
    show wtN w 0 n + (if btN 0 n = 1 then w n else 0) = 0
    rw [wt_0 n, if_neg (by unfold btN; rw [Nat.zero_div]; omega)]
theorem wyN_0 {w L A : Nat → Nat} : ∀ c, wyN w L A c 0 = if ∀ j, j < c → A j = L j then 1 else 0
  | 0 => by
    show (if (0 : Nat) = 0 then 1 else 0) = _
    rw [if_pos rfl, if_pos (fun j hj => absurd hj (by omega))]
  | c + 1 => by
    rw [wyN_s, smN_ext (m := 1) (by omega) (fun i h1 h2 => by rw [if_neg (fun z => by have := land_le z.1; omega)])]
    show 0 + (if 0 &&& 0 = 0 ∧ A c + wtN w 0 6 = L c then wyN w L A c (0 ^^^ 0) else 0) = _
    rw [wt_0, show (0 : Nat) ^^^ 0 = 0 from rfl, wyN_0 c]
    by_cases h1 : A c = L c
    · rw [if_pos ⟨rfl, by omega⟩]
      by_cases h2 : ∀ j, j < c → A j = L j
      · rw [if_pos h2, if_pos (fun j hj => by
          by_cases hjc : j = c
          · rw [hjc]; exact h1
          · exact h2 j (by omega))]
      · rw [if_neg h2, if_neg (fun z => h2 (fun j hj => z j (by omega)))]
    · rw [if_neg (fun z => h1 (by omega)), if_neg (fun z => h1 (z c (by omega)))]
/-! by people: every way is a number of base b -/
def dgN (b p t : Nat) : Nat := t / b ^ p % b
def seN (b t : Nat) : Nat → Nat
  | 0 => 0
  | n + 1 => seN b t n + (if dgN b n t = 0 then 0 else 2 ^ n)
def lcN (w : Nat → Nat) (b t c : Nat) : Nat → Nat
  | 0 => 0
  | n + 1 => lcN w b t c n + (if dgN b n t = c + 1 then w n else 0)
theorem dg_lo {b n p t d : Nat} (hb : 0 < b) (hp : p < n) : dgN b p (t + d * b ^ n) = dgN b p t := by
  unfold dgN
  obtain ⟨m, rfl⟩ : ∃ m, n = p + (m + 1) := ⟨n - p - 1, by omega⟩
  have e : d * b ^ (p + (m + 1)) = b ^ p * (b * (d * b ^ m)) := by rw [Nat.pow_add, Nat.pow_succ]; ac_rfl
  rw [e, Nat.add_mul_div_left _ _ (Nat.pow_pos hb), Nat.add_mul_mod_self_left]
theorem dg_hi {b n t d : Nat} (hb : 0 < b) (ht : t < b ^ n) (hd : d < b) : dgN b n (t + d * b ^ n) = d := by
  unfold dgN
  rw [Nat.mul_comm d, Nat.add_mul_div_left _ _ (Nat.pow_pos hb), Nat.div_eq_of_lt ht, Nat.zero_add, Nat.mod_eq_of_lt hd]
theorem se_lo {b t d n : Nat} (hb : 0 < b) : ∀ {k : Nat}, k ≤ n → seN b (t + d * b ^ n) k = seN b t k
  | 0, _ => rfl
  | k + 1, h => by
    show seN b (t + d * b ^ n) k + _ = seN b t k + _
    rw [se_lo hb (by omega), dg_lo hb (by omega)]
theorem lc_lo {w : Nat → Nat} {b t d c n : Nat} (hb : 0 < b) : ∀ {k : Nat}, k ≤ n → lcN w b (t + d * b ^ n) c k = lcN w b t c k
  | 0, _ => rfl
  | k + 1, h => by
    show lcN w b (t + d * b ^ n) c k + _ = lcN w b t c k + _
    rw [lc_lo hb (by omega), dg_lo hb (by omega)]
theorem se_lt {b t : Nat} : ∀ n, seN b t n < 2 ^ n
  | 0 => by show 0 < 1; omega
  | n + 1 => by
    have h := se_lt (b := b) (t := t) n
    show seN b t n + _ < _
    rw [Nat.pow_succ]
    split <;> omega
abbrev okP (w L A : Nat → Nat) (k t n : Nat) : Prop := ∀ c, c < k → A c + lcN w (k + 1) t c n = L c
def rnN (w L A : Nat → Nat) (k n s : Nat) : Nat := smN (fun t => if seN (k + 1) t n = s ∧ okP w L A k t n then 1 else 0) ((k + 1) ^ n)
theorem okP_s {w L A : Nat → Nat} {k t d n : Nat} (ht : t < (k + 1) ^ n) (hd : d < k + 1) : okP w L A k (t + d * (k + 1) ^ n) (n + 1) ↔ okP w L (if d = 0 then A else adA A (d - 1) (w n)) k t n := by
  have e : ∀ c, lcN w (k + 1) (t + d * (k + 1) ^ n) c (n + 1) = lcN w (k + 1) t c n + (if d = c + 1 then w n else 0) := fun c => by
    show lcN w (k + 1) (t + d * (k + 1) ^ n) c n + (if dgN (k + 1) n (t + d * (k + 1) ^ n) = c + 1 then w n else 0) = _
    rw [lc_lo (by omega) (Nat.le_refl _), dg_hi (by omega) ht hd]
  have e2 : ∀ c, (if d = 0 then A else adA A (d - 1) (w n)) c = A c + (if d = c + 1 then w n else 0) := fun c => by
    by_cases h0 : d = 0
    · rw [if_pos h0, if_neg (by omega)]; rfl
    · rw [if_neg h0]
      unfold adA
      by_cases h1 : c = d - 1
      · rw [if_pos h1, if_pos (by omega)]
      · rw [if_neg h1, if_neg (by omega)]; rfl
  constructor
  · intro h c hc
    have := h c hc
    rw [e] at this
    rw [e2]
    omega
  · intro h c hc
    have := h c hc
    rw [e2] at this
    rw [e]
    omega
theorem se_s {k t d n : Nat} (ht : t < (k + 1) ^ n) (hd : d < k + 1) : seN (k + 1) (t + d * (k + 1) ^ n) (n + 1) = seN (k + 1) t n + (if d = 0 then 0 else 2 ^ n) := by
  show seN (k + 1) (t + d * (k + 1) ^ n) n + _ = _
  rw [se_lo (by omega) (Nat.le_refl _), dg_hi (by omega) ht hd]
theorem rnN_eq {w L : Nat → Nat} {k : Nat} : ∀ {n : Nat}, n ≤ 6 → ∀ {s : Nat} {A : Nat → Nat}, s < 2 ^ n → rnN w L A k n s = wyN w L A k s
  | 0, _, s, A, hs => by
    obtain rfl : s = 0 := by have : (2 : Nat) ^ 0 = 1 := rfl; omega
    rw [wyN_0]
    show 0 + (if seN (k + 1) 0 0 = 0 ∧ okP w L A k 0 0 then 1 else 0) = _
    rw [Nat.zero_add]
    by_cases h : ∀ c, c < k → A c = L c
    · rw [if_pos h, if_pos ⟨rfl, h⟩]
    · rw [if_neg h, if_neg (fun z => h z.2)]
  | n + 1, hn, s, A, hs => by
    have key : rnN w L A k (n + 1) s = smN (fun d => smN (fun t => if seN (k + 1) t n + (if d = 0 then 0 else 2 ^ n) = s ∧ okP w L (if d = 0 then A else adA A (d - 1) (w n)) k t n then 1 else 0) ((k + 1) ^ n)) (k + 1) := by
      unfold rnN
      rw [Nat.pow_succ, smN_mul]
      refine smN_cg (fun d hd => smN_cg (fun t ht => ?_))
      rw [se_s ht hd]
      by_cases hc : okP w L (if d = 0 then A else adA A (d - 1) (w n)) k t n
      · have h2 := (okP_s ht hd).mpr hc
        by_cases h3 : seN (k + 1) t n + (if d = 0 then 0 else 2 ^ n) = s
        · rw [if_pos ⟨h3, h2⟩, if_pos ⟨h3, hc⟩]
        · rw [if_neg (fun z => h3 z.1), if_neg (fun z => h3 z.1)]
      · rw [if_neg (fun z => hc ((okP_s ht hd).mp z.2)), if_neg (fun z => hc z.2)]
    rw [key, smN_first]
    have e0 : smN (fun t => if seN (k + 1) t n + (if 0 = 0 then 0 else 2 ^ n) = s ∧ okP w L (if 0 = 0 then A else adA A (0 - 1) (w n)) k t n then 1 else 0) ((k + 1) ^ n) = smN (fun t => if seN (k + 1) t n = s ∧ okP w L A k t n then 1 else 0) ((k + 1) ^ n) := rfl
    rw [e0]
    have hpw : (2 : Nat) ^ (n + 1) = 2 ^ n + 2 ^ n := by rw [Nat.pow_succ]; omega
    by_cases hlo : s < 2 ^ n
    · rw [smN_z (f := fun i => _) (fun i hi => smN_z (fun t ht => by rw [if_neg (fun z => by have := z.1; rw [if_neg (by omega)] at this; omega)]))]
      rw [Nat.add_zero]
      exact rnN_eq (by omega) hlo
    · rw [smN_z (f := fun t => if seN (k + 1) t n = s ∧ okP w L A k t n then 1 else 0) (fun t ht => by rw [if_neg (fun z => by have := se_lt (b := k + 1) (t := t) n; have := z.1; omega)])]
      rw [Nat.zero_add]
      obtain ⟨s', rfl⟩ : ∃ s', s = s' + 2 ^ n := ⟨s - 2 ^ n, by omega⟩
      rw [wyN_top (by omega) (by omega)]
      refine smN_cg (fun j hj => ?_)
      rw [← rnN_eq (n := n) (by omega) (by omega)]
      unfold rnN
      refine smN_cg (fun t ht => ?_)
      have q1 : (if j + 1 = 0 then 0 else 2 ^ n) = 2 ^ n := if_neg (by omega)
      have q2 : (if j + 1 = 0 then A else adA A (j + 1 - 1) (w n)) = adA A j (w n) := if_neg (by omega)
      rw [q1, q2]
      by_cases hc : seN (k + 1) t n = s' ∧ okP w L (adA A j (w n)) k t n
      · rw [if_pos hc, if_pos ⟨by omega, hc.2⟩]
      · rw [if_neg hc, if_neg (fun z => hc ⟨by omega, z.2⟩)]
/-- all ways -/
theorem ways_all {w L A : Nat → Nat} {k n : Nat} (hn : n ≤ 6) : smN (fun t => if okP w L A k t n then 1 else 0) ((k + 1) ^ n) = smN (fun s => wyN w L A k s) (2 ^ n) := by
  have e : smN (fun s => wyN w L A k s) (2 ^ n) = smN (fun s => smN (fun t => if seN (k + 1) t n = s ∧ okP w L A k t n then 1 else 0) ((k + 1) ^ n)) (2 ^ n) := smN_cg (fun s hs => (rnN_eq hn hs).symm)
  rw [e, smN_swap]
  exact smN_cg (fun t ht => (smN_one (se_lt n)).symm)
theorem ways_pos {w L A : Nat → Nat} {k n s : Nat} (hn : n ≤ 6) (hs : s < 2 ^ n) : 0 < wyN w L A k s ↔ ∃ t, t < (k + 1) ^ n ∧ seN (k + 1) t n = s ∧ okP w L A k t n := by
  rw [← rnN_eq hn hs]
  unfold rnN
  rw [smN_pos]
  constructor
  · rintro ⟨t, h1, h2⟩
    by_cases hc : seN (k + 1) t n = s ∧ okP w L A k t n
    · exact ⟨t, h1, hc⟩
    · rw [if_neg hc] at h2; exact absurd h2 (by omega)
  · rintro ⟨t, h1, h2⟩
    exact ⟨t, h1, by rw [if_pos h2]; omega⟩
theorem ways_le {w L A : Nat → Nat} {k n s : Nat} (hn : n ≤ 6) (hs : s < 2 ^ n) : wyN w L A k s ≤ (k + 1) ^ n := by
  rw [← rnN_eq hn hs]
  exact smN_le (fun i _ => by split <;> omega)
