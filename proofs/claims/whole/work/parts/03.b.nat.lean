def bI (b : Bool) : Int32 := cond b (nI 1) (nI 0)
theorem bI_0 {b : Bool} : bI b = 0 ↔ b = false := by cases b <;> decide
theorem bI_nar (b : Bool) : narrow .boolean (.int (bI b)) = .int (bI b) := by cases b <;> rfl
theorem bI_t {P : Prop} [Decidable P] (h : P) : (some (Value.int (nI 1)) : Option Value) = some (.int (bI (decide P))) := by simp [bI, h]
theorem bI_f {P : Prop} [Decidable P] (h : ¬ P) : (some (Value.int (nI 0)) : Option Value) = some (.int (bI (decide P))) := by simp [bI, h]
/-! ROWS BY NATURAL NUMBERS -/
theorem nI_inc (i : Nat) : nI i + Int32.ofInt 1 = nI (i + 1) := nI_1 i
section NR
variable {x : CX} {cs sl : Nat} {T : TT} {Mi : MI} {Ml : ML} {pc : Nat} {lv : List (Option Value)} {st : List Value} {own : String} {cc : ByteArray} {d : Nat}
variable {idx ci a k : Nat} {C : String} {F : u_T} {ty : Nat → FieldType}
theorem jv_gv (k : Nat) {v : Int32} (h : Ok x own cc d) (dc : decode cc pc = .ok (.getfield idx, 3)) (hc : CF ci C F ty) (hk : k < nf ci ∧ tc ci k ≠ 1 ∧ tc ci k ≠ 2 ∧ tc ci k ≠ 3) (hw : Cond.fieldLink own idx (F k).1 (F k).2.1 (F k).2.2.1 ∈ lw_good) (hm : KD x.1 T a ci) (hv : Mi a k = v) (kk : V x cs sl T Mi Ml (pc + 3) lv (.int v :: st)) : V x cs sl T Mi Ml pc lv (.ref a :: st) := by
  subst hv; exact jv_gi k h dc hc hk hw hm kk
theorem jv_glv (k : Nat) {v : Int64} (h : Ok x own cc d) (dc : decode cc pc = .ok (.getfield idx, 3)) (hc : CF ci C F ty) (hk : k < nf ci ∧ tc ci k = 1) (hw : Cond.fieldLink own idx (F k).1 (F k).2.1 (F k).2.2.1 ∈ lw_good) (hm : KD x.1 T a ci) (hv : Ml a k = v) (kk : V x cs sl T Mi Ml (pc + 3) lv (.long v :: st)) : V x cs sl T Mi Ml pc lv (.ref a :: st) := by
  subst hv; exact jv_gl k h dc hc hk hw hm kk
theorem jv_iav {n j : Nat} {i v : Int32} (h : Ok x own cc d) (dc : decode cc pc = .ok (.iaload, 1)) (hm : AR x.1 T a 12 n) (hi : NF i j) (hj : j < n ∧ n < 2 ^ 31) (hv : Mi a j = v) (kk : V x cs sl T Mi Ml (pc + 1) lv (.int v :: st)) : V x cs sl T Mi Ml pc lv (.int i :: .ref a :: st) := by
  subst hv; exact jv_iald h dc hm hi hj kk
theorem jv_lav {n j : Nat} {i : Int32} {v : Int64} (h : Ok x own cc d) (dc : decode cc pc = .ok (.laload, 1)) (hm : AR x.1 T a 13 n) (hi : NF i j) (hj : j < n ∧ n < 2 ^ 31) (hv : Ml a j = v) (kk : V x cs sl T Mi Ml (pc + 1) lv (.long v :: st)) : V x cs sl T Mi Ml pc lv (.int i :: .ref a :: st) := by
  subst hv; exact jv_lald h dc hm hi hj kk
variable {u v : Int32} {m n : Nat} {off : Int}
theorem jv_iaddN (h : Ok x own cc d) (dc : decode cc pc = .ok (.iadd, 1)) (hu : NF u m) (hv : NF v n) (kk : V x cs sl T Mi Ml (pc + 1) lv (.int (nI (m + n)) :: st)) : V x cs sl T Mi Ml pc lv (.int v :: .int u :: st) := by
  refine jv_iadd h dc ?_; rw [NF_add hu hv]; exact kk
theorem jv_imulN (h : Ok x own cc d) (dc : decode cc pc = .ok (.imul, 1)) (hu : NF u m) (hv : NF v n) (kk : V x cs sl T Mi Ml (pc + 1) lv (.int (nI (m * n)) :: st)) : V x cs sl T Mi Ml pc lv (.int v :: .int u :: st) := by
  refine jv_imul h dc ?_; rw [NF_mul hu hv]; exact kk
theorem jv_isubN (h : Ok x own cc d) (dc : decode cc pc = .ok (.isub, 1)) (hu : NF u m) (hv : NF v n) (hl : n ≤ m) (kk : V x cs sl T Mi Ml (pc + 1) lv (.int (nI (m - n)) :: st)) : V x cs sl T Mi Ml pc lv (.int v :: .int u :: st) := by
  refine jv_isub h dc ?_; rw [NF_sub hl hu hv]; exact kk
theorem jv_idivN (h : Ok x own cc d) (dc : decode cc pc = .ok (.idiv, 1)) (hu : NF u m) (hv : NF v n) (hm : m < 2 ^ 31) (hn : 0 < n ∧ n < 2 ^ 31) (kk : V x cs sl T Mi Ml (pc + 1) lv (.int (nI (m / n)) :: st)) : V x cs sl T Mi Ml pc lv (.int v :: .int u :: st) := by
  refine jv_idiv h dc (by rw [hv]; exact nI_ne0 hn.1 hn.2) ?_; rw [hu, hv, pk_div hm hn.1 hn.2]; exact kk
theorem jv_iremN (h : Ok x own cc d) (dc : decode cc pc = .ok (.irem, 1)) (hu : NF u m) (hv : NF v n) (hm : m < 2 ^ 31) (hn : 0 < n ∧ n < 2 ^ 31) (kk : V x cs sl T Mi Ml (pc + 1) lv (.int (nI (m % n)) :: st)) : V x cs sl T Mi Ml pc lv (.int v :: .int u :: st) := by
  refine jv_irem h dc (by rw [hv]; exact nI_ne0 hn.1 hn.2) ?_; rw [hu, hv, pk_rem hm hn.1 hn.2]; exact kk
theorem jv_neq (tgt : Nat) (h : Ok x own cc d) (dc : decode cc pc = .ok (.if_icmp .eq off, 3)) (ht : (pc : Int) + off = (tgt : Int)) (hu : NF u m) (hv : NF v n) (hm : m < 2 ^ 31 ∧ n < 2 ^ 31) (kt : m = n → V x cs sl T Mi Ml tgt lv st) (kf : m ≠ n → V x cs sl T Mi Ml (pc + 3) lv st) : V x cs sl T Mi Ml pc lv (.int v :: .int u :: st) :=
  jv_icmp_eq tgt h dc ht (fun q => kt (by rw [hu, hv] at q; exact (nI_eq hm.1 hm.2).mp q)) (fun q => kf (fun z => q (by rw [hu, hv, z])))
theorem jv_nne (tgt : Nat) (h : Ok x own cc d) (dc : decode cc pc = .ok (.if_icmp .ne off, 3)) (ht : (pc : Int) + off = (tgt : Int)) (hu : NF u m) (hv : NF v n) (hm : m < 2 ^ 31 ∧ n < 2 ^ 31) (kt : m ≠ n → V x cs sl T Mi Ml tgt lv st) (kf : m = n → V x cs sl T Mi Ml (pc + 3) lv st) : V x cs sl T Mi Ml pc lv (.int v :: .int u :: st) :=
  jv_icmp_ne tgt h dc ht (fun q => kt (fun z => q (by rw [hu, hv, z]))) (fun q => kf (by rw [hu, hv] at q; exact (nI_eq hm.1 hm.2).mp q))
theorem jv_nlt (tgt : Nat) (h : Ok x own cc d) (dc : decode cc pc = .ok (.if_icmp .lt off, 3)) (ht : (pc : Int) + off = (tgt : Int)) (hu : NF u m) (hv : NF v n) (hm : m < 2 ^ 31 ∧ n < 2 ^ 31) (kt : m < n → V x cs sl T Mi Ml tgt lv st) (kf : n ≤ m → V x cs sl T Mi Ml (pc + 3) lv st) : V x cs sl T Mi Ml pc lv (.int v :: .int u :: st) :=
  jv_icmp_lt tgt h dc ht (fun q => kt (by rw [hu, hv] at q; exact (nI_ltI hm.1 hm.2).mp q)) (fun q => kf (by rw [hu, hv, nI_ltI hm.1 hm.2] at q; omega))
theorem jv_nge (tgt : Nat) (h : Ok x own cc d) (dc : decode cc pc = .ok (.if_icmp .ge off, 3)) (ht : (pc : Int) + off = (tgt : Int)) (hu : NF u m) (hv : NF v n) (hm : m < 2 ^ 31 ∧ n < 2 ^ 31) (kt : n ≤ m → V x cs sl T Mi Ml tgt lv st) (kf : m < n → V x cs sl T Mi Ml (pc + 3) lv st) : V x cs sl T Mi Ml pc lv (.int v :: .int u :: st) :=
  jv_icmp_ge tgt h dc ht (fun q => kt (by rw [hu, hv] at q; exact (nI_leI hm.2 hm.1).mp q)) (fun q => kf (by rw [hu, hv, nI_leI hm.2 hm.1] at q; omega))
theorem jv_ngt (tgt : Nat) (h : Ok x own cc d) (dc : decode cc pc = .ok (.if_icmp .gt off, 3)) (ht : (pc : Int) + off = (tgt : Int)) (hu : NF u m) (hv : NF v n) (hm : m < 2 ^ 31 ∧ n < 2 ^ 31) (kt : n < m → V x cs sl T Mi Ml tgt lv st) (kf : m ≤ n → V x cs sl T Mi Ml (pc + 3) lv st) : V x cs sl T Mi Ml pc lv (.int v :: .int u :: st) :=
  jv_icmp_gt tgt h dc ht (fun q => kt (by rw [hu, hv] at q; exact (nI_ltI hm.2 hm.1).mp q)) (fun q => kf (by rw [hu, hv, nI_ltI hm.2 hm.1] at q; omega))
theorem jv_nle (tgt : Nat) (h : Ok x own cc d) (dc : decode cc pc = .ok (.if_icmp .le off, 3)) (ht : (pc : Int) + off = (tgt : Int)) (hu : NF u m) (hv : NF v n) (hm : m < 2 ^ 31 ∧ n < 2 ^ 31) (kt : m ≤ n → V x cs sl T Mi Ml tgt lv st) (kf : n < m → V x cs sl T Mi Ml (pc + 3) lv st) : V x cs sl T Mi Ml pc lv (.int v :: .int u :: st) :=
  jv_icmp_le tgt h dc ht (fun q => kt (by rw [hu, hv] at q; exact (nI_leI hm.1 hm.2).mp q)) (fun q => kf (by rw [hu, hv, nI_leI hm.1 hm.2] at q; omega))
theorem jv_zeq (tgt : Nat) (h : Ok x own cc d) (dc : decode cc pc = .ok (.ifCond .eq off, 3)) (ht : (pc : Int) + off = (tgt : Int)) (hu : NF u m) (hm : m < 2 ^ 31) (kt : m = 0 → V x cs sl T Mi Ml tgt lv st) (kf : m ≠ 0 → V x cs sl T Mi Ml (pc + 3) lv st) : V x cs sl T Mi Ml pc lv (.int u :: st) :=
  jv_if_eq tgt h dc ht (fun q => kt (by rw [hu] at q; exact (nI_eq hm (by decide)).mp q)) (fun q => kf (fun z => q (by rw [hu, z]; rfl)))
theorem jv_zne (tgt : Nat) (h : Ok x own cc d) (dc : decode cc pc = .ok (.ifCond .ne off, 3)) (ht : (pc : Int) + off = (tgt : Int)) (hu : NF u m) (hm : m < 2 ^ 31) (kt : m ≠ 0 → V x cs sl T Mi Ml tgt lv st) (kf : m = 0 → V x cs sl T Mi Ml (pc + 3) lv st) : V x cs sl T Mi Ml pc lv (.int u :: st) :=
  jv_if_ne tgt h dc ht (fun q => kt (fun z => q (by rw [hu, z]; rfl))) (fun q => kf (by rw [hu] at q; exact (nI_eq hm (by decide)).mp q))
theorem jv_beq {b : Bool} (tgt : Nat) (h : Ok x own cc d) (dc : decode cc pc = .ok (.ifCond .eq off, 3)) (ht : (pc : Int) + off = (tgt : Int)) (kt : b = false → V x cs sl T Mi Ml tgt lv st) (kf : b = true → V x cs sl T Mi Ml (pc + 3) lv st) : V x cs sl T Mi Ml pc lv (.int (bI b) :: st) :=
  jv_if_eq tgt h dc ht (fun q => kt (bI_0.mp q)) (fun q => kf (by cases b with | false => exact absurd (bI_0.mpr rfl) q | true => rfl))
theorem jv_bne {b : Bool} (tgt : Nat) (h : Ok x own cc d) (dc : decode cc pc = .ok (.ifCond .ne off, 3)) (ht : (pc : Int) + off = (tgt : Int)) (kt : b = true → V x cs sl T Mi Ml tgt lv st) (kf : b = false → V x cs sl T Mi Ml (pc + 3) lv st) : V x cs sl T Mi Ml pc lv (.int (bI b) :: st) :=
  jv_if_ne tgt h dc ht (fun q => kt (by cases b with | false => exact absurd (bI_0.mpr rfl) q | true => rfl)) (fun q => kf (bI_0.mp q))
end NR
/-- a car's number, 0 for none -/
def carI (c : Nat) : Int32 := if c = 0 then -1 else nI (c - 1)
theorem carI_0 : carI 0 = -1 := rfl
theorem carI_s (c : Nat) : carI (c + 1) = nI c := by simp [carI]
theorem nI_ne_m1 {n : Nat} (h : n < 2 ^ 31) : nI n ≠ -1 := by
  intro q
  have h1 := nI_toInt h
  rw [q] at h1
  have h2 : (-1 : Int32).toInt = -1 := by decide
  omega
theorem carI_m1 {c : Nat} (h : c < 2 ^ 31) : carI c = -1 ↔ c = 0 := by
  cases c with
  | zero => simp [carI]
  | succ c => rw [carI_s]; simp [nI_ne_m1 (show c < 2 ^ 31 by omega)]
theorem carI_eq {c j : Nat} (h : c < 2 ^ 31) (hj : j < 2 ^ 31) : carI c = nI j ↔ c = j + 1 := by
  cases c with
  | zero => simp [carI]; exact fun q => nI_ne_m1 hj q.symm
  | succ c => rw [carI_s, nI_eq (by omega) hj]; omega
theorem carI_neg {c : Nat} (h : c < 2 ^ 31) : carI c < 0 ↔ c = 0 := by
  cases c with
  | zero => simp [carI]
  | succ c => rw [carI_s]; simp [nI_pos (show c < 2 ^ 31 by omega)]
