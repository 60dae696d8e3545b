theorem BR.bit {x : Int64} {A : Nat → Bool} {j : Nat} (h : BR x A) (hj : j < 54) : lg_cmp ((x >>> ((nI j).toInt64 &&& 63)) &&& lN 1) (lN 0) = 0 ↔ A j = false := by
  have key : ∀ j : Fin 54, ((((nI j.val).toInt64 &&& 63) : Int64).toBitVec.smod 64).toNat = j.val := by decide +kernel
  have hk := key ⟨j, hj⟩
  dsimp only at hk
  have hb : ((x >>> ((nI j).toInt64 &&& 63)) &&& lN 1).toBitVec.getLsbD 0 = A j := by
    rw [Int64.toBitVec_and, BitVec.getLsbD_and, Int64.toBitVec_shiftRight]
    unfold BitVec.sshiftRight'
    rw [hk, BitVec.getLsbD_sshiftRight]
    have hx := h j
    rw [decide_eq_true hj, Bool.true_and] at hx
    have e1 : (lN 1).toBitVec.getLsbD 0 = true := by decide
    rw [e1]
    have h64 : j < 64 := by omega
    simp [h64]
    rw [← hx, BitVec.getLsbD_eq_getElem h64]
  rw [lg_cmp_eq0]
  constructor
  · intro hz
    rw [hz] at hb
    rw [← hb]
    decide
  · intro hA
    rw [hA] at hb
    apply Int64.toBitVec_inj.mp
    apply BitVec.eq_of_getLsbD_eq
    intro i hi
    have ez : (lN 0).toBitVec.getLsbD i = false := by have := BR.zero i; rw [this]; simp
    rw [ez]
    by_cases hi0 : i = 0
    · rw [hi0]; exact hb
    · rw [Int64.toBitVec_and, BitVec.getLsbD_and]
      have e1 : (lN 1).toBitVec.getLsbD i = false := by
        have := BR.one (j := 0) (by decide) i
        rw [show lN (2 ^ 0) = lN 1 from rfl] at this
        rw [this]
        simp [hi0]
      rw [e1, Bool.and_false]

set_option maxHeartbeats 4000000 in
set_option maxRecDepth 100000 in
theorem c_leastSpot {g : GT} {T : TT} {Mi : MI} {Ml : ML} {x9 : Int64} {A : Nat → Bool} (hA : BR x9 A) : Ct g yX9_leastSpot cX9_leastSpot 3 (some .int) 1 0 0 [.long x9] T Mi Ml (Ri T Mi Ml (fsN A 0 42)) := by
  refine Ct.of' (plainFor_of_name (by decide +kernel)) (by exact Nat.le_of_ble_eq_true rfl) ?_
  intro x hg hR h hr hnm hnl
  subst hg
  refine jv_iconst (nI 0) h dX9_leastSpot_0 (by decide) ?_
  refine jv_istore_n h dX9_leastSpot_1 (lt_nl hnl (by decide)) ?_
  have hl2 : ∀ (n : Nat) (i : Nat), 43 - i < n → i ≤ 42 → fsN A i (42 - i) = fsN A 0 42 → V x 0 0 T Mi Ml 2 [some (.long x9), none, some (.int (nI i))] [] := by
    intro n
    induction n with
    | zero => intro i hN9 hi hz; exact absurd hN9 (by omega)
    | succ n ih =>
      intro i hN9 hi hz
      refine jv_iload_n h dX9_leastSpot_2 rfl ?_
      refine jv_bipush (nI 42) h dX9_leastSpot_3 (by decide) ?_
      refine jv_nge 26 h dX9_leastSpot_5 (by decide) (by repeat (with_reducible first | exact NF_nI _ | assumption | refine NF_add ?_ ?_ | refine NF_mul ?_ ?_)) (by repeat (with_reducible first | exact NF_nI _ | assumption | refine NF_add ?_ ?_ | refine NF_mul ?_ ?_)) ⟨by omega, by omega⟩ (fun c5 => ?_) (fun c5 => ?_)
      · refine jv_bipush (-4) h dX9_leastSpot_26 (by decide) ?_
        exact jv_iret h hr dX9_leastSpot_28 ⟨by rw [show 42 - i = 0 by omega] at hz; rw [← hz]; rfl, rfl, rfl, rfl⟩
      · refine jv_lload_n h dX9_leastSpot_8 rfl ?_
        refine jv_iload_n h dX9_leastSpot_9 rfl ?_
        refine jv_lshr h dX9_leastSpot_10 ?_
        refine jv_lconst (lN 1) h dX9_leastSpot_11 (by decide) ?_
        refine jv_land h dX9_leastSpot_12 ?_
        refine jv_lconst (lN 0) h dX9_leastSpot_13 (by decide) ?_
        refine jv_lcmp h dX9_leastSpot_14 ?_
        refine jv_if_eq 20 h dX9_leastSpot_15 (by decide) (fun c15 => ?_) (fun c15 => ?_)
        · rw [hA.bit (by omega)] at c15
          refine jv_iinc (nI (i + 1)) h dX9_leastSpot_20 rfl (lt_nl hnl (by decide)) (nI_inc i) ?_
          refine jv_goto 2 h dX9_leastSpot_23 (by decide) ?_
          rw [show 42 - i = (42 - (i + 1)) + 1 by omega, fsN_s, if_neg (by rw [c15]; decide)] at hz
          exact ih (i + 1) (by omega) (by omega) hz
        · rw [hA.bit (by omega), Bool.not_eq_false] at c15
          refine jv_iload_n h dX9_leastSpot_18 rfl ?_
          exact jv_iret h hr dX9_leastSpot_19 ⟨by rw [show 42 - i = (42 - (i + 1)) + 1 by omega, fsN_s, if_pos c15] at hz; rw [← hz], rfl, rfl, rfl⟩
  exact hl2 44 0 (by omega) (by omega) rfl
