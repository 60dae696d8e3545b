/-! THE LAW'S LOOP -/
set_option maxHeartbeats 4000000 in
set_option maxRecDepth 100000 in
theorem law_loop {x : CX} {T : TT} {b L X : Nat} {xs : Nat → Int32} (h : Ok x RL cL_law 14) (hR : x.2.2.2.2.1 = room_1) (hnl : x.2.2.2.2.2.2.2.2.2.2.2.1 = 4) (hx : Sc x b L xs) (hL : L ≤ 448) (hend : ∀ (Mi : MI) (Ml : ML) (lv : List (Option Value)), V x 206 2625 T Mi Ml 1294 lv [.int (nI 1)]) :
    ∀ (n i : Nat) (σ : ST) (Mi : MI) (Ml : ML), L - i < n → i ≤ L → CInv x.1 T Mi Ml X σ → MInv x.1 T Mi Ml (X + 194) σ → PInv σ → V x 206 2625 T Mi Ml 18 [some (.ref b), some (.ref X), some (.ref (X + 194)), some (.int (nI i))] [] := by
  intro n
  induction n with
  | zero => intro i σ Mi Ml hN; exact absurd hN (by omega)
  | succ n ih =>
    intro i σ Mi Ml hN hiL hC hM hP
    refine jv_iload_n h dL_law_18 rfl ?_
    refine jv_aload_n h dL_law_19 rfl ?_
    refine jv_slen h hx dL_law_20 ?_
    refine jv_bipush (nI 7) h dL_law_21 (by decide) ?_
    refine jv_isub h dL_law_23 ?_
    refine jv_icmp_gt 1293 h dL_law_24 (by decide) (fun c24 => ?_) (fun c24 => ?_)
    · refine jv_iconst (nI 1) h dL_law_1293 (by decide) ?_
      exact hend _ _ _
    · have hi : i + 7 ≤ L := by
        rw [Int32.lt_iff_toInt_lt, pk_sub_toInt (by omega) (by decide), nI_toInt (by omega)] at c24
        omega
      have hk : ∀ (M2 : MI) (L2 : ML) (σ2 : ST), CInv x.1 T M2 L2 X σ2 → MInv x.1 T M2 L2 (X + 194) σ2 → PInv σ2 → V x 206 2625 T M2 L2 1287 [some (.ref b), some (.ref X), some (.ref (X + 194)), some (.int (nI i))] [] := by
        intro M2 L2 σ2 hC2 hM2 hP2
        refine jv_iinc (nI (i + 7)) h dL_law_1287 rfl (lt_nl hnl (by decide)) ((congrArg (fun z => nI i + z) (by decide : Int32.ofInt 7 = nI 7)).trans (nI_add i 7)) ?_
        refine jv_goto 18 h dL_law_1290 (by decide) ?_
        exact ih (i + 7) σ2 _ _ (by omega) hi hC2 hM2 hP2
      refine jv_aload_n h dL_law_27 rfl ?_
      refine jv_iload_n h dL_law_28 rfl ?_
      refine jv_sld h hx dL_law_29 (NF_nI _) ⟨by omega, by omega⟩ ?_
      refine jv_bipush (nI 31) h dL_law_30 (by decide) ?_
      refine jv_iand h dL_law_32 ?_
      obtain ⟨v9, hv9⟩ : ∃ v9 : Int32, v9 = xs i &&& nI 31 := ⟨_, rfl⟩
      rw [← hv9]
      rcases sw_cases v9 (n := 31) (by decide) with hsw | ⟨j, hj, hv⟩
      · refine jv_tabOut 1287 h dL_law_33 (by rcases hsw with z | z; exact Or.inl z; exact Or.inr (by omega)) (by decide) ?_
        exact hk _ _ _ hC hM hP
      · subst hv
        rcases (show j = 0 ∨ j = 1 ∨ j = 2 ∨ j = 3 ∨ j = 4 ∨ j = 5 ∨ j = 6 ∨ j = 7 ∨ j = 8 ∨ j = 9 ∨ j = 10 ∨ j = 11 ∨ j = 12 ∨ j = 13 ∨ j = 14 ∨ j = 15 ∨ j = 16 ∨ j = 17 ∨ j = 18 ∨ j = 19 ∨ j = 20 ∨ j = 21 ∨ j = 22 ∨ j = 23 ∨ j = 24 ∨ j = 25 ∨ j = 26 ∨ j = 27 ∨ j = 28 ∨ j = 29 ∨ j = 30 by omega) with rfl | rfl | rfl | rfl | rfl | rfl | rfl | rfl | rfl | rfl | rfl | rfl | rfl | rfl | rfl | rfl | rfl | rfl | rfl | rfl | rfl | rfl | rfl | rfl | rfl | rfl | rfl | rfl | rfl | rfl | rfl
        · refine jv_tabIn (off := 139) 172 h dL_law_33 (by decide) (by decide) (by decide) (by decide) ?_
          exact lc_person h hR hx hL hi hC hM hP hk
        · refine jv_tabIn (off := 192) 225 h dL_law_33 (by decide) (by decide) (by decide) (by decide) ?_
          exact lc_of h hR hx hL hi hC hM hP hk
        · refine jv_tabIn (off := 225) 258 h dL_law_33 (by decide) (by decide) (by decide) (by decide) ?_
          exact lc_car h hR hx hL hi hC hM hP hk
        · refine jv_tabIn (off := 258) 291 h dL_law_33 (by decide) (by decide) (by decide) (by decide) ?_
          exact lc_day h hR hx hL hi hC hM hP hk
        · refine jv_tabIn (off := 291) 324 h dL_law_33 (by decide) (by decide) (by decide) (by decide) ?_
          exact lc_rule h hR hx hL hi hC hM hP hk
        · refine jv_tabIn (off := 324) 357 h dL_law_33 (by decide) (by decide) (by decide) (by decide) ?_
          exact lc_type h hR hx hL hi hC hM hP hk
        · refine jv_tabIn (off := 347) 380 h dL_law_33 (by decide) (by decide) (by decide) (by decide) ?_
          exact lc_block h hR hx hL hi hC hM hP hk
        · refine jv_tabIn (off := 360) 393 h dL_law_33 (by decide) (by decide) (by decide) (by decide) ?_
          exact lc_count h hR hx hL hi hC hM hP hk
        · refine jv_tabIn (off := 383) 416 h dL_law_33 (by decide) (by decide) (by decide) (by decide) ?_
          exact lc_in h hR hx hL hi hC hM hP hk
        · refine jv_tabIn (off := 416) 449 h dL_law_33 (by decide) (by decide) (by decide) (by decide) ?_
          exact lc_out h hR hx hL hi hC hM hP hk
        · refine jv_tabIn (off := 439) 472 h dL_law_33 (by decide) (by decide) (by decide) (by decide) ?_
          exact lc_steps h hR hx hL hi hC hM hP hk
        · refine jv_tabIn (off := 462) 495 h dL_law_33 (by decide) (by decide) (by decide) (by decide) ?_
          exact lc_drift h hR hx hL hi hC hM hP hk
        · refine jv_tabIn (off := 485) 518 h dL_law_33 (by decide) (by decide) (by decide) (by decide) ?_
          exact lc_undo h hR hx hL hi hC hM hP hk
        · refine jv_tabIn (off := 498) 531 h dL_law_33 (by decide) (by decide) (by decide) (by decide) ?_
          exact lc_seed h hR hx hL hi hC hM hP hk
        · refine jv_tabIn (off := 521) 554 h dL_law_33 (by decide) (by decide) (by decide) (by decide) ?_
          exact lc_at h hR hx hL hi hC hM hP hk
        · refine jv_tabIn (off := 564) 597 h dL_law_33 (by decide) (by decide) (by decide) (by decide) ?_
          exact lc_place h hR hx hL hi hC hM hP hk
        · refine jv_tabIn (off := 597) 630 h dL_law_33 (by decide) (by decide) (by decide) (by decide) ?_
          exact lc_comes h hR hx hL hi hC hM hP hk
        · refine jv_tabIn (off := 640) 673 h dL_law_33 (by decide) (by decide) (by decide) (by decide) ?_
          exact lc_soonest h hR hx hL hi hC hM hP hk
        · refine jv_tabIn (off := 693) 726 h dL_law_33 (by decide) (by decide) (by decide) (by decide) ?_
          exact lc_never h hR hx hL hi hC hM hP hk
        · refine jv_tabIn (off := 726) 759 h dL_law_33 (by decide) (by decide) (by decide) (by decide) ?_
          exact lc_meet h hR hx hL hi hC hM hP hk
        · refine jv_tabIn (off := 769) 802 h dL_law_33 (by decide) (by decide) (by decide) (by decide) ?_
          exact lc_heaviest h hR hx hL hi hC hM hP hk
        · refine jv_tabIn (off := 792) 825 h dL_law_33 (by decide) (by decide) (by decide) (by decide) ?_
          exact lc_changed h hR hx hL hi hC hM hP hk
        · refine jv_tabIn (off := 845) 878 h dL_law_33 (by decide) (by decide) (by decide) (by decide) ?_
          exact lc_goes h hR hx hL hi hC hM hP hk
        · refine jv_tabIn (off := 878) 911 h dL_law_33 (by decide) (by decide) (by decide) (by decide) ?_
          exact lc_image h hR hx hL hi hC hM hP hk
        · refine jv_tabIn (off := 891) 924 h dL_law_33 (by decide) (by decide) (by decide) (by decide) ?_
          exact lc_restore h hR hx hL hi hC hM hP hk
        · refine jv_tabIn (off := 904) 937 h dL_law_33 (by decide) (by decide) (by decide) (by decide) ?_
          exact lc_weighed h hR hx hL hi hC hM hP hk
        · refine jv_tabIn (off := 967) 1000 h dL_law_33 (by decide) (by decide) (by decide) (by decide) ?_
          exact lc_film h hR hx hL hi hC hM hP hk
        · refine jv_tabIn (off := 1042) 1075 h dL_law_33 (by decide) (by decide) (by decide) (by decide) ?_
          exact lc_sheet h hR hx hL hi hC hM hP hk
        · refine jv_tabIn (off := 1085) 1118 h dL_law_33 (by decide) (by decide) (by decide) (by decide) ?_
          exact lc_drop h hR hx hL hi hC hM hP hk
        · refine jv_tabIn (off := 1108) 1141 h dL_law_33 (by decide) (by decide) (by decide) (by decide) ?_
          exact lc_item h hR hx hL hi hC hM hP hk
        · refine jv_tabIn (off := 1191) 1224 h dL_law_33 (by decide) (by decide) (by decide) (by decide) ?_
          exact lc_copy h hR hx hL hi hC hM hP hk
