/-- from the entry, for every script of at most 448 ints, the law comes to its end with true -/
theorem whole_start {p : Program} {e : Env} {s : State} {m : MethodId} {below : List Frame} {meth : Method} {c : Code} (l : Launch) {b L : Nat} {xs : Nat → Int32} (hL : L ≤ 448) (C0 : lw_At p s m meth c b L xs) : W p l e room_1 s m #[Value.ref b] below meth c s.heap [] 0 0 (lw_Z below #[Value.ref b] s) (entryFrame m ([Value.ref b] : List Value).toArray 4) := by
  obtain ⟨hx, hb, hr, hml, hown, hts, hX, hbl, hlocks, hgv⟩ := id C0
  obtain ⟨g, hgz, hK, hSt⟩ := st_all hts (flat_of_before _ hgv)
  have hO : Ok (g, p, l, e, room_1, s, m, #[Value.ref b], below, meth, c, 4, lw_Z below #[Value.ref b] s) RL cL_law 14 := ⟨hx, hb, hml, hown, fun w hw => hts w (good_tbl hw), hlocks, hK, hSt, Nat.le_of_eq hgz, Nat.le_of_ble_eq_true rfl, Nat.le_of_ble_eq_true rfl⟩
  have hSc : Sc (g, p, l, e, room_1, s, m, #[Value.ref b], below, meth, c, 4, lw_Z below #[Value.ref b] s) b L xs := ⟨hX, hbl, fun q => absurd (show gZ g ≤ b from q) (by omega)⟩
  have hV := law_begin (T := (s.heap.size, fun _ => (0, 0), fun _ _ => none)) (Mi := fun _ _ => 0) (Ml := fun _ _ => 0) hO rfl rfl hSc hL (Nat.le_of_eq hgz) (fun T Mi Ml lv => by
    intro H locs ls hR hS hl
    refine va_forget (fun q hq => ?_) ?_
    · have := hS.2.2 q hq
      have this : gZ g ≤ q.base := this
      omega
    · refine W.widen (k := 600000) (n := 7302250) (Nat.le_of_ble_eq_true rfl) (Nat.le_of_ble_eq_true rfl) ?_
      exact lw_ret hx hb hr hlocks dL_law_1294)
  have hl := lv_entry ([.ref b]) (n := 4) (Nat.le_of_ble_eq_true rfl)
  rw [lg_entry_eq]
  refine hV s.heap [] _ ⟨rfl, Nat.le_of_eq hgz, fun a h1 h2 => absurd (show a < s.heap.size from h2) (by omega)⟩ va_S.rf ⟨hl.1, hl.2.1, fun i v hv => hl.2.2 (i, v) ?_⟩
  match i, hv with
  | 0, hv => cases hv; exact List.mem_cons_self
  | 1, hv => cases hv
  | 2, hv => cases hv
  | 3, hv => cases hv
  | i + 4, hv => simp [lget] at hv
