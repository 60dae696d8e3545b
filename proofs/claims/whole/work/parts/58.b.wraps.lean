def o_person (σ : ST) (k w f d : Int32) : Int32 × ST := ((sp_person σ.1.1 k w f d).1, (oz σ.1 (sp_person σ.1.1 k w f d).2 (fun S' => (S', σ.1.2.1, 0)), σ.2))
def o_of (σ : ST) (p w : Int32) : Int32 × ST := ((sp_of σ.1.1 p w), σ)
def o_car (σ : ST) (c w : Int32) : Int32 × ST := ((sp_car σ.1.1 c w), σ)
def o_day (σ : ST) (c v : Int32) : Int32 × ST := ((sp_day σ.1.1 c v).1, (((sp_day σ.1.1 c v).2, σ.1.2.1, σ.1.2.2), σ.2))
def o_rule (σ : ST) (w v : Int32) : Int32 × ST := ((sp_rule σ.1.1 w v).1, (((sp_rule σ.1.1 w v).2, σ.1.2.1, σ.1.2.2), σ.2))
def o_type (σ : ST) (v : Int32) : Int32 × ST := ((sp_type σ.2.1.1 σ.2.1.2 v).1, (σ.1, (sp_type σ.2.1.1 σ.2.1.2 v).2, σ.2.2))
def o_block (σ : ST)  : Int32 × ST := ((sp_block σ.2.1.1 σ.2.1.2 σ.1.1).1, (oz σ.1 (sp_block σ.2.1.1 σ.2.1.2 σ.1.1).2 (fun S' => (S', σ.1.2.1, 0)), (σ.2.1.1, 0), σ.2.2))
def o_count (σ : ST) (w : Int32) : Int32 × ST := ((sp_count σ.1.1 σ.1.2.2 w), σ)
def o_in (σ : ST) (p s : Int32) : Int32 × ST := ((sp_in σ.1.1 p s).1, (oz σ.1 (sp_in σ.1.1 p s).2 (puT σ.1), σ.2))
def o_out (σ : ST) (p : Int32) : Int32 × ST := ((sp_out σ.1.1 p).1, (oz σ.1 (sp_out σ.1.1 p).2 (puT σ.1), σ.2))
def o_steps (σ : ST) (k : Int32) : Int32 × ST := ((sp_steps σ.1 k).1, ((sp_steps σ.1 k).2, σ.2))
def o_drift (σ : ST) (k : Int32) : Int32 × ST := ((sp_drift σ.1 k).1, ((sp_drift σ.1 k).2, σ.2))
def o_undo (σ : ST)  : Int32 × ST := ((sp_undo σ.1 ).1, ((sp_undo σ.1 ).2, σ.2))
def o_seed (σ : ST) (v : Int32) : Int32 × ST := ((sp_seed σ.1.1 v).1, (((sp_seed σ.1.1 v).2, σ.1.2.1, σ.1.2.2), σ.2))
def o_at (σ : ST) (f s n : Int32) : Int32 × ST := ((sp_at σ.1.1 f s n), σ)
def o_place (σ : ST) (c n : Int32) : Int32 × ST := ((sp_place σ.1.1 c n), σ)
def o_comes (σ : ST) (dy f s : Int32) : Int32 × ST := ((sp_comes σ.1.1 dy f s), σ)
def o_soonest (σ : ST) (p f d w : Int32) : Int32 × ST := ((sp_soonest σ.1.1 p f d w), σ)
def o_never (σ : ST) (p d : Int32) : Int32 × ST := ((sp_never σ.1.1 p d), σ)
def o_meet (σ : ST) (p q w : Int32) : Int32 × ST := ((sp_meet σ.1.1 p q w), σ)
def o_heaviest (σ : ST) (w : Int32) : Int32 × ST := ((sp_heaviest σ.1.1 w), σ)
def o_changed (σ : ST) (p f d w : Int32) : Int32 × ST := ((sp_changed σ.1.1 p f d w), σ)
def o_goes (σ : ST) (n s : Int32) : Int32 × ST := ((sp_goes  n s), σ)
def o_image (σ : ST)  : Int32 × ST := (nI 1, (σ.1, σ.2.1, σ.2.2.1, true, σ.1))
def o_restore (σ : ST)  : Int32 × ST := if σ.2.2.2.1 = true then (nI 1, (σ.2.2.2.2, σ.2)) else (-4, σ)
def o_weighed (σ : ST) (s l i n w : Int32) : Int32 × ST := ((sp_weighed σ.1.1 σ.2.2.1 s l i n w), σ)
def o_film (σ : ST) (f s n sh l i : Int32) : Int32 × ST := ((sp_film σ.1.1 σ.2.2.1 f s n sh l i).1, (σ.1, σ.2.1, (sp_film σ.1.1 σ.2.2.1 f s n sh l i).2, σ.2.2.2))
def o_sheet (σ : ST) (s l n : Int32) : Int32 × ST := ((sp_sheet σ.2.2.1 s l n).1, (σ.1, σ.2.1, (sp_sheet σ.2.2.1 s l n).2, σ.2.2.2))
def o_drop (σ : ST) (s : Int32) : Int32 × ST := ((sp_drop σ.2.2.1 s).1, (σ.1, σ.2.1, (sp_drop σ.2.2.1 s).2, σ.2.2.2))
def o_item (σ : ST) (s l i : Int32) (v : Int64) : Int32 × ST := ((sp_item σ.2.2.1 s l i v).1, (σ.1, σ.2.1, (sp_item σ.2.2.1 s l i v).2, σ.2.2.2))
def o_copy (σ : ST) (f i t j n : Int32) : Int32 × ST := ((sp_copy σ.2.2.1 f i t j n).1, (σ.1, σ.2.1, (sp_copy σ.2.2.1 f i t j n).2, σ.2.2.2))
theorem p_person {σ : ST} (k w f d : Int32) (h : PInv σ) : PInv (o_person σ k w f d).2 := ⟨lw_person h.1, h.2.1, h.2.2⟩
theorem p_of {σ : ST} (p w : Int32) (h : PInv σ) : PInv (o_of σ p w).2 := h
theorem p_car {σ : ST} (c w : Int32) (h : PInv σ) : PInv (o_car σ c w).2 := h
theorem p_day {σ : ST} (c v : Int32) (h : PInv σ) : PInv (o_day σ c v).2 := ⟨lw_day h.1, h.2.1, h.2.2⟩
theorem p_rule {σ : ST} (w v : Int32) (h : PInv σ) : PInv (o_rule σ w v).2 := ⟨lw_rule h.1, h.2.1, h.2.2⟩
theorem p_type {σ : ST} (v : Int32) (h : PInv σ) : PInv (o_type σ v).2 := ⟨h.1, ta_type h.2.1, h.2.2⟩
theorem p_block {σ : ST}  (h : PInv σ) : PInv (o_block σ).2 := ⟨lw_block h.1, ⟨Nat.zero_le _, fun k hk => absurd hk (Nat.not_lt_zero _)⟩, h.2.2⟩
theorem p_count {σ : ST} (w : Int32) (h : PInv σ) : PInv (o_count σ w).2 := h
theorem p_in {σ : ST} (p s : Int32) (h : PInv σ) : PInv (o_in σ p s).2 := ⟨lw_in h.1, h.2.1, h.2.2⟩
theorem p_out {σ : ST} (p : Int32) (h : PInv σ) : PInv (o_out σ p).2 := ⟨lw_out h.1, h.2.1, h.2.2⟩
theorem p_steps {σ : ST} (k : Int32) (h : PInv σ) : PInv (o_steps σ k).2 := ⟨lw_steps h.1, h.2.1, h.2.2⟩
theorem p_drift {σ : ST} (k : Int32) (h : PInv σ) : PInv (o_drift σ k).2 := ⟨lw_drift h.1, h.2.1, h.2.2⟩
theorem p_undo {σ : ST}  (h : PInv σ) : PInv (o_undo σ).2 := ⟨lw_undo h.1, h.2.1, h.2.2⟩
theorem p_seed {σ : ST} (v : Int32) (h : PInv σ) : PInv (o_seed σ v).2 := ⟨lw_seed h.1, h.2.1, h.2.2⟩
theorem p_at {σ : ST} (f s n : Int32) (h : PInv σ) : PInv (o_at σ f s n).2 := h
theorem p_place {σ : ST} (c n : Int32) (h : PInv σ) : PInv (o_place σ c n).2 := h
theorem p_comes {σ : ST} (dy f s : Int32) (h : PInv σ) : PInv (o_comes σ dy f s).2 := h
theorem p_soonest {σ : ST} (p f d w : Int32) (h : PInv σ) : PInv (o_soonest σ p f d w).2 := h
theorem p_never {σ : ST} (p d : Int32) (h : PInv σ) : PInv (o_never σ p d).2 := h
theorem p_meet {σ : ST} (p q w : Int32) (h : PInv σ) : PInv (o_meet σ p q w).2 := h
theorem p_heaviest {σ : ST} (w : Int32) (h : PInv σ) : PInv (o_heaviest σ w).2 := h
theorem p_changed {σ : ST} (p f d w : Int32) (h : PInv σ) : PInv (o_changed σ p f d w).2 := h
theorem p_goes {σ : ST} (n s : Int32) (h : PInv σ) : PInv (o_goes σ n s).2 := h
theorem p_image {σ : ST}  (h : PInv σ) : PInv (o_image σ).2 := ⟨h.1, h.2.1, fun _ => h.1⟩
theorem p_restore {σ : ST}  (h : PInv σ) : PInv (o_restore σ).2 := by
  unfold o_restore
  split
  · rename_i q; exact ⟨h.2.2 q, h.2.1, h.2.2⟩
  · exact h
theorem p_weighed {σ : ST} (s l i n w : Int32) (h : PInv σ) : PInv (o_weighed σ s l i n w).2 := h
theorem p_film {σ : ST} (f s n sh l i : Int32) (h : PInv σ) : PInv (o_film σ f s n sh l i).2 := h
theorem p_sheet {σ : ST} (s l n : Int32) (h : PInv σ) : PInv (o_sheet σ s l n).2 := h
theorem p_drop {σ : ST} (s : Int32) (h : PInv σ) : PInv (o_drop σ s).2 := h
theorem p_item {σ : ST} (s l i : Int32) (v : Int64) (h : PInv σ) : PInv (o_item σ s l i v).2 := h
theorem p_copy {σ : ST} (f i t j n : Int32) (h : PInv σ) : PInv (o_copy σ f i t j n).2 := h
theorem C_of {g : GT} {T : TT} {Mi : MI} {Ml : ML} {X : Nat} {σ : ST} (hC : CInv g T Mi Ml X σ) (hP : PInv σ) (p w : Int32) : Ct g yX11_of cX11_of 4 (some .int) 5 0 0 [.ref X, .int p, .int w] T Mi Ml (Gi T (fun rv Mi' Ml' => rv = (o_of σ p w).1 ∧ CInv g T Mi' Ml' X (o_of σ p w).2 ∧ FZ Mi Ml Mi' Ml' X (X + 194))) := by
  obtain ⟨hX, ⟨R, nx, hL, hU⟩, hT, ⟨hr1, hr2⟩, hs, hk, hkp⟩ := id hC
  refine (c_of hX hL hP.w p w).weaken ?_
  rintro r T' Mi' Ml' ⟨rfl, rfl, rfl, rfl⟩
  exact ⟨_, rfl, rfl, rfl, hC, FZ.rf _ _ _ _⟩
theorem C_car {g : GT} {T : TT} {Mi : MI} {Ml : ML} {X : Nat} {σ : ST} (hC : CInv g T Mi Ml X σ) (hP : PInv σ) (c w : Int32) : Ct g yX11_car cX11_car 4 (some .int) 4 0 0 [.ref X, .int c, .int w] T Mi Ml (Gi T (fun rv Mi' Ml' => rv = (o_car σ c w).1 ∧ CInv g T Mi' Ml' X (o_car σ c w).2 ∧ FZ Mi Ml Mi' Ml' X (X + 194))) := by
  obtain ⟨hX, ⟨R, nx, hL, hU⟩, hT, ⟨hr1, hr2⟩, hs, hk, hkp⟩ := id hC
  refine (c_car hX hL hP.w c w).weaken ?_
  rintro r T' Mi' Ml' ⟨rfl, rfl, rfl, rfl⟩
  exact ⟨_, rfl, rfl, rfl, hC, FZ.rf _ _ _ _⟩
theorem C_count {g : GT} {T : TT} {Mi : MI} {Ml : ML} {X : Nat} {σ : ST} (hC : CInv g T Mi Ml X σ) (hP : PInv σ) (w : Int32) : Ct g yX11_count cX11_count 2 (some .int) 3 0 0 [.ref X, .int w] T Mi Ml (Gi T (fun rv Mi' Ml' => rv = (o_count σ w).1 ∧ CInv g T Mi' Ml' X (o_count σ w).2 ∧ FZ Mi Ml Mi' Ml' X (X + 194))) := by
  obtain ⟨hX, ⟨R, nx, hL, hU⟩, hT, ⟨hr1, hr2⟩, hs, hk, hkp⟩ := id hC
  refine (c_count hX hL hP.w w).weaken ?_
  rintro r T' Mi' Ml' ⟨rfl, rfl, rfl, rfl⟩
  exact ⟨_, rfl, rfl, rfl, hC, FZ.rf _ _ _ _⟩
theorem C_at {g : GT} {T : TT} {Mi : MI} {Ml : ML} {X : Nat} {σ : ST} (hC : CInv g T Mi Ml X σ) (hP : PInv σ) (f s n : Int32) : Ct g yX11_at cX11_at 4 (some .int) 5 0 0 [.ref X, .int f, .int s, .int n] T Mi Ml (Gi T (fun rv Mi' Ml' => rv = (o_at σ f s n).1 ∧ CInv g T Mi' Ml' X (o_at σ f s n).2 ∧ FZ Mi Ml Mi' Ml' X (X + 194))) := by
  obtain ⟨hX, ⟨R, nx, hL, hU⟩, hT, ⟨hr1, hr2⟩, hs, hk, hkp⟩ := id hC
  refine (c_at hX hL hP.w f s n).weaken ?_
  rintro r T' Mi' Ml' ⟨rfl, rfl, rfl, rfl⟩
  exact ⟨_, rfl, rfl, rfl, hC, FZ.rf _ _ _ _⟩
theorem C_place {g : GT} {T : TT} {Mi : MI} {Ml : ML} {X : Nat} {σ : ST} (hC : CInv g T Mi Ml X σ) (hP : PInv σ) (c n : Int32) : Ct g yX11_place cX11_place 3 (some .int) 4 0 0 [.ref X, .int c, .int n] T Mi Ml (Gi T (fun rv Mi' Ml' => rv = (o_place σ c n).1 ∧ CInv g T Mi' Ml' X (o_place σ c n).2 ∧ FZ Mi Ml Mi' Ml' X (X + 194))) := by
  obtain ⟨hX, ⟨R, nx, hL, hU⟩, hT, ⟨hr1, hr2⟩, hs, hk, hkp⟩ := id hC
  refine (c_place hX hL hP.w c n).weaken ?_
  rintro r T' Mi' Ml' ⟨rfl, rfl, rfl, rfl⟩
  exact ⟨_, rfl, rfl, rfl, hC, FZ.rf _ _ _ _⟩
theorem C_comes {g : GT} {T : TT} {Mi : MI} {Ml : ML} {X : Nat} {σ : ST} (hC : CInv g T Mi Ml X σ) (hP : PInv σ) (dy f s : Int32) : Ct g yX11_comes cX11_comes 5 (some .int) 5 0 0 [.ref X, .int dy, .int f, .int s] T Mi Ml (Gi T (fun rv Mi' Ml' => rv = (o_comes σ dy f s).1 ∧ CInv g T Mi' Ml' X (o_comes σ dy f s).2 ∧ FZ Mi Ml Mi' Ml' X (X + 194))) := by
  obtain ⟨hX, ⟨R, nx, hL, hU⟩, hT, ⟨hr1, hr2⟩, hs, hk, hkp⟩ := id hC
  refine (c_comes hX hL hP.w dy f s).weaken ?_
  rintro r T' Mi' Ml' ⟨rfl, rfl, rfl, rfl⟩
  exact ⟨_, rfl, rfl, rfl, hC, FZ.rf _ _ _ _⟩
theorem C_heaviest {g : GT} {T : TT} {Mi : MI} {Ml : ML} {X : Nat} {σ : ST} (hC : CInv g T Mi Ml X σ) (hP : PInv σ) (w : Int32) : Ct g yX11_heaviest cX11_heaviest 6 (some .int) 3 0 0 [.ref X, .int w] T Mi Ml (Gi T (fun rv Mi' Ml' => rv = (o_heaviest σ w).1 ∧ CInv g T Mi' Ml' X (o_heaviest σ w).2 ∧ FZ Mi Ml Mi' Ml' X (X + 194))) := by
  obtain ⟨hX, ⟨R, nx, hL, hU⟩, hT, ⟨hr1, hr2⟩, hs, hk, hkp⟩ := id hC
  refine (c_heaviest hX hL hP.w w).weaken ?_
  rintro r T' Mi' Ml' ⟨rfl, rfl, rfl, rfl⟩
  exact ⟨_, rfl, rfl, rfl, hC, FZ.rf _ _ _ _⟩
theorem C_goes {g : GT} {T : TT} {Mi : MI} {Ml : ML} {X : Nat} {σ : ST} (hC : CInv g T Mi Ml X σ) (hP : PInv σ) (n s : Int32) : Ct g yX11_goes cX11_goes 5 (some .int) 2 0 0 [.ref X, .int n, .int s] T Mi Ml (Gi T (fun rv Mi' Ml' => rv = (o_goes σ n s).1 ∧ CInv g T Mi' Ml' X (o_goes σ n s).2 ∧ FZ Mi Ml Mi' Ml' X (X + 194))) := by
  obtain ⟨hX, ⟨R, nx, hL, hU⟩, hT, ⟨hr1, hr2⟩, hs, hk, hkp⟩ := id hC
  refine (c_goes hX hL hP.w n s).weaken ?_
  rintro r T' Mi' Ml' ⟨rfl, rfl, rfl, rfl⟩
  exact ⟨_, rfl, rfl, rfl, hC, FZ.rf _ _ _ _⟩
theorem C_soonest {g : GT} {T : TT} {Mi : MI} {Ml : ML} {X : Nat} {σ : ST} (hC : CInv g T Mi Ml X σ) (hP : PInv σ) (p f d w : Int32) : Ct g yX11_soonest cX11_soonest 8 (some .int) 8 0 0 [.ref X, .int p, .int f, .int d, .int w] T Mi Ml (Gi T (fun rv Mi' Ml' => rv = (o_soonest σ p f d w).1 ∧ CInv g T Mi' Ml' X (o_soonest σ p f d w).2 ∧ FZ Mi Ml Mi' Ml' X (X + 194))) := by
  obtain ⟨hX, ⟨R, nx, hL, hU⟩, hT, ⟨hr1, hr2⟩, hs, hk, hkp⟩ := id hC
  refine (c_soonest hX hL hP.w hP.1.2.1 p f d w).weaken ?_
  rintro r T' Mi' Ml' ⟨v9, rfl, rfl, h1, h2⟩
  exact ⟨_, rfl, rfl, h1, hC.oth hP (fun b hb => ⟨h2.1 b (by omega), h2.2 b (by omega)⟩), fun b hb => ⟨h2.1 b (by omega), h2.2 b (by omega)⟩⟩
theorem C_never {g : GT} {T : TT} {Mi : MI} {Ml : ML} {X : Nat} {σ : ST} (hC : CInv g T Mi Ml X σ) (hP : PInv σ) (p d : Int32) : Ct g yX11_never cX11_never 7 (some .int) 7 0 0 [.ref X, .int p, .int d] T Mi Ml (Gi T (fun rv Mi' Ml' => rv = (o_never σ p d).1 ∧ CInv g T Mi' Ml' X (o_never σ p d).2 ∧ FZ Mi Ml Mi' Ml' X (X + 194))) := by
  obtain ⟨hX, ⟨R, nx, hL, hU⟩, hT, ⟨hr1, hr2⟩, hs, hk, hkp⟩ := id hC
  refine (c_never hX hL hP.w hP.1.2.1 p d).weaken ?_
  rintro r T' Mi' Ml' ⟨v9, rfl, rfl, h1, h2⟩
  exact ⟨_, rfl, rfl, h1, hC.oth hP (fun b hb => ⟨h2.1 b (by omega), h2.2 b (by omega)⟩), fun b hb => ⟨h2.1 b (by omega), h2.2 b (by omega)⟩⟩
theorem C_meet {g : GT} {T : TT} {Mi : MI} {Ml : ML} {X : Nat} {σ : ST} (hC : CInv g T Mi Ml X σ) (hP : PInv σ) (p q w : Int32) : Ct g yX11_meet cX11_meet 10 (some .int) 6 0 0 [.ref X, .int p, .int q, .int w] T Mi Ml (Gi T (fun rv Mi' Ml' => rv = (o_meet σ p q w).1 ∧ CInv g T Mi' Ml' X (o_meet σ p q w).2 ∧ FZ Mi Ml Mi' Ml' X (X + 194))) := by
  obtain ⟨hX, ⟨R, nx, hL, hU⟩, hT, ⟨hr1, hr2⟩, hs, hk, hkp⟩ := id hC
  refine (c_meet hX hL hP.w hP.1.2.1 p q w).weaken ?_
  rintro r T' Mi' Ml' ⟨v9, rfl, rfl, h1, h2⟩
  exact ⟨_, rfl, rfl, h1, hC.oth hP (fun b hb => ⟨h2.1 b (by omega), h2.2 b (by omega)⟩), fun b hb => ⟨h2.1 b (by omega), h2.2 b (by omega)⟩⟩
theorem C_changed {g : GT} {T : TT} {Mi : MI} {Ml : ML} {X : Nat} {σ : ST} (hC : CInv g T Mi Ml X σ) (hP : PInv σ) (p f d w : Int32) : Ct g yX11_changed cX11_changed 5 (some .int) 8 0 0 [.ref X, .int p, .int f, .int d, .int w] T Mi Ml (Gi T (fun rv Mi' Ml' => rv = (o_changed σ p f d w).1 ∧ CInv g T Mi' Ml' X (o_changed σ p f d w).2 ∧ FZ Mi Ml Mi' Ml' X (X + 194))) := by
  obtain ⟨hX, ⟨R, nx, hL, hU⟩, hT, ⟨hr1, hr2⟩, hs, hk, hkp⟩ := id hC
  refine (c_changed hX hL hP.w hP.1.2.1 p f d w).weaken ?_
  rintro r T' Mi' Ml' ⟨v9, rfl, rfl, h1, h2⟩
  exact ⟨_, rfl, rfl, h1, hC.oth hP (fun b hb => ⟨h2.1 b (by omega), h2.2 b (by omega)⟩), fun b hb => ⟨h2.1 b (by omega), h2.2 b (by omega)⟩⟩
theorem C_day {g : GT} {T : TT} {Mi : MI} {Ml : ML} {X : Nat} {σ : ST} (hC : CInv g T Mi Ml X σ) (hP : PInv σ) (c v : Int32) : Ct g yX11_day cX11_day 4 (some .int) 3 0 0 [.ref X, .int c, .int v] T Mi Ml (Gi T (fun rv Mi' Ml' => rv = (o_day σ c v).1 ∧ CInv g T Mi' Ml' X (o_day σ c v).2 ∧ FZ Mi Ml Mi' Ml' X (X + 194))) := by
  obtain ⟨hX, ⟨R, nx, hL, hU⟩, hT, ⟨hr1, hr2⟩, hs, hk, hkp⟩ := id hC
  refine (c_day hX hL hP.w c v).weaken ?_
  rintro r T' Mi' Ml' ⟨v9, rfl, rfl, h1, rfl, h3, h4⟩
  exact ⟨_, rfl, rfl, h1, hC.now hP h3 ⟨R, nx, h4, hU⟩, FZ.now h3⟩
theorem C_rule {g : GT} {T : TT} {Mi : MI} {Ml : ML} {X : Nat} {σ : ST} (hC : CInv g T Mi Ml X σ) (hP : PInv σ) (w v : Int32) : Ct g yX11_rule cX11_rule 4 (some .int) 2 0 0 [.ref X, .int w, .int v] T Mi Ml (Gi T (fun rv Mi' Ml' => rv = (o_rule σ w v).1 ∧ CInv g T Mi' Ml' X (o_rule σ w v).2 ∧ FZ Mi Ml Mi' Ml' X (X + 194))) := by
  obtain ⟨hX, ⟨R, nx, hL, hU⟩, hT, ⟨hr1, hr2⟩, hs, hk, hkp⟩ := id hC
  refine (c_rule hX hL hP.w w v).weaken ?_
  rintro r T' Mi' Ml' ⟨v9, rfl, rfl, h1, rfl, h3, h4⟩
  exact ⟨_, rfl, rfl, h1, hC.now hP h3 ⟨R, nx, h4, hU⟩, FZ.now h3⟩
theorem C_seed {g : GT} {T : TT} {Mi : MI} {Ml : ML} {X : Nat} {σ : ST} (hC : CInv g T Mi Ml X σ) (hP : PInv σ) (v : Int32) : Ct g yX11_seed cX11_seed 3 (some .int) 1 0 0 [.ref X, .int v] T Mi Ml (Gi T (fun rv Mi' Ml' => rv = (o_seed σ v).1 ∧ CInv g T Mi' Ml' X (o_seed σ v).2 ∧ FZ Mi Ml Mi' Ml' X (X + 194))) := by
  obtain ⟨hX, ⟨R, nx, hL, hU⟩, hT, ⟨hr1, hr2⟩, hs, hk, hkp⟩ := id hC
  refine (c_seed hX hL hP.w v).weaken ?_
  rintro r T' Mi' Ml' ⟨v9, rfl, rfl, h1, rfl, h3, h4⟩
  exact ⟨_, rfl, rfl, h1, hC.now hP h3 ⟨R, nx, h4, hU⟩, FZ.now h3⟩
theorem C_in {g : GT} {T : TT} {Mi : MI} {Ml : ML} {X : Nat} {σ : ST} (hC : CInv g T Mi Ml X σ) (hP : PInv σ) (p s : Int32) : Ct g yX11_in cX11_in 5 (some .int) 5 0 0 [.ref X, .int p, .int s] T Mi Ml (Gi T (fun rv Mi' Ml' => rv = (o_in σ p s).1 ∧ CInv g T Mi' Ml' X (o_in σ p s).2 ∧ FZ Mi Ml Mi' Ml' X (X + 194))) := by
  obtain ⟨hX, ⟨R, nx, hL, hU⟩, hT, ⟨hr1, hr2⟩, hs, hk, hkp⟩ := id hC
  refine (c_in hX hL hP.w p s).weaken ?_
  rintro r T' Mi' Ml' ⟨v9, rfl, rfl, h1, rfl, h3, h4, h5⟩
  cases hq : (sp_in σ.1.1 p s).2 with
  | none =>
    have hm := h4 hq
    subst hm
    refine ⟨_, rfl, rfl, h1, ?_, FZ.rf _ _ _ _⟩
    show CInv g T' _ _ X (oz σ.1 (sp_in σ.1.1 p s).2 _, σ.2)
    rw [hq]
    exact hC
  | some S' =>
    refine ⟨_, rfl, rfl, h1, ?_, FZ.now h3⟩
    show CInv g T' _ _ X (oz σ.1 (sp_in σ.1.1 p s).2 _, σ.2)
    rw [hq]
    exact hC.now (z' := puT σ.1 S') hP h3 (NowC.put (h5 S' hq) hU hL.2.2.2.2.1 hL.2.2.2.2.2.1)
theorem C_out {g : GT} {T : TT} {Mi : MI} {Ml : ML} {X : Nat} {σ : ST} (hC : CInv g T Mi Ml X σ) (hP : PInv σ) (p : Int32) : Ct g yX11_out cX11_out 3 (some .int) 5 0 0 [.ref X, .int p] T Mi Ml (Gi T (fun rv Mi' Ml' => rv = (o_out σ p).1 ∧ CInv g T Mi' Ml' X (o_out σ p).2 ∧ FZ Mi Ml Mi' Ml' X (X + 194))) := by
  obtain ⟨hX, ⟨R, nx, hL, hU⟩, hT, ⟨hr1, hr2⟩, hs, hk, hkp⟩ := id hC
  refine (c_out hX hL hP.w p).weaken ?_
  rintro r T' Mi' Ml' ⟨v9, rfl, rfl, h1, rfl, h3, h4, h5⟩
  cases hq : (sp_out σ.1.1 p).2 with
  | none =>
    have hm := h4 hq
    subst hm
    refine ⟨_, rfl, rfl, h1, ?_, FZ.rf _ _ _ _⟩
    show CInv g T' _ _ X (oz σ.1 (sp_out σ.1.1 p).2 _, σ.2)
    rw [hq]
    exact hC
  | some S' =>
    refine ⟨_, rfl, rfl, h1, ?_, FZ.now h3⟩
    show CInv g T' _ _ X (oz σ.1 (sp_out σ.1.1 p).2 _, σ.2)
    rw [hq]
    exact hC.now (z' := puT σ.1 S') hP h3 (NowC.put (h5 S' hq) hU hL.2.2.2.2.1 hL.2.2.2.2.2.1)
theorem C_person {g : GT} {T : TT} {Mi : MI} {Ml : ML} {X : Nat} {σ : ST} (hC : CInv g T Mi Ml X σ) (hP : PInv σ) (k w f d : Int32) : Ct g yX11_person cX11_person 5 (some .int) 3 0 0 [.ref X, .int k, .int w, .int f, .int d] T Mi Ml (Gi T (fun rv Mi' Ml' => rv = (o_person σ k w f d).1 ∧ CInv g T Mi' Ml' X (o_person σ k w f d).2 ∧ FZ Mi Ml Mi' Ml' X (X + 194))) := by
  obtain ⟨hX, ⟨R, nx, hL, hU⟩, hT, ⟨hr1, hr2⟩, hs, hk, hkp⟩ := id hC
  refine (c_person hX hL hP.w k w f d).weaken ?_
  rintro r T' Mi' Ml' ⟨v9, rfl, rfl, h1, rfl, h3, h4, h5⟩
  cases hq : (sp_person σ.1.1 k w f d).2 with
  | none =>
    have hm := h4 hq
    subst hm
    refine ⟨_, rfl, rfl, h1, ?_, FZ.rf _ _ _ _⟩
    show CInv g T' _ _ X (oz σ.1 (sp_person σ.1.1 k w f d).2 _, σ.2)
    rw [hq]
    exact hC
  | some S' =>
    refine ⟨_, rfl, rfl, h1, ?_, FZ.now h3⟩
    show CInv g T' _ _ X (oz σ.1 (sp_person σ.1.1 k w f d).2 _, σ.2)
    rw [hq]
    exact hC.now (z' := (S', σ.1.2.1, 0)) hP h3 ⟨R, nx, h5 S' hq, fun j hj => absurd hj (Nat.not_lt_zero _)⟩
theorem C_steps {g : GT} {T : TT} {Mi : MI} {Ml : ML} {X : Nat} {σ : ST} (hC : CInv g T Mi Ml X σ) (hP : PInv σ) (k : Int32) : Ct g yX11_steps cX11_steps 3 (some .int) 7 0 0 [.ref X, .int k] T Mi Ml (Gi T (fun rv Mi' Ml' => rv = (o_steps σ k).1 ∧ CInv g T Mi' Ml' X (o_steps σ k).2 ∧ FZ Mi Ml Mi' Ml' X (X + 194))) := by
  obtain ⟨hX, ⟨R, nx, hL, hU⟩, hT, ⟨hr1, hr2⟩, hs, hk, hkp⟩ := id hC
  refine (c_steps (z := σ.1) hX hL hU hP.1.1 k).weaken ?_
  rintro r T' Mi' Ml' ⟨v9, rfl, rfl, h1, rfl, h3, h4⟩
  exact ⟨_, rfl, rfl, h1, hC.now hP h3 h4, FZ.now h3⟩
theorem C_drift {g : GT} {T : TT} {Mi : MI} {Ml : ML} {X : Nat} {σ : ST} (hC : CInv g T Mi Ml X σ) (hP : PInv σ) (k : Int32) : Ct g yX11_drift cX11_drift 4 (some .int) 7 0 0 [.ref X, .int k] T Mi Ml (Gi T (fun rv Mi' Ml' => rv = (o_drift σ k).1 ∧ CInv g T Mi' Ml' X (o_drift σ k).2 ∧ FZ Mi Ml Mi' Ml' X (X + 194))) := by
  obtain ⟨hX, ⟨R, nx, hL, hU⟩, hT, ⟨hr1, hr2⟩, hs, hk, hkp⟩ := id hC
  refine (c_drift (z := σ.1) hX hL hU hP.1.1 k).weaken ?_
  rintro r T' Mi' Ml' ⟨v9, rfl, rfl, h1, rfl, h3, h4⟩
  exact ⟨_, rfl, rfl, h1, hC.now hP h3 h4, FZ.now h3⟩
theorem C_undo {g : GT} {T : TT} {Mi : MI} {Ml : ML} {X : Nat} {σ : ST} (hC : CInv g T Mi Ml X σ) (hP : PInv σ)  : Ct g yX11_undo cX11_undo 1 (some .int) 5 0 0 [.ref X] T Mi Ml (Gi T (fun rv Mi' Ml' => rv = (o_undo σ).1 ∧ CInv g T Mi' Ml' X (o_undo σ).2 ∧ FZ Mi Ml Mi' Ml' X (X + 194))) := by
  obtain ⟨hX, ⟨R, nx, hL, hU⟩, hT, ⟨hr1, hr2⟩, hs, hk, hkp⟩ := id hC
  refine (c_undo (z := σ.1) hX hL hU hP.1.1 ).weaken ?_
  rintro r T' Mi' Ml' ⟨v9, rfl, rfl, h1, rfl, h3, h4⟩
  exact ⟨_, rfl, rfl, h1, hC.now hP h3 h4, FZ.now h3⟩
theorem C_type {g : GT} {T : TT} {Mi : MI} {Ml : ML} {X : Nat} {σ : ST} (hC : CInv g T Mi Ml X σ) (hP : PInv σ) (v : Int32) : Ct g yX11_type cX11_type 2 (some .int) 2 0 0 [.ref X, .int v] T Mi Ml (Gi T (fun rv Mi' Ml' => rv = (o_type σ v).1 ∧ CInv g T Mi' Ml' X (o_type σ v).2 ∧ FZ Mi Ml Mi' Ml' X (X + 194))) := by
  obtain ⟨hX, ⟨R, nx, hL, hU⟩, hT, ⟨hr1, hr2⟩, hs, hk, hkp⟩ := id hC
  refine (c_type hX hT hP.2.1 v).weaken ?_
  rintro r T' Mi' Ml' ⟨v9, rfl, rfl, h1, rfl, h3, h4⟩
  refine ⟨_, rfl, rfl, h1, ⟨hX, hC.2.1.fr hP.w.1 (fun b q1 q2 => h3 b (by omega) (by omega)), h4, ?_, hs.fz (fun b q1 q2 => ⟨h3 b (by omega) (by omega), rfl⟩), ?_, fun q => (hkp q).fz (hP.k q) (fun b q1 q2 => h3 b (by omega) (by omega))⟩, fun b hb => ⟨h3 b (by omega) (by omega), rfl⟩⟩
  · rw [h3 _ (by omega) (by omega)]; exact ⟨hr1, hr2⟩
  · rw [h3 _ (by omega) (by omega)]; exact hk
theorem C_block {g : GT} {T : TT} {Mi : MI} {Ml : ML} {X : Nat} {σ : ST} (hC : CInv g T Mi Ml X σ) (hP : PInv σ)  : Ct g yX11_block cX11_block 3 (some .int) 12 0 0 [.ref X] T Mi Ml (Gi T (fun rv Mi' Ml' => rv = (o_block σ).1 ∧ CInv g T Mi' Ml' X (o_block σ).2 ∧ FZ Mi Ml Mi' Ml' X (X + 194))) := by
  obtain ⟨hX, ⟨R, nx, hL, hU⟩, hT, ⟨hr1, hr2⟩, hs, hk, hkp⟩ := id hC
  refine (c_block hX hL hP.w hT hP.2.1 hr1 hr2).weaken ?_
  rintro r T' Mi' Ml' ⟨v9, rfl, rfl, h1, rfl, h3, h4, h5, h6, h7⟩
  have hn : NowC Mi' X (oz σ.1 (sp_block σ.2.1.1 σ.2.1.2 σ.1.1).2 (fun S' => (S', σ.1.2.1, 0))).1 (oz σ.1 (sp_block σ.2.1.1 σ.2.1.2 σ.1.1).2 (fun S' => (S', σ.1.2.1, 0))).2.1 (oz σ.1 (sp_block σ.2.1.1 σ.2.1.2 σ.1.1).2 (fun S' => (S', σ.1.2.1, 0))).2.2 := by
    cases hq : (sp_block σ.2.1.1 σ.2.1.2 σ.1.1).2 with
    | none => exact hC.2.1.fr hP.w.1 (fun b q1 q2 => h6 hq b (by omega) (by omega))
    | some S' => exact ⟨R, nx, h7 S' hq, fun j hj => absurd hj (Nat.not_lt_zero _)⟩
  refine ⟨_, rfl, rfl, h1, ⟨hX, hn, h4, h5, hs.fz (fun b q1 q2 => ⟨h3 b (by omega) (by omega) (by omega), rfl⟩), ?_, fun q => (hkp q).fz (hP.k q) (fun b q1 q2 => h3 b (by omega) (by omega) (by omega))⟩, fun b hb => ⟨h3 b (by omega) (by omega) (by omega), rfl⟩⟩
  rw [h3 _ (by omega) (by omega) (by omega)]; exact hk
theorem C_image {g : GT} {T : TT} {Mi : MI} {Ml : ML} {X : Nat} {σ : ST} (hC : CInv g T Mi Ml X σ) (hP : PInv σ)  : Ct g yX11_image cX11_image 1 (some .int) 6 0 0 [.ref X] T Mi Ml (Gi T (fun rv Mi' Ml' => rv = (o_image σ).1 ∧ CInv g T Mi' Ml' X (o_image σ).2 ∧ FZ Mi Ml Mi' Ml' X (X + 194))) := by
  obtain ⟨hX, ⟨R, nx, hL, hU⟩, hT, ⟨hr1, hr2⟩, hs, hk, hkp⟩ := id hC
  refine (c_image hX hL hP.w).weaken ?_
  rintro r T' Mi' Ml' ⟨v9, rfl, rfl, h1, rfl, h3, h4, h5⟩
  refine ⟨_, rfl, rfl, h1, ⟨hX, hC.2.1.fr hP.w.1 (fun b q1 q2 => h3 b (by omega) (by omega)), hT.fz (h3 _ (by omega) (by omega)) (h3 _ (by omega) (by omega)), ?_, hs.fz (fun b q1 q2 => ⟨h3 b (by omega) (by omega), rfl⟩), h4, fun _ => ⟨R, nx, h5, hU⟩⟩, fun b hb => ⟨h3 b (by omega) (by omega), rfl⟩⟩
  rw [h3 _ (by omega) (by omega)]; exact ⟨hr1, hr2⟩
theorem C_restore {g : GT} {T : TT} {Mi : MI} {Ml : ML} {X : Nat} {σ : ST} (hC : CInv g T Mi Ml X σ) (hP : PInv σ)  : Ct g yX11_restore cX11_restore 1 (some .int) 6 0 0 [.ref X] T Mi Ml (Gi T (fun rv Mi' Ml' => rv = (o_restore σ).1 ∧ CInv g T Mi' Ml' X (o_restore σ).2 ∧ FZ Mi Ml Mi' Ml' X (X + 194))) := by
  obtain ⟨hX, ⟨R, nx, hL, hU⟩, hT, ⟨hr1, hr2⟩, hs, hk, hkp⟩ := id hC
  by_cases hi : σ.2.2.2.1 = true
  · obtain ⟨R2, nx2, hL2, hU2⟩ := hkp hi
    refine (c_restore hX hk (fun _ => ⟨hL2, (hP.2.2 hi).1.1⟩)).weaken ?_
    rintro r T' Mi' Ml' ⟨v9, rfl, rfl, rfl, h2, h3⟩
    obtain ⟨h4, h5, h6⟩ := h3 hi
    unfold o_restore
    rw [if_pos hi]
    exact ⟨_, rfl, rfl, h4, hC.now hP h5 ⟨R2, nx2, h6, hU2⟩, FZ.now h5⟩
  · have hi2 := Bool.eq_false_iff.mpr hi
    refine (c_restore (kS := S0) (kR := fun _ => S0) (ku := 0) (knx := 0) hX hk (fun q => absurd q hi)).weaken ?_
    rintro r T' Mi' Ml' ⟨v9, rfl, rfl, rfl, h2, h3⟩
    obtain ⟨h4, h5⟩ := h2 hi2
    subst h5
    unfold o_restore
    rw [if_neg hi]
    exact ⟨_, rfl, rfl, h4, hC, FZ.rf _ _ _ _⟩
theorem C_weighed {g : GT} {T : TT} {Mi : MI} {Ml : ML} {X : Nat} {σ : ST} (hC : CInv g T Mi Ml X σ) (hP : PInv σ) (s l i n w : Int32) : Ct g yX11_weighed cX11_weighed 9 (some .int) 4 0 0 [.ref X, .int s, .int l, .int i, .int n, .int w] T Mi Ml (Gi T (fun rv Mi' Ml' => rv = (o_weighed σ s l i n w).1 ∧ CInv g T Mi' Ml' X (o_weighed σ s l i n w).2 ∧ FZ Mi Ml Mi' Ml' X (X + 194))) := by
  obtain ⟨hX, ⟨R, nx, hL, hU⟩, hT, ⟨hr1, hr2⟩, hs, hk, hkp⟩ := id hC
  refine (c_weighed hX hL hP.w hs s l i n w).weaken ?_
  rintro r T' Mi' Ml' ⟨v9, rfl, rfl, h1, rfl, h3⟩
  exact ⟨_, rfl, rfl, h1, hC.oth hP (fun b hb => ⟨h3 b (by omega), rfl⟩), fun b hb => ⟨h3 b (by omega), rfl⟩⟩
theorem C_film {g : GT} {T : TT} {Mi : MI} {Ml : ML} {X : Nat} {σ : ST} (hC : CInv g T Mi Ml X σ) (hP : PInv σ) (f s n sh l i : Int32) : Ct g yX11_film cX11_film 10 (some .int) 6 0 0 [.ref X, .int f, .int s, .int n, .int sh, .int l, .int i] T Mi Ml (Gi T (fun rv Mi' Ml' => rv = (o_film σ f s n sh l i).1 ∧ CInv g T Mi' Ml' X (o_film σ f s n sh l i).2 ∧ FZ Mi Ml Mi' Ml' X (X + 194))) := by
  obtain ⟨hX, ⟨R, nx, hL, hU⟩, hT, ⟨hr1, hr2⟩, hs, hk, hkp⟩ := id hC
  refine (c_film hX hL hP.w hs hP.1.2.1 f s n sh l i).weaken ?_
  rintro r T' Mi' Ml' ⟨v9, rfl, rfl, h1, h2, h3⟩
  exact ⟨_, rfl, rfl, h1, hC.sht hP (fun b hb => h2.1 b (by omega)) h3, fun b hb => ⟨h2.1 b (by omega), h2.2 b (by omega)⟩⟩
theorem C_sheet {g : GT} {T : TT} {Mi : MI} {Ml : ML} {X : Nat} {σ : ST} (hC : CInv g T Mi Ml X σ) (hP : PInv σ) (s l n : Int32) : Ct g yX11_sheet cX11_sheet 4 (some .int) 3 0 0 [.ref X, .int s, .int l, .int n] T Mi Ml (Gi T (fun rv Mi' Ml' => rv = (o_sheet σ s l n).1 ∧ CInv g T Mi' Ml' X (o_sheet σ s l n).2 ∧ FZ Mi Ml Mi' Ml' X (X + 194))) := by
  obtain ⟨hX, ⟨R, nx, hL, hU⟩, hT, ⟨hr1, hr2⟩, hs, hk, hkp⟩ := id hC
  refine (c_sheet hX hs s l n).weaken ?_
  rintro r T' Mi' Ml' ⟨v9, rfl, rfl, h1, h2, h3⟩
  exact ⟨_, rfl, rfl, h1, hC.sht hP (fun b hb => (h2 b (by omega)).1) h3, fun b hb => h2 b (by omega)⟩
theorem C_drop {g : GT} {T : TT} {Mi : MI} {Ml : ML} {X : Nat} {σ : ST} (hC : CInv g T Mi Ml X σ) (hP : PInv σ) (s : Int32) : Ct g yX11_drop cX11_drop 4 (some .int) 3 0 0 [.ref X, .int s] T Mi Ml (Gi T (fun rv Mi' Ml' => rv = (o_drop σ s).1 ∧ CInv g T Mi' Ml' X (o_drop σ s).2 ∧ FZ Mi Ml Mi' Ml' X (X + 194))) := by
  obtain ⟨hX, ⟨R, nx, hL, hU⟩, hT, ⟨hr1, hr2⟩, hs, hk, hkp⟩ := id hC
  refine (c_drop hX hs s).weaken ?_
  rintro r T' Mi' Ml' ⟨v9, rfl, rfl, h1, h2, h3⟩
  exact ⟨_, rfl, rfl, h1, hC.sht hP (fun b hb => (h2 b (by omega)).1) h3, fun b hb => h2 b (by omega)⟩
theorem C_item {g : GT} {T : TT} {Mi : MI} {Ml : ML} {X : Nat} {σ : ST} (hC : CInv g T Mi Ml X σ) (hP : PInv σ) (s l i : Int32) (v : Int64) : Ct g yX11_item cX11_item 8 (some .int) 3 0 0 [.ref X, .int s, .int l, .int i, .long v] T Mi Ml (Gi T (fun rv Mi' Ml' => rv = (o_item σ s l i v).1 ∧ CInv g T Mi' Ml' X (o_item σ s l i v).2 ∧ FZ Mi Ml Mi' Ml' X (X + 194))) := by
  obtain ⟨hX, ⟨R, nx, hL, hU⟩, hT, ⟨hr1, hr2⟩, hs, hk, hkp⟩ := id hC
  refine (c_item hX hs s l i v).weaken ?_
  rintro r T' Mi' Ml' ⟨v9, rfl, rfl, h1, h2, h3⟩
  exact ⟨_, rfl, rfl, h1, hC.sht hP (fun b hb => (h2 b (by omega)).1) h3, fun b hb => h2 b (by omega)⟩
theorem C_copy {g : GT} {T : TT} {Mi : MI} {Ml : ML} {X : Nat} {σ : ST} (hC : CInv g T Mi Ml X σ) (hP : PInv σ) (f i t j n : Int32) : Ct g yX11_copy cX11_copy 8 (some .int) 3 0 0 [.ref X, .int f, .int i, .int t, .int j, .int n] T Mi Ml (Gi T (fun rv Mi' Ml' => rv = (o_copy σ f i t j n).1 ∧ CInv g T Mi' Ml' X (o_copy σ f i t j n).2 ∧ FZ Mi Ml Mi' Ml' X (X + 194))) := by
  obtain ⟨hX, ⟨R, nx, hL, hU⟩, hT, ⟨hr1, hr2⟩, hs, hk, hkp⟩ := id hC
  refine (c_copy hX hs f i t j n).weaken ?_
  rintro r T' Mi' Ml' ⟨v9, rfl, rfl, h1, h2, h3⟩
  exact ⟨_, rfl, rfl, h1, hC.sht hP (fun b hb => (h2 b (by omega)).1) h3, fun b hb => h2 b (by omega)⟩
theorem M_of {g : GT} {T : TT} {Mi : MI} {Ml : ML} {Y : Nat} {σ : ST} (hC : MInv g T Mi Ml Y σ) (hP : PInv σ) (p w : Int32) : Ct g yX12_of cX12_of 4 (some .int) 3 0 0 [.ref Y, .int p, .int w] T Mi Ml (Gi T (fun rv Mi' Ml' => rv = (o_of σ p w).1 ∧ MInv g T Mi' Ml' Y (o_of σ p w).2 ∧ FZ Mi Ml Mi' Ml' Y (Y + 12))) := by
  obtain ⟨hM, hN, hD, hT, hs, hk⟩ := id hC
  refine (cm_of hM hN hP.w p w).weaken ?_
  rintro r T' Mi' Ml' ⟨rfl, rfl, rfl, rfl⟩
  exact ⟨_, rfl, rfl, rfl, hC, FZ.rf _ _ _ _⟩
theorem M_car {g : GT} {T : TT} {Mi : MI} {Ml : ML} {Y : Nat} {σ : ST} (hC : MInv g T Mi Ml Y σ) (hP : PInv σ) (c w : Int32) : Ct g yX12_car cX12_car 4 (some .int) 4 0 0 [.ref Y, .int c, .int w] T Mi Ml (Gi T (fun rv Mi' Ml' => rv = (o_car σ c w).1 ∧ MInv g T Mi' Ml' Y (o_car σ c w).2 ∧ FZ Mi Ml Mi' Ml' Y (Y + 12))) := by
  obtain ⟨hM, hN, hD, hT, hs, hk⟩ := id hC
  refine (cm_car hM hN hP.w c w).weaken ?_
  rintro r T' Mi' Ml' ⟨rfl, rfl, rfl, rfl⟩
  exact ⟨_, rfl, rfl, rfl, hC, FZ.rf _ _ _ _⟩
theorem M_at {g : GT} {T : TT} {Mi : MI} {Ml : ML} {Y : Nat} {σ : ST} (hC : MInv g T Mi Ml Y σ) (hP : PInv σ) (f s n : Int32) : Ct g yX12_at cX12_at 4 (some .int) 3 0 0 [.ref Y, .int f, .int s, .int n] T Mi Ml (Gi T (fun rv Mi' Ml' => rv = (o_at σ f s n).1 ∧ MInv g T Mi' Ml' Y (o_at σ f s n).2 ∧ FZ Mi Ml Mi' Ml' Y (Y + 12))) := by
  obtain ⟨hM, hN, hD, hT, hs, hk⟩ := id hC
  refine (cm_at hM hN hP.w f s n).weaken ?_
  rintro r T' Mi' Ml' ⟨rfl, rfl, rfl, rfl⟩
  exact ⟨_, rfl, rfl, rfl, hC, FZ.rf _ _ _ _⟩
theorem M_place {g : GT} {T : TT} {Mi : MI} {Ml : ML} {Y : Nat} {σ : ST} (hC : MInv g T Mi Ml Y σ) (hP : PInv σ) (c n : Int32) : Ct g yX12_place cX12_place 3 (some .int) 3 0 0 [.ref Y, .int c, .int n] T Mi Ml (Gi T (fun rv Mi' Ml' => rv = (o_place σ c n).1 ∧ MInv g T Mi' Ml' Y (o_place σ c n).2 ∧ FZ Mi Ml Mi' Ml' Y (Y + 12))) := by
  obtain ⟨hM, hN, hD, hT, hs, hk⟩ := id hC
  refine (cm_place hM hN hP.w c n).weaken ?_
  rintro r T' Mi' Ml' ⟨rfl, rfl, rfl, rfl⟩
  exact ⟨_, rfl, rfl, rfl, hC, FZ.rf _ _ _ _⟩
theorem M_comes {g : GT} {T : TT} {Mi : MI} {Ml : ML} {Y : Nat} {σ : ST} (hC : MInv g T Mi Ml Y σ) (hP : PInv σ) (dy f s : Int32) : Ct g yX12_comes cX12_comes 5 (some .int) 3 0 0 [.ref Y, .int dy, .int f, .int s] T Mi Ml (Gi T (fun rv Mi' Ml' => rv = (o_comes σ dy f s).1 ∧ MInv g T Mi' Ml' Y (o_comes σ dy f s).2 ∧ FZ Mi Ml Mi' Ml' Y (Y + 12))) := by
  obtain ⟨hM, hN, hD, hT, hs, hk⟩ := id hC
  refine (cm_comes hM hN hP.w dy f s).weaken ?_
  rintro r T' Mi' Ml' ⟨rfl, rfl, rfl, rfl⟩
  exact ⟨_, rfl, rfl, rfl, hC, FZ.rf _ _ _ _⟩
theorem M_heaviest {g : GT} {T : TT} {Mi : MI} {Ml : ML} {Y : Nat} {σ : ST} (hC : MInv g T Mi Ml Y σ) (hP : PInv σ) (w : Int32) : Ct g yX12_heaviest cX12_heaviest 4 (some .int) 4 0 0 [.ref Y, .int w] T Mi Ml (Gi T (fun rv Mi' Ml' => rv = (o_heaviest σ w).1 ∧ MInv g T Mi' Ml' Y (o_heaviest σ w).2 ∧ FZ Mi Ml Mi' Ml' Y (Y + 12))) := by
  obtain ⟨hM, hN, hD, hT, hs, hk⟩ := id hC
  refine (cm_heaviest hM hN hP.w w).weaken ?_
  rintro r T' Mi' Ml' ⟨rfl, rfl, rfl, rfl⟩
  exact ⟨_, rfl, rfl, rfl, hC, FZ.rf _ _ _ _⟩
theorem M_goes {g : GT} {T : TT} {Mi : MI} {Ml : ML} {Y : Nat} {σ : ST} (hC : MInv g T Mi Ml Y σ) (hP : PInv σ) (n s : Int32) : Ct g yX12_goes cX12_goes 5 (some .int) 2 0 0 [.ref Y, .int n, .int s] T Mi Ml (Gi T (fun rv Mi' Ml' => rv = (o_goes σ n s).1 ∧ MInv g T Mi' Ml' Y (o_goes σ n s).2 ∧ FZ Mi Ml Mi' Ml' Y (Y + 12))) := by
  obtain ⟨hM, hN, hD, hT, hs, hk⟩ := id hC
  refine (cm_goes hM hN hP.w n s).weaken ?_
  rintro r T' Mi' Ml' ⟨rfl, rfl, rfl, rfl⟩
  exact ⟨_, rfl, rfl, rfl, hC, FZ.rf _ _ _ _⟩
theorem M_count {g : GT} {T : TT} {Mi : MI} {Ml : ML} {Y : Nat} {σ : ST} (hC : MInv g T Mi Ml Y σ) (hP : PInv σ) (w : Int32) : Ct g yX12_count cX12_count 6 (some .int) 3 0 0 [.ref Y, .int w] T Mi Ml (Gi T (fun rv Mi' Ml' => rv = (o_count σ w).1 ∧ MInv g T Mi' Ml' Y (o_count σ w).2 ∧ FZ Mi Ml Mi' Ml' Y (Y + 12))) := by
  obtain ⟨hM, hN, hD, hT, hs, hk⟩ := id hC
  refine (cm_count hM hN hP.w hD.1 w).weaken ?_
  rintro r T' Mi' Ml' ⟨rfl, rfl, rfl, rfl⟩
  exact ⟨_, rfl, rfl, rfl, hC, FZ.rf _ _ _ _⟩
theorem M_soonest {g : GT} {T : TT} {Mi : MI} {Ml : ML} {Y : Nat} {σ : ST} (hC : MInv g T Mi Ml Y σ) (hP : PInv σ) (p f d w : Int32) : Ct g yX12_soonest cX12_soonest 7 (some .int) 6 0 0 [.ref Y, .int p, .int f, .int d, .int w] T Mi Ml (Gi T (fun rv Mi' Ml' => rv = (o_soonest σ p f d w).1 ∧ MInv g T Mi' Ml' Y (o_soonest σ p f d w).2 ∧ FZ Mi Ml Mi' Ml' Y (Y + 12))) := by
  obtain ⟨hM, hN, hD, hT, hs, hk⟩ := id hC
  refine (cm_soonest hM hN hP.w hP.1.2.1 p f d w).weaken ?_
  rintro r T' Mi' Ml' ⟨rfl, rfl, rfl, rfl⟩
  exact ⟨_, rfl, rfl, rfl, hC, FZ.rf _ _ _ _⟩
theorem M_never {g : GT} {T : TT} {Mi : MI} {Ml : ML} {Y : Nat} {σ : ST} (hC : MInv g T Mi Ml Y σ) (hP : PInv σ) (p d : Int32) : Ct g yX12_never cX12_never 5 (some .int) 6 0 0 [.ref Y, .int p, .int d] T Mi Ml (Gi T (fun rv Mi' Ml' => rv = (o_never σ p d).1 ∧ MInv g T Mi' Ml' Y (o_never σ p d).2 ∧ FZ Mi Ml Mi' Ml' Y (Y + 12))) := by
  obtain ⟨hM, hN, hD, hT, hs, hk⟩ := id hC
  refine (cm_never hM hN hP.w hP.1.2.1 p d).weaken ?_
  rintro r T' Mi' Ml' ⟨rfl, rfl, rfl, rfl⟩
  exact ⟨_, rfl, rfl, rfl, hC, FZ.rf _ _ _ _⟩
theorem M_meet {g : GT} {T : TT} {Mi : MI} {Ml : ML} {Y : Nat} {σ : ST} (hC : MInv g T Mi Ml Y σ) (hP : PInv σ) (p q w : Int32) : Ct g yX12_meet cX12_meet 13 (some .int) 5 0 0 [.ref Y, .int p, .int q, .int w] T Mi Ml (Gi T (fun rv Mi' Ml' => rv = (o_meet σ p q w).1 ∧ MInv g T Mi' Ml' Y (o_meet σ p q w).2 ∧ FZ Mi Ml Mi' Ml' Y (Y + 12))) := by
  obtain ⟨hM, hN, hD, hT, hs, hk⟩ := id hC
  refine (cm_meet hM hN hP.w hP.1.2.1 p q w).weaken ?_
  rintro r T' Mi' Ml' ⟨rfl, rfl, rfl, rfl⟩
  exact ⟨_, rfl, rfl, rfl, hC, FZ.rf _ _ _ _⟩
theorem M_changed {g : GT} {T : TT} {Mi : MI} {Ml : ML} {Y : Nat} {σ : ST} (hC : MInv g T Mi Ml Y σ) (hP : PInv σ) (p f d w : Int32) : Ct g yX12_changed cX12_changed 13 (some .int) 6 0 0 [.ref Y, .int p, .int f, .int d, .int w] T Mi Ml (Gi T (fun rv Mi' Ml' => rv = (o_changed σ p f d w).1 ∧ MInv g T Mi' Ml' Y (o_changed σ p f d w).2 ∧ FZ Mi Ml Mi' Ml' Y (Y + 12))) := by
  obtain ⟨hM, hN, hD, hT, hs, hk⟩ := id hC
  refine (cm_changed hM hN hP.w hP.1.2.1 p f d w).weaken ?_
  rintro r T' Mi' Ml' ⟨rfl, rfl, rfl, rfl⟩
  exact ⟨_, rfl, rfl, rfl, hC, FZ.rf _ _ _ _⟩
theorem M_weighed {g : GT} {T : TT} {Mi : MI} {Ml : ML} {Y : Nat} {σ : ST} (hC : MInv g T Mi Ml Y σ) (hP : PInv σ) (s l i n w : Int32) : Ct g yX12_weighed cX12_weighed 18 (some .int) 3 0 0 [.ref Y, .int s, .int l, .int i, .int n, .int w] T Mi Ml (Gi T (fun rv Mi' Ml' => rv = (o_weighed σ s l i n w).1 ∧ MInv g T Mi' Ml' Y (o_weighed σ s l i n w).2 ∧ FZ Mi Ml Mi' Ml' Y (Y + 12))) := by
  obtain ⟨hM, hN, hD, hT, hs, hk⟩ := id hC
  refine (cm_weighed hM hN hP.w hs s l i n w).weaken ?_
  rintro r T' Mi' Ml' ⟨rfl, rfl, rfl, rfl⟩
  exact ⟨_, rfl, rfl, rfl, hC, FZ.rf _ _ _ _⟩
theorem M_day {g : GT} {T : TT} {Mi : MI} {Ml : ML} {Y : Nat} {σ : ST} (hC : MInv g T Mi Ml Y σ) (hP : PInv σ) (c v : Int32) : Ct g yX12_day cX12_day 4 (some .int) 3 0 0 [.ref Y, .int c, .int v] T Mi Ml (Gi T (fun rv Mi' Ml' => rv = (o_day σ c v).1 ∧ MInv g T Mi' Ml' Y (o_day σ c v).2 ∧ FZ Mi Ml Mi' Ml' Y (Y + 12))) := by
  obtain ⟨hM, hN, hD, hT, hs, hk⟩ := id hC
  refine (cm_day hM hN hP.w c v).weaken ?_
  rintro r T' Mi' Ml' ⟨v9, rfl, rfl, h1, rfl, h3, h4⟩
  have f9 : MFr Mi Mi' Y := ⟨fun b q1 q2 q3 => h3 b q2, fun q _ => by rw [h3 Y (by omega)]⟩
  exact ⟨_, rfl, rfl, h1, hC.now f9 h4 (hD.fz (by rw [h3 Y (by omega)]) (h3 _ (by omega))), FZ.mnow f9⟩
theorem M_rule {g : GT} {T : TT} {Mi : MI} {Ml : ML} {Y : Nat} {σ : ST} (hC : MInv g T Mi Ml Y σ) (hP : PInv σ) (w v : Int32) : Ct g yX12_rule cX12_rule 4 (some .int) 2 0 0 [.ref Y, .int w, .int v] T Mi Ml (Gi T (fun rv Mi' Ml' => rv = (o_rule σ w v).1 ∧ MInv g T Mi' Ml' Y (o_rule σ w v).2 ∧ FZ Mi Ml Mi' Ml' Y (Y + 12))) := by
  obtain ⟨hM, hN, hD, hT, hs, hk⟩ := id hC
  refine (cm_rule hM hN hP.w w v).weaken ?_
  rintro r T' Mi' Ml' ⟨v9, rfl, rfl, h1, rfl, h3, h4⟩
  have f9 : MFr Mi Mi' Y := ⟨fun b q1 q2 q3 => h3 b q2, fun q _ => by rw [h3 Y (by omega)]⟩
  exact ⟨_, rfl, rfl, h1, hC.now f9 h4 (hD.fz (by rw [h3 Y (by omega)]) (h3 _ (by omega))), FZ.mnow f9⟩
theorem M_seed {g : GT} {T : TT} {Mi : MI} {Ml : ML} {Y : Nat} {σ : ST} (hC : MInv g T Mi Ml Y σ) (hP : PInv σ) (v : Int32) : Ct g yX12_seed cX12_seed 3 (some .int) 1 0 0 [.ref Y, .int v] T Mi Ml (Gi T (fun rv Mi' Ml' => rv = (o_seed σ v).1 ∧ MInv g T Mi' Ml' Y (o_seed σ v).2 ∧ FZ Mi Ml Mi' Ml' Y (Y + 12))) := by
  obtain ⟨hM, hN, hD, hT, hs, hk⟩ := id hC
  refine (cm_seed hM hN hP.w v).weaken ?_
  rintro r T' Mi' Ml' ⟨v9, rfl, rfl, h1, rfl, h3, h4⟩
  have f9 : MFr Mi Mi' Y := ⟨fun b q1 q2 q3 => h3 b q2, fun q _ => by rw [h3 Y (by omega)]⟩
  exact ⟨_, rfl, rfl, h1, hC.now f9 h4 (hD.fz (by rw [h3 Y (by omega)]) (h3 _ (by omega))), FZ.mnow f9⟩
theorem M_in {g : GT} {T : TT} {Mi : MI} {Ml : ML} {Y : Nat} {σ : ST} (hC : MInv g T Mi Ml Y σ) (hP : PInv σ) (p s : Int32) : Ct g yX12_in cX12_in 4 (some .int) 4 0 0 [.ref Y, .int p, .int s] T Mi Ml (Gi T (fun rv Mi' Ml' => rv = (o_in σ p s).1 ∧ MInv g T Mi' Ml' Y (o_in σ p s).2 ∧ FZ Mi Ml Mi' Ml' Y (Y + 12))) := by
  obtain ⟨hM, hN, hD, hT, hs, hk⟩ := id hC
  refine (cm_in hM hN hP.w hD p s).weaken ?_
  rintro r T' Mi' Ml' ⟨v9, rfl, rfl, h1, rfl, h3, h4, h5⟩
  cases hq : (sp_in σ.1.1 p s).2 with
  | none =>
    have hm := h4 hq
    subst hm
    refine ⟨_, rfl, rfl, h1, ?_, FZ.rf _ _ _ _⟩
    show MInv g T' _ _ Y (oz σ.1 (sp_in σ.1.1 p s).2 _, σ.2)
    rw [hq]
    exact hC
  | some S' =>
    refine ⟨_, rfl, rfl, h1, ?_, FZ.mnow h3⟩
    show MInv g T' _ _ Y (oz σ.1 (sp_in σ.1.1 p s).2 _, σ.2)
    rw [hq]
    exact hC.now (z' := puT σ.1 S') h3 (h5 S' hq).1 (h5 S' hq).2
theorem M_out {g : GT} {T : TT} {Mi : MI} {Ml : ML} {Y : Nat} {σ : ST} (hC : MInv g T Mi Ml Y σ) (hP : PInv σ) (p : Int32) : Ct g yX12_out cX12_out 2 (some .int) 4 0 0 [.ref Y, .int p] T Mi Ml (Gi T (fun rv Mi' Ml' => rv = (o_out σ p).1 ∧ MInv g T Mi' Ml' Y (o_out σ p).2 ∧ FZ Mi Ml Mi' Ml' Y (Y + 12))) := by
  obtain ⟨hM, hN, hD, hT, hs, hk⟩ := id hC
  refine (cm_out hM hN hP.w hD p).weaken ?_
  rintro r T' Mi' Ml' ⟨v9, rfl, rfl, h1, rfl, h3, h4, h5⟩
  cases hq : (sp_out σ.1.1 p).2 with
  | none =>
    have hm := h4 hq
    subst hm
    refine ⟨_, rfl, rfl, h1, ?_, FZ.rf _ _ _ _⟩
    show MInv g T' _ _ Y (oz σ.1 (sp_out σ.1.1 p).2 _, σ.2)
    rw [hq]
    exact hC
  | some S' =>
    refine ⟨_, rfl, rfl, h1, ?_, FZ.mnow h3⟩
    show MInv g T' _ _ Y (oz σ.1 (sp_out σ.1.1 p).2 _, σ.2)
    rw [hq]
    exact hC.now (z' := puT σ.1 S') h3 (h5 S' hq).1 (h5 S' hq).2
theorem M_person {g : GT} {T : TT} {Mi : MI} {Ml : ML} {Y : Nat} {σ : ST} (hC : MInv g T Mi Ml Y σ) (hP : PInv σ) (k w f d : Int32) : Ct g yX12_person cX12_person 5 (some .int) 3 0 0 [.ref Y, .int k, .int w, .int f, .int d] T Mi Ml (Gi T (fun rv Mi' Ml' => rv = (o_person σ k w f d).1 ∧ MInv g T Mi' Ml' Y (o_person σ k w f d).2 ∧ FZ Mi Ml Mi' Ml' Y (Y + 12))) := by
  obtain ⟨hM, hN, hD, hT, hs, hk⟩ := id hC
  refine (cm_person hM hN hP.w hD k w f d).weaken ?_
  rintro r T' Mi' Ml' ⟨v9, rfl, rfl, h1, rfl, h3, h4, h5⟩
  cases hq : (sp_person σ.1.1 k w f d).2 with
  | none =>
    have hm := h4 hq
    subst hm
    refine ⟨_, rfl, rfl, h1, ?_, FZ.rf _ _ _ _⟩
    show MInv g T' _ _ Y (oz σ.1 (sp_person σ.1.1 k w f d).2 _, σ.2)
    rw [hq]
    exact hC
  | some S' =>
    refine ⟨_, rfl, rfl, h1, ?_, FZ.mnow h3⟩
    show MInv g T' _ _ Y (oz σ.1 (sp_person σ.1.1 k w f d).2 _, σ.2)
    rw [hq]
    exact hC.now (z' := (S', σ.1.2.1, 0)) h3 (h5 S' hq).1 (h5 S' hq).2
theorem M_steps {g : GT} {T : TT} {Mi : MI} {Ml : ML} {Y : Nat} {σ : ST} (hC : MInv g T Mi Ml Y σ) (hP : PInv σ) (k : Int32) : Ct g yX12_steps cX12_steps 3 (some .int) 5 0 0 [.ref Y, .int k] T Mi Ml (Gi T (fun rv Mi' Ml' => rv = (o_steps σ k).1 ∧ MInv g T Mi' Ml' Y (o_steps σ k).2 ∧ FZ Mi Ml Mi' Ml' Y (Y + 12))) := by
  obtain ⟨hM, hN, hD, hT, hs, hk⟩ := id hC
  refine (cm_steps (z := σ.1) hM hN hD hP.1.1 k).weaken ?_
  rintro r T' Mi' Ml' ⟨v9, rfl, rfl, h1, rfl, h3, h4, h5⟩
  exact ⟨_, rfl, rfl, h1, hC.now h3 h4 h5, FZ.mnow h3⟩
theorem M_drift {g : GT} {T : TT} {Mi : MI} {Ml : ML} {Y : Nat} {σ : ST} (hC : MInv g T Mi Ml Y σ) (hP : PInv σ) (k : Int32) : Ct g yX12_drift cX12_drift 4 (some .int) 5 0 0 [.ref Y, .int k] T Mi Ml (Gi T (fun rv Mi' Ml' => rv = (o_drift σ k).1 ∧ MInv g T Mi' Ml' Y (o_drift σ k).2 ∧ FZ Mi Ml Mi' Ml' Y (Y + 12))) := by
  obtain ⟨hM, hN, hD, hT, hs, hk⟩ := id hC
  refine (cm_drift (z := σ.1) hM hN hD hP.1.1 k).weaken ?_
  rintro r T' Mi' Ml' ⟨v9, rfl, rfl, h1, rfl, h3, h4, h5⟩
  exact ⟨_, rfl, rfl, h1, hC.now h3 h4 h5, FZ.mnow h3⟩
theorem M_undo {g : GT} {T : TT} {Mi : MI} {Ml : ML} {Y : Nat} {σ : ST} (hC : MInv g T Mi Ml Y σ) (hP : PInv σ)  : Ct g yX12_undo cX12_undo 3 (some .int) 1 0 0 [.ref Y] T Mi Ml (Gi T (fun rv Mi' Ml' => rv = (o_undo σ).1 ∧ MInv g T Mi' Ml' Y (o_undo σ).2 ∧ FZ Mi Ml Mi' Ml' Y (Y + 12))) := by
  obtain ⟨hM, hN, hD, hT, hs, hk⟩ := id hC
  refine (cm_undo (z := σ.1) hM hN hD hP.1.1 ).weaken ?_
  rintro r T' Mi' Ml' ⟨v9, rfl, rfl, h1, rfl, h3, h4, h5⟩
  exact ⟨_, rfl, rfl, h1, hC.now h3 h4 h5, FZ.mnow h3⟩
theorem M_type {g : GT} {T : TT} {Mi : MI} {Ml : ML} {Y : Nat} {σ : ST} (hC : MInv g T Mi Ml Y σ) (hP : PInv σ) (v : Int32) : Ct g yX12_type cX12_type 2 (some .int) 2 0 0 [.ref Y, .int v] T Mi Ml (Gi T (fun rv Mi' Ml' => rv = (o_type σ v).1 ∧ MInv g T Mi' Ml' Y (o_type σ v).2 ∧ FZ Mi Ml Mi' Ml' Y (Y + 12))) := by
  obtain ⟨hM, hN, hD, hT, hs, hk⟩ := id hC
  refine (cm_type hM hT hP.2.1 v).weaken ?_
  rintro r T' Mi' Ml' ⟨v9, rfl, rfl, h1, rfl, h3, h4, h5⟩
  exact ⟨_, rfl, rfl, h1, ⟨hM, hN.fz (h3 _ (by omega) (by omega)), hD.fz (h4 _ (by omega)) (h3 _ (by omega) (by omega)), h5, hs.fz (h3 _ (by omega) (by omega)) (h3 _ (by omega) (by omega)) rfl, hk.fz (h4 _ (by omega)) (h4 _ (by omega)) (h3 _ (by omega) (by omega))⟩, fun b hb => ⟨h3 b (by omega) (by omega), rfl⟩⟩
theorem M_block {g : GT} {T : TT} {Mi : MI} {Ml : ML} {Y : Nat} {σ : ST} (hC : MInv g T Mi Ml Y σ) (hP : PInv σ)  : Ct g yX12_block cX12_block 4 (some .int) 4 0 0 [.ref Y] T Mi Ml (Gi T (fun rv Mi' Ml' => rv = (o_block σ).1 ∧ MInv g T Mi' Ml' Y (o_block σ).2 ∧ FZ Mi Ml Mi' Ml' Y (Y + 12))) := by
  obtain ⟨hM, hN, hD, hT, hs, hk⟩ := id hC
  refine (cm_block hM hN hP.w hT hP.2.1).weaken ?_
  rintro r T' Mi' Ml' ⟨v9, rfl, rfl, h1, rfl, h3, h4, h5, h6, h7⟩
  have hn : NowR Mi' (Y + 1) (oz σ.1 (sp_block σ.2.1.1 σ.2.1.2 σ.1.1).2 (fun S' => (S', σ.1.2.1, 0))).1 ∧ UndR Mi' Y (oz σ.1 (sp_block σ.2.1.1 σ.2.1.2 σ.1.1).2 (fun S' => (S', σ.1.2.1, 0))).2.1 (oz σ.1 (sp_block σ.2.1.1 σ.2.1.2 σ.1.1).2 (fun S' => (S', σ.1.2.1, 0))).2.2 := by
    cases hq : (sp_block σ.2.1.1 σ.2.1.2 σ.1.1).2 with
    | none => exact ⟨hN.fz (h6 hq).1, hD.fz (h6 hq).2 (h3 _ (by omega) (by omega) (by omega) (by omega))⟩
    | some S' => exact ⟨(h7 S' hq).1, (h7 S' hq).2, Nat.zero_le _, fun j hj => absurd hj (Nat.not_lt_zero _)⟩
  exact ⟨_, rfl, rfl, h1, ⟨hM, hn.1, hn.2, ⟨h5, fun k hk => absurd hk (Nat.not_lt_zero _)⟩, hs.fz (h3 _ (by omega) (by omega) (by omega) (by omega)) (h3 _ (by omega) (by omega) (by omega) (by omega)) rfl, hk.fz (h4 _ (by omega) (by omega) (by omega) (by omega)) (h4 _ (by omega) (by omega) (by omega) (by omega)) (h3 _ (by omega) (by omega) (by omega) (by omega))⟩, fun b hb => ⟨h3 b (by omega) (by omega) (by omega) (by omega), rfl⟩⟩
theorem M_image {g : GT} {T : TT} {Mi : MI} {Ml : ML} {Y : Nat} {σ : ST} (hC : MInv g T Mi Ml Y σ) (hP : PInv σ)  : Ct g yX12_image cX12_image 2 (some .int) 1 0 0 [.ref Y] T Mi Ml (Gi T (fun rv Mi' Ml' => rv = (o_image σ).1 ∧ MInv g T Mi' Ml' Y (o_image σ).2 ∧ FZ Mi Ml Mi' Ml' Y (Y + 12))) := by
  obtain ⟨hM, hN, hD, hT, hs, hk⟩ := id hC
  refine (cm_image (z := σ.1) hM hN hD hP.1.1).weaken ?_
  rintro r T' Mi' Ml' ⟨v9, rfl, rfl, h1, rfl, h3, h4, h5⟩
  exact ⟨_, rfl, rfl, h1, ⟨hM, hN.fz (h3 _ (by omega) (by omega)), hD.fz (h4 _ (by omega) (by omega)) (h3 _ (by omega) (by omega)), hT.fz (h4 _ (by omega) (by omega)) (h3 _ (by omega) (by omega)), hs.fz (h3 _ (by omega) (by omega)) (h3 _ (by omega) (by omega)) rfl, h5⟩, fun b hb => ⟨h3 b (by omega) (by omega), rfl⟩⟩
theorem M_restore {g : GT} {T : TT} {Mi : MI} {Ml : ML} {Y : Nat} {σ : ST} (hC : MInv g T Mi Ml Y σ) (hP : PInv σ)  : Ct g yX12_restore cX12_restore 2 (some .int) 1 0 0 [.ref Y] T Mi Ml (Gi T (fun rv Mi' Ml' => rv = (o_restore σ).1 ∧ MInv g T Mi' Ml' Y (o_restore σ).2 ∧ FZ Mi Ml Mi' Ml' Y (Y + 12))) := by
  obtain ⟨hM, hN, hD, hT, hs, hk⟩ := id hC
  refine (cm_restore hM hk).weaken ?_
  rintro r T' Mi' Ml' ⟨v9, rfl, rfl, rfl, h2, h3⟩
  by_cases hi : σ.2.2.2.1 = true
  · obtain ⟨h4, h5, h6, h7⟩ := h3 hi
    unfold o_restore
    rw [if_pos hi]
    exact ⟨_, rfl, rfl, h4, hC.now h5 h6 h7, FZ.mnow h5⟩
  · obtain ⟨h4, h5⟩ := h2 (Bool.eq_false_iff.mpr hi)
    subst h5
    unfold o_restore
    rw [if_neg hi]
    exact ⟨_, rfl, rfl, h4, hC, FZ.rf _ _ _ _⟩
theorem M_film {g : GT} {T : TT} {Mi : MI} {Ml : ML} {Y : Nat} {σ : ST} (hC : MInv g T Mi Ml Y σ) (hP : PInv σ) (f s n sh l i : Int32) : Ct g yX12_film cX12_film 9 (some .int) 5 0 0 [.ref Y, .int f, .int s, .int n, .int sh, .int l, .int i] T Mi Ml (Gi T (fun rv Mi' Ml' => rv = (o_film σ f s n sh l i).1 ∧ MInv g T Mi' Ml' Y (o_film σ f s n sh l i).2 ∧ FZ Mi Ml Mi' Ml' Y (Y + 12))) := by
  obtain ⟨hM, hN, hD, hT, hs, hk⟩ := id hC
  refine (cm_film hM hN hP.w hs hP.1.2.1 f s n sh l i).weaken ?_
  rintro r T' Mi' Ml' ⟨v9, rfl, rfl, h1, h2, h3, h4, h5⟩
  exact ⟨_, rfl, rfl, h1, hC.sht (fun b q1 q2 q3 q4 => h2 b q1 q4) h4 h5, fun b hb => ⟨h2 b (by omega) (by omega), h3 b (by omega)⟩⟩
theorem M_sheet {g : GT} {T : TT} {Mi : MI} {Ml : ML} {Y : Nat} {σ : ST} (hC : MInv g T Mi Ml Y σ) (hP : PInv σ) (s l n : Int32) : Ct g yX12_sheet cX12_sheet 5 (some .int) 3 0 0 [.ref Y, .int s, .int l, .int n] T Mi Ml (Gi T (fun rv Mi' Ml' => rv = (o_sheet σ s l n).1 ∧ MInv g T Mi' Ml' Y (o_sheet σ s l n).2 ∧ FZ Mi Ml Mi' Ml' Y (Y + 12))) := by
  obtain ⟨hM, hN, hD, hT, hs, hk⟩ := id hC
  refine (cm_sheet hM hs s l n).weaken ?_
  rintro r T' Mi' Ml' ⟨v9, rfl, rfl, h1, h2, h3⟩
  exact ⟨_, rfl, rfl, h1, hC.sht (fun b q1 q2 q3 q4 => h2.1 b q2 q3) (hN.fz (h2.1 _ (by omega) (by omega))) h3, fun b hb => ⟨h2.1 b (by omega) (by omega), h2.2 b (by omega) (by omega)⟩⟩
theorem M_drop {g : GT} {T : TT} {Mi : MI} {Ml : ML} {Y : Nat} {σ : ST} (hC : MInv g T Mi Ml Y σ) (hP : PInv σ) (s : Int32) : Ct g yX12_drop cX12_drop 2 (some .int) 3 0 0 [.ref Y, .int s] T Mi Ml (Gi T (fun rv Mi' Ml' => rv = (o_drop σ s).1 ∧ MInv g T Mi' Ml' Y (o_drop σ s).2 ∧ FZ Mi Ml Mi' Ml' Y (Y + 12))) := by
  obtain ⟨hM, hN, hD, hT, hs, hk⟩ := id hC
  refine (cm_drop hM hs s).weaken ?_
  rintro r T' Mi' Ml' ⟨v9, rfl, rfl, h1, h2, h3⟩
  exact ⟨_, rfl, rfl, h1, hC.sht (fun b q1 q2 q3 q4 => h2.1 b q2 q3) (hN.fz (h2.1 _ (by omega) (by omega))) h3, fun b hb => ⟨h2.1 b (by omega) (by omega), h2.2 b (by omega) (by omega)⟩⟩
theorem M_item {g : GT} {T : TT} {Mi : MI} {Ml : ML} {Y : Nat} {σ : ST} (hC : MInv g T Mi Ml Y σ) (hP : PInv σ) (s l i : Int32) (v : Int64) : Ct g yX12_item cX12_item 7 (some .int) 3 0 0 [.ref Y, .int s, .int l, .int i, .long v] T Mi Ml (Gi T (fun rv Mi' Ml' => rv = (o_item σ s l i v).1 ∧ MInv g T Mi' Ml' Y (o_item σ s l i v).2 ∧ FZ Mi Ml Mi' Ml' Y (Y + 12))) := by
  obtain ⟨hM, hN, hD, hT, hs, hk⟩ := id hC
  refine (cm_item hM hs s l i v).weaken ?_
  rintro r T' Mi' Ml' ⟨v9, rfl, rfl, h1, h2, h3⟩
  exact ⟨_, rfl, rfl, h1, hC.sht (fun b q1 q2 q3 q4 => h2.1 b q2 q3) (hN.fz (h2.1 _ (by omega) (by omega))) h3, fun b hb => ⟨h2.1 b (by omega) (by omega), h2.2 b (by omega) (by omega)⟩⟩
theorem M_copy {g : GT} {T : TT} {Mi : MI} {Ml : ML} {Y : Nat} {σ : ST} (hC : MInv g T Mi Ml Y σ) (hP : PInv σ) (f i t j n : Int32) : Ct g yX12_copy cX12_copy 8 (some .int) 3 0 0 [.ref Y, .int f, .int i, .int t, .int j, .int n] T Mi Ml (Gi T (fun rv Mi' Ml' => rv = (o_copy σ f i t j n).1 ∧ MInv g T Mi' Ml' Y (o_copy σ f i t j n).2 ∧ FZ Mi Ml Mi' Ml' Y (Y + 12))) := by
  obtain ⟨hM, hN, hD, hT, hs, hk⟩ := id hC
  refine (cm_copy hM hs f i t j n).weaken ?_
  rintro r T' Mi' Ml' ⟨v9, rfl, rfl, h1, h2, h3⟩
  exact ⟨_, rfl, rfl, h1, hC.sht (fun b q1 q2 q3 q4 => h2.1 b q2 q3) (hN.fz (h2.1 _ (by omega) (by omega))) h3, fun b hb => ⟨h2.1 b (by omega) (by omega), h2.2 b (by omega) (by omega)⟩⟩
