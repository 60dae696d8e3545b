/-! THE LAW'S OWN ROWS -/
def Sc (x : CX) (b L : Nat) (xs : Nat → Int32) : Prop := match x with
  | (g, _, _, _, _, s, _, _, _, _, _, _, _) => va_X b L xs s s.heap ∧ b < s.heap.size ∧ ¬ gO g b
section SCR
variable {x : CX} {cs sl : Nat} {T : TT} {Mi : MI} {Ml : ML} {pc : Nat} {lv : List (Option Value)} {st : List Value} {own : String} {cc : ByteArray} {d b L : Nat} {xs : Nat → Int32}
theorem jv_sld {i : Int32} {j : Nat} (h : Ok x own cc d) (hx : Sc x b L xs) (dc : decode cc pc = .ok (.iaload, 1)) (hi : NF i j) (hj : j < L ∧ L < 2 ^ 31) (kk : V x cs sl T Mi Ml (pc + 1) lv (.int (xs j) :: st)) : V x cs sl T Mi Ml pc lv (.int i :: .ref b :: st) := by
  obtain ⟨g, p, l, e, R, s, m, args, below, meth, c, nL, Q⟩ := x
  obtain ⟨hx0, hb, hml, hown, hts, hlk, hK, hSt, hz, hfr, hlo⟩ := h
  intro H locs ls hR hS hl
  obtain ⟨h1, h2, h3⟩ := hx
  have hv := NF_in hi hj.1 hj.2
  refine va_sld hx0 hb h1 h2 h3 hS hv dc ?_
  have hi : i = nI j := hi
  rw [hi, nI_clamp (by omega)]
  exact kk H locs ls hR hS hl
theorem jv_slen (h : Ok x own cc d) (hx : Sc x b L xs) (dc : decode cc pc = .ok (.arraylength, 1)) (kk : V x cs sl T Mi Ml (pc + 1) lv (.int (nI L) :: st)) : V x cs sl T Mi Ml pc lv (.ref b :: st) := by
  obtain ⟨g, p, l, e, R, s, m, args, below, meth, c, nL, Q⟩ := x
  obtain ⟨hx0, hb, hml, hown, hts, hlk, hK, hSt, hz, hfr, hlo⟩ := h
  intro H locs ls hR hS hl
  obtain ⟨h1, h2, h3⟩ := hx
  exact va_slen hx0 hb h1 h2 h3 hS dc (kk H locs ls hR hS hl)
end SCR

set_option maxHeartbeats 4000000 in
set_option maxRecDepth 100000 in
theorem lc_person {x : CX} {T : TT} {Mi : MI} {Ml : ML} {b L X i : Nat} {xs : Nat → Int32} {σ : ST} (h : Ok x RL cL_law 14) (hR : x.2.2.2.2.1 = room_1) (hx : Sc x b L xs) (hL : L ≤ 448) (hi : i + 7 ≤ L) (hC : CInv x.1 T Mi Ml X σ) (hM : MInv x.1 T Mi Ml (X + 194) σ) (hP : PInv σ)
    (hk : ∀ (M2 : MI) (L2 : ML) (σ2 : ST), CInv x.1 T M2 L2 X σ2 → MInv x.1 T M2 L2 (X + 194) σ2 → PInv σ2 → V x 206 2625 T M2 L2 1287 [some (.ref b), some (.ref X), some (.ref (X + 194)), some (.int (nI i))] []) : V x 206 2625 T Mi Ml 172 [some (.ref b), some (.ref X), some (.ref (X + 194)), some (.int (nI i))] [] := by
  refine jv_aload_n h dL_law_172 rfl ?_
  refine jv_aload_n h dL_law_173 rfl ?_
  refine jv_iload_n h dL_law_174 rfl ?_
  refine jv_iconst (nI 1) h dL_law_175 (by decide) ?_
  first | refine jv_iaddN h dL_law_176 (by repeat (with_reducible first | exact NF_nI _ | assumption | refine NF_add ?_ ?_ | refine NF_mul ?_ ?_)) (by repeat (with_reducible first | exact NF_nI _ | assumption | refine NF_add ?_ ?_ | refine NF_mul ?_ ?_)) ?_ | refine jv_iadd h dL_law_176 ?_
  refine jv_sld h hx dL_law_177 (by repeat (with_reducible first | exact NF_nI _ | assumption | refine NF_add ?_ ?_ | refine NF_mul ?_ ?_)) ⟨by omega, by omega⟩ ?_
  refine jv_aload_n h dL_law_178 rfl ?_
  refine jv_iload_n h dL_law_179 rfl ?_
  refine jv_iconst (nI 2) h dL_law_180 (by decide) ?_
  first | refine jv_iaddN h dL_law_181 (by repeat (with_reducible first | exact NF_nI _ | assumption | refine NF_add ?_ ?_ | refine NF_mul ?_ ?_)) (by repeat (with_reducible first | exact NF_nI _ | assumption | refine NF_add ?_ ?_ | refine NF_mul ?_ ?_)) ?_ | refine jv_iadd h dL_law_181 ?_
  refine jv_sld h hx dL_law_182 (by repeat (with_reducible first | exact NF_nI _ | assumption | refine NF_add ?_ ?_ | refine NF_mul ?_ ?_)) ⟨by omega, by omega⟩ ?_
  refine jv_aload_n h dL_law_183 rfl ?_
  refine jv_iload_n h dL_law_184 rfl ?_
  refine jv_iconst (nI 3) h dL_law_185 (by decide) ?_
  first | refine jv_iaddN h dL_law_186 (by repeat (with_reducible first | exact NF_nI _ | assumption | refine NF_add ?_ ?_ | refine NF_mul ?_ ?_)) (by repeat (with_reducible first | exact NF_nI _ | assumption | refine NF_add ?_ ?_ | refine NF_mul ?_ ?_)) ?_ | refine jv_iadd h dL_law_186 ?_
  refine jv_sld h hx dL_law_187 (by repeat (with_reducible first | exact NF_nI _ | assumption | refine NF_add ?_ ?_ | refine NF_mul ?_ ?_)) ⟨by omega, by omega⟩ ?_
  refine jv_aload_n h dL_law_188 rfl ?_
  refine jv_iload_n h dL_law_189 rfl ?_
  refine jv_iconst (nI 4) h dL_law_190 (by decide) ?_
  first | refine jv_iaddN h dL_law_191 (by repeat (with_reducible first | exact NF_nI _ | assumption | refine NF_add ?_ ?_ | refine NF_mul ?_ ?_)) (by repeat (with_reducible first | exact NF_nI _ | assumption | refine NF_add ?_ ?_ | refine NF_mul ?_ ?_)) ?_ | refine jv_iadd h dL_law_191 ?_
  refine jv_sld h hx dL_law_192 (by repeat (with_reducible first | exact NF_nI _ | assumption | refine NF_add ?_ ?_ | refine NF_mul ?_ ?_)) ⟨by omega, by omega⟩ ?_
  refine jv_VGi [_, _, _, _] h dL_law_193 cw_L_13 cf_10 hC.1.1 (C_person hC hP _ _ _ _) (by decide) rfl rfl (Nat.le_of_ble_eq_true rfl) (by rw [hR]; exact ⟨Nat.le_of_ble_eq_true rfl, Nat.le_of_ble_eq_true rfl⟩) (fun v_c Mc Lc hpc => ?_)
  obtain ⟨e1, hC1, f1⟩ := hpc
  have hM1 : MInv x.1 T Mc Lc (X + 194) σ := hM.fr (fun q q1 q2 => f1 q (by omega))
  refine jv_aload_n h dL_law_196 rfl ?_
  refine jv_aload_n h dL_law_197 rfl ?_
  refine jv_iload_n h dL_law_198 rfl ?_
  refine jv_iconst (nI 1) h dL_law_199 (by decide) ?_
  first | refine jv_iaddN h dL_law_200 (by repeat (with_reducible first | exact NF_nI _ | assumption | refine NF_add ?_ ?_ | refine NF_mul ?_ ?_)) (by repeat (with_reducible first | exact NF_nI _ | assumption | refine NF_add ?_ ?_ | refine NF_mul ?_ ?_)) ?_ | refine jv_iadd h dL_law_200 ?_
  refine jv_sld h hx dL_law_201 (by repeat (with_reducible first | exact NF_nI _ | assumption | refine NF_add ?_ ?_ | refine NF_mul ?_ ?_)) ⟨by omega, by omega⟩ ?_
  refine jv_aload_n h dL_law_202 rfl ?_
  refine jv_iload_n h dL_law_203 rfl ?_
  refine jv_iconst (nI 2) h dL_law_204 (by decide) ?_
  first | refine jv_iaddN h dL_law_205 (by repeat (with_reducible first | exact NF_nI _ | assumption | refine NF_add ?_ ?_ | refine NF_mul ?_ ?_)) (by repeat (with_reducible first | exact NF_nI _ | assumption | refine NF_add ?_ ?_ | refine NF_mul ?_ ?_)) ?_ | refine jv_iadd h dL_law_205 ?_
  refine jv_sld h hx dL_law_206 (by repeat (with_reducible first | exact NF_nI _ | assumption | refine NF_add ?_ ?_ | refine NF_mul ?_ ?_)) ⟨by omega, by omega⟩ ?_
  refine jv_aload_n h dL_law_207 rfl ?_
  refine jv_iload_n h dL_law_208 rfl ?_
  refine jv_iconst (nI 3) h dL_law_209 (by decide) ?_
  first | refine jv_iaddN h dL_law_210 (by repeat (with_reducible first | exact NF_nI _ | assumption | refine NF_add ?_ ?_ | refine NF_mul ?_ ?_)) (by repeat (with_reducible first | exact NF_nI _ | assumption | refine NF_add ?_ ?_ | refine NF_mul ?_ ?_)) ?_ | refine jv_iadd h dL_law_210 ?_
  refine jv_sld h hx dL_law_211 (by repeat (with_reducible first | exact NF_nI _ | assumption | refine NF_add ?_ ?_ | refine NF_mul ?_ ?_)) ⟨by omega, by omega⟩ ?_
  refine jv_aload_n h dL_law_212 rfl ?_
  refine jv_iload_n h dL_law_213 rfl ?_
  refine jv_iconst (nI 4) h dL_law_214 (by decide) ?_
  first | refine jv_iaddN h dL_law_215 (by repeat (with_reducible first | exact NF_nI _ | assumption | refine NF_add ?_ ?_ | refine NF_mul ?_ ?_)) (by repeat (with_reducible first | exact NF_nI _ | assumption | refine NF_add ?_ ?_ | refine NF_mul ?_ ?_)) ?_ | refine jv_iadd h dL_law_215 ?_
  refine jv_sld h hx dL_law_216 (by repeat (with_reducible first | exact NF_nI _ | assumption | refine NF_add ?_ ?_ | refine NF_mul ?_ ?_)) ⟨by omega, by omega⟩ ?_
  refine jv_VGi [_, _, _, _] h dL_law_217 cw_L_17 cf_11 hM1.1.1 (M_person hM1 hP _ _ _ _) (by decide) rfl rfl (Nat.le_of_ble_eq_true rfl) (by rw [hR]; exact ⟨Nat.le_of_ble_eq_true rfl, Nat.le_of_ble_eq_true rfl⟩) (fun v_m Mm Lm hpm => ?_)
  obtain ⟨e2, hM2, f2⟩ := hpm
  have hC2 := hC1.fr (p_person _ _ _ _ hP) (fun q q1 q2 => f2 q (by omega))
  refine jv_icmp_eq 1287 h dL_law_220 (by decide) (fun c220 => ?_) (fun c220 => ?_)
  · exact hk _ _ _ hC2 hM2 (p_person _ _ _ _ hP)
  · exact absurd (e1.trans e2.symm) c220
set_option maxHeartbeats 4000000 in
set_option maxRecDepth 100000 in
theorem lc_of {x : CX} {T : TT} {Mi : MI} {Ml : ML} {b L X i : Nat} {xs : Nat → Int32} {σ : ST} (h : Ok x RL cL_law 14) (hR : x.2.2.2.2.1 = room_1) (hx : Sc x b L xs) (hL : L ≤ 448) (hi : i + 7 ≤ L) (hC : CInv x.1 T Mi Ml X σ) (hM : MInv x.1 T Mi Ml (X + 194) σ) (hP : PInv σ)
    (hk : ∀ (M2 : MI) (L2 : ML) (σ2 : ST), CInv x.1 T M2 L2 X σ2 → MInv x.1 T M2 L2 (X + 194) σ2 → PInv σ2 → V x 206 2625 T M2 L2 1287 [some (.ref b), some (.ref X), some (.ref (X + 194)), some (.int (nI i))] []) : V x 206 2625 T Mi Ml 225 [some (.ref b), some (.ref X), some (.ref (X + 194)), some (.int (nI i))] [] := by
  refine jv_aload_n h dL_law_225 rfl ?_
  refine jv_aload_n h dL_law_226 rfl ?_
  refine jv_iload_n h dL_law_227 rfl ?_
  refine jv_iconst (nI 1) h dL_law_228 (by decide) ?_
  first | refine jv_iaddN h dL_law_229 (by repeat (with_reducible first | exact NF_nI _ | assumption | refine NF_add ?_ ?_ | refine NF_mul ?_ ?_)) (by repeat (with_reducible first | exact NF_nI _ | assumption | refine NF_add ?_ ?_ | refine NF_mul ?_ ?_)) ?_ | refine jv_iadd h dL_law_229 ?_
  refine jv_sld h hx dL_law_230 (by repeat (with_reducible first | exact NF_nI _ | assumption | refine NF_add ?_ ?_ | refine NF_mul ?_ ?_)) ⟨by omega, by omega⟩ ?_
  refine jv_aload_n h dL_law_231 rfl ?_
  refine jv_iload_n h dL_law_232 rfl ?_
  refine jv_iconst (nI 2) h dL_law_233 (by decide) ?_
  first | refine jv_iaddN h dL_law_234 (by repeat (with_reducible first | exact NF_nI _ | assumption | refine NF_add ?_ ?_ | refine NF_mul ?_ ?_)) (by repeat (with_reducible first | exact NF_nI _ | assumption | refine NF_add ?_ ?_ | refine NF_mul ?_ ?_)) ?_ | refine jv_iadd h dL_law_234 ?_
  refine jv_sld h hx dL_law_235 (by repeat (with_reducible first | exact NF_nI _ | assumption | refine NF_add ?_ ?_ | refine NF_mul ?_ ?_)) ⟨by omega, by omega⟩ ?_
  refine jv_VGi [_, _] h dL_law_236 cw_L_18 cf_10 hC.1.1 (C_of hC hP _ _) (by decide) rfl rfl (Nat.le_of_ble_eq_true rfl) (by rw [hR]; exact ⟨Nat.le_of_ble_eq_true rfl, Nat.le_of_ble_eq_true rfl⟩) (fun v_c Mc Lc hpc => ?_)
  obtain ⟨e1, hC1, f1⟩ := hpc
  have hM1 : MInv x.1 T Mc Lc (X + 194) σ := hM.fr (fun q q1 q2 => f1 q (by omega))
  refine jv_aload_n h dL_law_239 rfl ?_
  refine jv_aload_n h dL_law_240 rfl ?_
  refine jv_iload_n h dL_law_241 rfl ?_
  refine jv_iconst (nI 1) h dL_law_242 (by decide) ?_
  first | refine jv_iaddN h dL_law_243 (by repeat (with_reducible first | exact NF_nI _ | assumption | refine NF_add ?_ ?_ | refine NF_mul ?_ ?_)) (by repeat (with_reducible first | exact NF_nI _ | assumption | refine NF_add ?_ ?_ | refine NF_mul ?_ ?_)) ?_ | refine jv_iadd h dL_law_243 ?_
  refine jv_sld h hx dL_law_244 (by repeat (with_reducible first | exact NF_nI _ | assumption | refine NF_add ?_ ?_ | refine NF_mul ?_ ?_)) ⟨by omega, by omega⟩ ?_
  refine jv_aload_n h dL_law_245 rfl ?_
  refine jv_iload_n h dL_law_246 rfl ?_
  refine jv_iconst (nI 2) h dL_law_247 (by decide) ?_
  first | refine jv_iaddN h dL_law_248 (by repeat (with_reducible first | exact NF_nI _ | assumption | refine NF_add ?_ ?_ | refine NF_mul ?_ ?_)) (by repeat (with_reducible first | exact NF_nI _ | assumption | refine NF_add ?_ ?_ | refine NF_mul ?_ ?_)) ?_ | refine jv_iadd h dL_law_248 ?_
  refine jv_sld h hx dL_law_249 (by repeat (with_reducible first | exact NF_nI _ | assumption | refine NF_add ?_ ?_ | refine NF_mul ?_ ?_)) ⟨by omega, by omega⟩ ?_
  refine jv_VGi [_, _] h dL_law_250 cw_L_22 cf_11 hM1.1.1 (M_of hM1 hP _ _) (by decide) rfl rfl (Nat.le_of_ble_eq_true rfl) (by rw [hR]; exact ⟨Nat.le_of_ble_eq_true rfl, Nat.le_of_ble_eq_true rfl⟩) (fun v_m Mm Lm hpm => ?_)
  obtain ⟨e2, hM2, f2⟩ := hpm
  have hC2 := hC1.fr (p_of _ _ hP) (fun q q1 q2 => f2 q (by omega))
  refine jv_icmp_eq 1287 h dL_law_253 (by decide) (fun c253 => ?_) (fun c253 => ?_)
  · exact hk _ _ _ hC2 hM2 (p_of _ _ hP)
  · exact absurd (e1.trans e2.symm) c253
set_option maxHeartbeats 4000000 in
set_option maxRecDepth 100000 in
theorem lc_car {x : CX} {T : TT} {Mi : MI} {Ml : ML} {b L X i : Nat} {xs : Nat → Int32} {σ : ST} (h : Ok x RL cL_law 14) (hR : x.2.2.2.2.1 = room_1) (hx : Sc x b L xs) (hL : L ≤ 448) (hi : i + 7 ≤ L) (hC : CInv x.1 T Mi Ml X σ) (hM : MInv x.1 T Mi Ml (X + 194) σ) (hP : PInv σ)
    (hk : ∀ (M2 : MI) (L2 : ML) (σ2 : ST), CInv x.1 T M2 L2 X σ2 → MInv x.1 T M2 L2 (X + 194) σ2 → PInv σ2 → V x 206 2625 T M2 L2 1287 [some (.ref b), some (.ref X), some (.ref (X + 194)), some (.int (nI i))] []) : V x 206 2625 T Mi Ml 258 [some (.ref b), some (.ref X), some (.ref (X + 194)), some (.int (nI i))] [] := by
  refine jv_aload_n h dL_law_258 rfl ?_
  refine jv_aload_n h dL_law_259 rfl ?_
  refine jv_iload_n h dL_law_260 rfl ?_
  refine jv_iconst (nI 1) h dL_law_261 (by decide) ?_
  first | refine jv_iaddN h dL_law_262 (by repeat (with_reducible first | exact NF_nI _ | assumption | refine NF_add ?_ ?_ | refine NF_mul ?_ ?_)) (by repeat (with_reducible first | exact NF_nI _ | assumption | refine NF_add ?_ ?_ | refine NF_mul ?_ ?_)) ?_ | refine jv_iadd h dL_law_262 ?_
  refine jv_sld h hx dL_law_263 (by repeat (with_reducible first | exact NF_nI _ | assumption | refine NF_add ?_ ?_ | refine NF_mul ?_ ?_)) ⟨by omega, by omega⟩ ?_
  refine jv_aload_n h dL_law_264 rfl ?_
  refine jv_iload_n h dL_law_265 rfl ?_
  refine jv_iconst (nI 2) h dL_law_266 (by decide) ?_
  first | refine jv_iaddN h dL_law_267 (by repeat (with_reducible first | exact NF_nI _ | assumption | refine NF_add ?_ ?_ | refine NF_mul ?_ ?_)) (by repeat (with_reducible first | exact NF_nI _ | assumption | refine NF_add ?_ ?_ | refine NF_mul ?_ ?_)) ?_ | refine jv_iadd h dL_law_267 ?_
  refine jv_sld h hx dL_law_268 (by repeat (with_reducible first | exact NF_nI _ | assumption | refine NF_add ?_ ?_ | refine NF_mul ?_ ?_)) ⟨by omega, by omega⟩ ?_
  refine jv_VGi [_, _] h dL_law_269 cw_L_23 cf_10 hC.1.1 (C_car hC hP _ _) (by decide) rfl rfl (Nat.le_of_ble_eq_true rfl) (by rw [hR]; exact ⟨Nat.le_of_ble_eq_true rfl, Nat.le_of_ble_eq_true rfl⟩) (fun v_c Mc Lc hpc => ?_)
  obtain ⟨e1, hC1, f1⟩ := hpc
  have hM1 : MInv x.1 T Mc Lc (X + 194) σ := hM.fr (fun q q1 q2 => f1 q (by omega))
  refine jv_aload_n h dL_law_272 rfl ?_
  refine jv_aload_n h dL_law_273 rfl ?_
  refine jv_iload_n h dL_law_274 rfl ?_
  refine jv_iconst (nI 1) h dL_law_275 (by decide) ?_
  first | refine jv_iaddN h dL_law_276 (by repeat (with_reducible first | exact NF_nI _ | assumption | refine NF_add ?_ ?_ | refine NF_mul ?_ ?_)) (by repeat (with_reducible first | exact NF_nI _ | assumption | refine NF_add ?_ ?_ | refine NF_mul ?_ ?_)) ?_ | refine jv_iadd h dL_law_276 ?_
  refine jv_sld h hx dL_law_277 (by repeat (with_reducible first | exact NF_nI _ | assumption | refine NF_add ?_ ?_ | refine NF_mul ?_ ?_)) ⟨by omega, by omega⟩ ?_
  refine jv_aload_n h dL_law_278 rfl ?_
  refine jv_iload_n h dL_law_279 rfl ?_
  refine jv_iconst (nI 2) h dL_law_280 (by decide) ?_
  first | refine jv_iaddN h dL_law_281 (by repeat (with_reducible first | exact NF_nI _ | assumption | refine NF_add ?_ ?_ | refine NF_mul ?_ ?_)) (by repeat (with_reducible first | exact NF_nI _ | assumption | refine NF_add ?_ ?_ | refine NF_mul ?_ ?_)) ?_ | refine jv_iadd h dL_law_281 ?_
  refine jv_sld h hx dL_law_282 (by repeat (with_reducible first | exact NF_nI _ | assumption | refine NF_add ?_ ?_ | refine NF_mul ?_ ?_)) ⟨by omega, by omega⟩ ?_
  refine jv_VGi [_, _] h dL_law_283 cw_L_26 cf_11 hM1.1.1 (M_car hM1 hP _ _) (by decide) rfl rfl (Nat.le_of_ble_eq_true rfl) (by rw [hR]; exact ⟨Nat.le_of_ble_eq_true rfl, Nat.le_of_ble_eq_true rfl⟩) (fun v_m Mm Lm hpm => ?_)
  obtain ⟨e2, hM2, f2⟩ := hpm
  have hC2 := hC1.fr (p_car _ _ hP) (fun q q1 q2 => f2 q (by omega))
  refine jv_icmp_eq 1287 h dL_law_286 (by decide) (fun c286 => ?_) (fun c286 => ?_)
  · exact hk _ _ _ hC2 hM2 (p_car _ _ hP)
  · exact absurd (e1.trans e2.symm) c286
set_option maxHeartbeats 4000000 in
set_option maxRecDepth 100000 in
theorem lc_day {x : CX} {T : TT} {Mi : MI} {Ml : ML} {b L X i : Nat} {xs : Nat → Int32} {σ : ST} (h : Ok x RL cL_law 14) (hR : x.2.2.2.2.1 = room_1) (hx : Sc x b L xs) (hL : L ≤ 448) (hi : i + 7 ≤ L) (hC : CInv x.1 T Mi Ml X σ) (hM : MInv x.1 T Mi Ml (X + 194) σ) (hP : PInv σ)
    (hk : ∀ (M2 : MI) (L2 : ML) (σ2 : ST), CInv x.1 T M2 L2 X σ2 → MInv x.1 T M2 L2 (X + 194) σ2 → PInv σ2 → V x 206 2625 T M2 L2 1287 [some (.ref b), some (.ref X), some (.ref (X + 194)), some (.int (nI i))] []) : V x 206 2625 T Mi Ml 291 [some (.ref b), some (.ref X), some (.ref (X + 194)), some (.int (nI i))] [] := by
  refine jv_aload_n h dL_law_291 rfl ?_
  refine jv_aload_n h dL_law_292 rfl ?_
  refine jv_iload_n h dL_law_293 rfl ?_
  refine jv_iconst (nI 1) h dL_law_294 (by decide) ?_
  first | refine jv_iaddN h dL_law_295 (by repeat (with_reducible first | exact NF_nI _ | assumption | refine NF_add ?_ ?_ | refine NF_mul ?_ ?_)) (by repeat (with_reducible first | exact NF_nI _ | assumption | refine NF_add ?_ ?_ | refine NF_mul ?_ ?_)) ?_ | refine jv_iadd h dL_law_295 ?_
  refine jv_sld h hx dL_law_296 (by repeat (with_reducible first | exact NF_nI _ | assumption | refine NF_add ?_ ?_ | refine NF_mul ?_ ?_)) ⟨by omega, by omega⟩ ?_
  refine jv_aload_n h dL_law_297 rfl ?_
  refine jv_iload_n h dL_law_298 rfl ?_
  refine jv_iconst (nI 2) h dL_law_299 (by decide) ?_
  first | refine jv_iaddN h dL_law_300 (by repeat (with_reducible first | exact NF_nI _ | assumption | refine NF_add ?_ ?_ | refine NF_mul ?_ ?_)) (by repeat (with_reducible first | exact NF_nI _ | assumption | refine NF_add ?_ ?_ | refine NF_mul ?_ ?_)) ?_ | refine jv_iadd h dL_law_300 ?_
  refine jv_sld h hx dL_law_301 (by repeat (with_reducible first | exact NF_nI _ | assumption | refine NF_add ?_ ?_ | refine NF_mul ?_ ?_)) ⟨by omega, by omega⟩ ?_
  refine jv_VGi [_, _] h dL_law_302 cw_L_27 cf_10 hC.1.1 (C_day hC hP _ _) (by decide) rfl rfl (Nat.le_of_ble_eq_true rfl) (by rw [hR]; exact ⟨Nat.le_of_ble_eq_true rfl, Nat.le_of_ble_eq_true rfl⟩) (fun v_c Mc Lc hpc => ?_)
  obtain ⟨e1, hC1, f1⟩ := hpc
  have hM1 : MInv x.1 T Mc Lc (X + 194) σ := hM.fr (fun q q1 q2 => f1 q (by omega))
  refine jv_aload_n h dL_law_305 rfl ?_
  refine jv_aload_n h dL_law_306 rfl ?_
  refine jv_iload_n h dL_law_307 rfl ?_
  refine jv_iconst (nI 1) h dL_law_308 (by decide) ?_
  first | refine jv_iaddN h dL_law_309 (by repeat (with_reducible first | exact NF_nI _ | assumption | refine NF_add ?_ ?_ | refine NF_mul ?_ ?_)) (by repeat (with_reducible first | exact NF_nI _ | assumption | refine NF_add ?_ ?_ | refine NF_mul ?_ ?_)) ?_ | refine jv_iadd h dL_law_309 ?_
  refine jv_sld h hx dL_law_310 (by repeat (with_reducible first | exact NF_nI _ | assumption | refine NF_add ?_ ?_ | refine NF_mul ?_ ?_)) ⟨by omega, by omega⟩ ?_
  refine jv_aload_n h dL_law_311 rfl ?_
  refine jv_iload_n h dL_law_312 rfl ?_
  refine jv_iconst (nI 2) h dL_law_313 (by decide) ?_
  first | refine jv_iaddN h dL_law_314 (by repeat (with_reducible first | exact NF_nI _ | assumption | refine NF_add ?_ ?_ | refine NF_mul ?_ ?_)) (by repeat (with_reducible first | exact NF_nI _ | assumption | refine NF_add ?_ ?_ | refine NF_mul ?_ ?_)) ?_ | refine jv_iadd h dL_law_314 ?_
  refine jv_sld h hx dL_law_315 (by repeat (with_reducible first | exact NF_nI _ | assumption | refine NF_add ?_ ?_ | refine NF_mul ?_ ?_)) ⟨by omega, by omega⟩ ?_
  refine jv_VGi [_, _] h dL_law_316 cw_L_30 cf_11 hM1.1.1 (M_day hM1 hP _ _) (by decide) rfl rfl (Nat.le_of_ble_eq_true rfl) (by rw [hR]; exact ⟨Nat.le_of_ble_eq_true rfl, Nat.le_of_ble_eq_true rfl⟩) (fun v_m Mm Lm hpm => ?_)
  obtain ⟨e2, hM2, f2⟩ := hpm
  have hC2 := hC1.fr (p_day _ _ hP) (fun q q1 q2 => f2 q (by omega))
  refine jv_icmp_eq 1287 h dL_law_319 (by decide) (fun c319 => ?_) (fun c319 => ?_)
  · exact hk _ _ _ hC2 hM2 (p_day _ _ hP)
  · exact absurd (e1.trans e2.symm) c319
set_option maxHeartbeats 4000000 in
set_option maxRecDepth 100000 in
theorem lc_rule {x : CX} {T : TT} {Mi : MI} {Ml : ML} {b L X i : Nat} {xs : Nat → Int32} {σ : ST} (h : Ok x RL cL_law 14) (hR : x.2.2.2.2.1 = room_1) (hx : Sc x b L xs) (hL : L ≤ 448) (hi : i + 7 ≤ L) (hC : CInv x.1 T Mi Ml X σ) (hM : MInv x.1 T Mi Ml (X + 194) σ) (hP : PInv σ)
    (hk : ∀ (M2 : MI) (L2 : ML) (σ2 : ST), CInv x.1 T M2 L2 X σ2 → MInv x.1 T M2 L2 (X + 194) σ2 → PInv σ2 → V x 206 2625 T M2 L2 1287 [some (.ref b), some (.ref X), some (.ref (X + 194)), some (.int (nI i))] []) : V x 206 2625 T Mi Ml 324 [some (.ref b), some (.ref X), some (.ref (X + 194)), some (.int (nI i))] [] := by
  refine jv_aload_n h dL_law_324 rfl ?_
  refine jv_aload_n h dL_law_325 rfl ?_
  refine jv_iload_n h dL_law_326 rfl ?_
  refine jv_iconst (nI 1) h dL_law_327 (by decide) ?_
  first | refine jv_iaddN h dL_law_328 (by repeat (with_reducible first | exact NF_nI _ | assumption | refine NF_add ?_ ?_ | refine NF_mul ?_ ?_)) (by repeat (with_reducible first | exact NF_nI _ | assumption | refine NF_add ?_ ?_ | refine NF_mul ?_ ?_)) ?_ | refine jv_iadd h dL_law_328 ?_
  refine jv_sld h hx dL_law_329 (by repeat (with_reducible first | exact NF_nI _ | assumption | refine NF_add ?_ ?_ | refine NF_mul ?_ ?_)) ⟨by omega, by omega⟩ ?_
  refine jv_aload_n h dL_law_330 rfl ?_
  refine jv_iload_n h dL_law_331 rfl ?_
  refine jv_iconst (nI 2) h dL_law_332 (by decide) ?_
  first | refine jv_iaddN h dL_law_333 (by repeat (with_reducible first | exact NF_nI _ | assumption | refine NF_add ?_ ?_ | refine NF_mul ?_ ?_)) (by repeat (with_reducible first | exact NF_nI _ | assumption | refine NF_add ?_ ?_ | refine NF_mul ?_ ?_)) ?_ | refine jv_iadd h dL_law_333 ?_
  refine jv_sld h hx dL_law_334 (by repeat (with_reducible first | exact NF_nI _ | assumption | refine NF_add ?_ ?_ | refine NF_mul ?_ ?_)) ⟨by omega, by omega⟩ ?_
  refine jv_VGi [_, _] h dL_law_335 cw_L_31 cf_10 hC.1.1 (C_rule hC hP _ _) (by decide) rfl rfl (Nat.le_of_ble_eq_true rfl) (by rw [hR]; exact ⟨Nat.le_of_ble_eq_true rfl, Nat.le_of_ble_eq_true rfl⟩) (fun v_c Mc Lc hpc => ?_)
  obtain ⟨e1, hC1, f1⟩ := hpc
  have hM1 : MInv x.1 T Mc Lc (X + 194) σ := hM.fr (fun q q1 q2 => f1 q (by omega))
  refine jv_aload_n h dL_law_338 rfl ?_
  refine jv_aload_n h dL_law_339 rfl ?_
  refine jv_iload_n h dL_law_340 rfl ?_
  refine jv_iconst (nI 1) h dL_law_341 (by decide) ?_
  first | refine jv_iaddN h dL_law_342 (by repeat (with_reducible first | exact NF_nI _ | assumption | refine NF_add ?_ ?_ | refine NF_mul ?_ ?_)) (by repeat (with_reducible first | exact NF_nI _ | assumption | refine NF_add ?_ ?_ | refine NF_mul ?_ ?_)) ?_ | refine jv_iadd h dL_law_342 ?_
  refine jv_sld h hx dL_law_343 (by repeat (with_reducible first | exact NF_nI _ | assumption | refine NF_add ?_ ?_ | refine NF_mul ?_ ?_)) ⟨by omega, by omega⟩ ?_
  refine jv_aload_n h dL_law_344 rfl ?_
  refine jv_iload_n h dL_law_345 rfl ?_
  refine jv_iconst (nI 2) h dL_law_346 (by decide) ?_
  first | refine jv_iaddN h dL_law_347 (by repeat (with_reducible first | exact NF_nI _ | assumption | refine NF_add ?_ ?_ | refine NF_mul ?_ ?_)) (by repeat (with_reducible first | exact NF_nI _ | assumption | refine NF_add ?_ ?_ | refine NF_mul ?_ ?_)) ?_ | refine jv_iadd h dL_law_347 ?_
  refine jv_sld h hx dL_law_348 (by repeat (with_reducible first | exact NF_nI _ | assumption | refine NF_add ?_ ?_ | refine NF_mul ?_ ?_)) ⟨by omega, by omega⟩ ?_
  refine jv_VGi [_, _] h dL_law_349 cw_L_34 cf_11 hM1.1.1 (M_rule hM1 hP _ _) (by decide) rfl rfl (Nat.le_of_ble_eq_true rfl) (by rw [hR]; exact ⟨Nat.le_of_ble_eq_true rfl, Nat.le_of_ble_eq_true rfl⟩) (fun v_m Mm Lm hpm => ?_)
  obtain ⟨e2, hM2, f2⟩ := hpm
  have hC2 := hC1.fr (p_rule _ _ hP) (fun q q1 q2 => f2 q (by omega))
  refine jv_icmp_eq 1287 h dL_law_352 (by decide) (fun c352 => ?_) (fun c352 => ?_)
  · exact hk _ _ _ hC2 hM2 (p_rule _ _ hP)
  · exact absurd (e1.trans e2.symm) c352
set_option maxHeartbeats 4000000 in
set_option maxRecDepth 100000 in
theorem lc_type {x : CX} {T : TT} {Mi : MI} {Ml : ML} {b L X i : Nat} {xs : Nat → Int32} {σ : ST} (h : Ok x RL cL_law 14) (hR : x.2.2.2.2.1 = room_1) (hx : Sc x b L xs) (hL : L ≤ 448) (hi : i + 7 ≤ L) (hC : CInv x.1 T Mi Ml X σ) (hM : MInv x.1 T Mi Ml (X + 194) σ) (hP : PInv σ)
    (hk : ∀ (M2 : MI) (L2 : ML) (σ2 : ST), CInv x.1 T M2 L2 X σ2 → MInv x.1 T M2 L2 (X + 194) σ2 → PInv σ2 → V x 206 2625 T M2 L2 1287 [some (.ref b), some (.ref X), some (.ref (X + 194)), some (.int (nI i))] []) : V x 206 2625 T Mi Ml 357 [some (.ref b), some (.ref X), some (.ref (X + 194)), some (.int (nI i))] [] := by
  refine jv_aload_n h dL_law_357 rfl ?_
  refine jv_aload_n h dL_law_358 rfl ?_
  refine jv_iload_n h dL_law_359 rfl ?_
  refine jv_iconst (nI 1) h dL_law_360 (by decide) ?_
  first | refine jv_iaddN h dL_law_361 (by repeat (with_reducible first | exact NF_nI _ | assumption | refine NF_add ?_ ?_ | refine NF_mul ?_ ?_)) (by repeat (with_reducible first | exact NF_nI _ | assumption | refine NF_add ?_ ?_ | refine NF_mul ?_ ?_)) ?_ | refine jv_iadd h dL_law_361 ?_
  refine jv_sld h hx dL_law_362 (by repeat (with_reducible first | exact NF_nI _ | assumption | refine NF_add ?_ ?_ | refine NF_mul ?_ ?_)) ⟨by omega, by omega⟩ ?_
  refine jv_VGi [_] h dL_law_363 cw_L_35 cf_10 hC.1.1 (C_type hC hP _) (by decide) rfl rfl (Nat.le_of_ble_eq_true rfl) (by rw [hR]; exact ⟨Nat.le_of_ble_eq_true rfl, Nat.le_of_ble_eq_true rfl⟩) (fun v_c Mc Lc hpc => ?_)
  obtain ⟨e1, hC1, f1⟩ := hpc
  have hM1 : MInv x.1 T Mc Lc (X + 194) σ := hM.fr (fun q q1 q2 => f1 q (by omega))
  refine jv_aload_n h dL_law_366 rfl ?_
  refine jv_aload_n h dL_law_367 rfl ?_
  refine jv_iload_n h dL_law_368 rfl ?_
  refine jv_iconst (nI 1) h dL_law_369 (by decide) ?_
  first | refine jv_iaddN h dL_law_370 (by repeat (with_reducible first | exact NF_nI _ | assumption | refine NF_add ?_ ?_ | refine NF_mul ?_ ?_)) (by repeat (with_reducible first | exact NF_nI _ | assumption | refine NF_add ?_ ?_ | refine NF_mul ?_ ?_)) ?_ | refine jv_iadd h dL_law_370 ?_
  refine jv_sld h hx dL_law_371 (by repeat (with_reducible first | exact NF_nI _ | assumption | refine NF_add ?_ ?_ | refine NF_mul ?_ ?_)) ⟨by omega, by omega⟩ ?_
  refine jv_VGi [_] h dL_law_372 cw_L_39 cf_11 hM1.1.1 (M_type hM1 hP _) (by decide) rfl rfl (Nat.le_of_ble_eq_true rfl) (by rw [hR]; exact ⟨Nat.le_of_ble_eq_true rfl, Nat.le_of_ble_eq_true rfl⟩) (fun v_m Mm Lm hpm => ?_)
  obtain ⟨e2, hM2, f2⟩ := hpm
  have hC2 := hC1.fr (p_type _ hP) (fun q q1 q2 => f2 q (by omega))
  refine jv_icmp_eq 1287 h dL_law_375 (by decide) (fun c375 => ?_) (fun c375 => ?_)
  · exact hk _ _ _ hC2 hM2 (p_type _ hP)
  · exact absurd (e1.trans e2.symm) c375
set_option maxHeartbeats 4000000 in
set_option maxRecDepth 100000 in
theorem lc_block {x : CX} {T : TT} {Mi : MI} {Ml : ML} {b L X i : Nat} {xs : Nat → Int32} {σ : ST} (h : Ok x RL cL_law 14) (hR : x.2.2.2.2.1 = room_1) (hx : Sc x b L xs) (hL : L ≤ 448) (hi : i + 7 ≤ L) (hC : CInv x.1 T Mi Ml X σ) (hM : MInv x.1 T Mi Ml (X + 194) σ) (hP : PInv σ)
    (hk : ∀ (M2 : MI) (L2 : ML) (σ2 : ST), CInv x.1 T M2 L2 X σ2 → MInv x.1 T M2 L2 (X + 194) σ2 → PInv σ2 → V x 206 2625 T M2 L2 1287 [some (.ref b), some (.ref X), some (.ref (X + 194)), some (.int (nI i))] []) : V x 206 2625 T Mi Ml 380 [some (.ref b), some (.ref X), some (.ref (X + 194)), some (.int (nI i))] [] := by
  refine jv_aload_n h dL_law_380 rfl ?_
  refine jv_VGi [] h dL_law_381 cw_L_40 cf_10 hC.1.1 (C_block hC hP) (by decide) rfl rfl (Nat.le_of_ble_eq_true rfl) (by rw [hR]; exact ⟨Nat.le_of_ble_eq_true rfl, Nat.le_of_ble_eq_true rfl⟩) (fun v_c Mc Lc hpc => ?_)
  obtain ⟨e1, hC1, f1⟩ := hpc
  have hM1 : MInv x.1 T Mc Lc (X + 194) σ := hM.fr (fun q q1 q2 => f1 q (by omega))
  refine jv_aload_n h dL_law_384 rfl ?_
  refine jv_VGi [] h dL_law_385 cw_L_44 cf_11 hM1.1.1 (M_block hM1 hP) (by decide) rfl rfl (Nat.le_of_ble_eq_true rfl) (by rw [hR]; exact ⟨Nat.le_of_ble_eq_true rfl, Nat.le_of_ble_eq_true rfl⟩) (fun v_m Mm Lm hpm => ?_)
  obtain ⟨e2, hM2, f2⟩ := hpm
  have hC2 := hC1.fr (p_block hP) (fun q q1 q2 => f2 q (by omega))
  refine jv_icmp_eq 1287 h dL_law_388 (by decide) (fun c388 => ?_) (fun c388 => ?_)
  · exact hk _ _ _ hC2 hM2 (p_block hP)
  · exact absurd (e1.trans e2.symm) c388
set_option maxHeartbeats 4000000 in
set_option maxRecDepth 100000 in
theorem lc_count {x : CX} {T : TT} {Mi : MI} {Ml : ML} {b L X i : Nat} {xs : Nat → Int32} {σ : ST} (h : Ok x RL cL_law 14) (hR : x.2.2.2.2.1 = room_1) (hx : Sc x b L xs) (hL : L ≤ 448) (hi : i + 7 ≤ L) (hC : CInv x.1 T Mi Ml X σ) (hM : MInv x.1 T Mi Ml (X + 194) σ) (hP : PInv σ)
    (hk : ∀ (M2 : MI) (L2 : ML) (σ2 : ST), CInv x.1 T M2 L2 X σ2 → MInv x.1 T M2 L2 (X + 194) σ2 → PInv σ2 → V x 206 2625 T M2 L2 1287 [some (.ref b), some (.ref X), some (.ref (X + 194)), some (.int (nI i))] []) : V x 206 2625 T Mi Ml 393 [some (.ref b), some (.ref X), some (.ref (X + 194)), some (.int (nI i))] [] := by
  refine jv_aload_n h dL_law_393 rfl ?_
  refine jv_aload_n h dL_law_394 rfl ?_
  refine jv_iload_n h dL_law_395 rfl ?_
  refine jv_iconst (nI 1) h dL_law_396 (by decide) ?_
  first | refine jv_iaddN h dL_law_397 (by repeat (with_reducible first | exact NF_nI _ | assumption | refine NF_add ?_ ?_ | refine NF_mul ?_ ?_)) (by repeat (with_reducible first | exact NF_nI _ | assumption | refine NF_add ?_ ?_ | refine NF_mul ?_ ?_)) ?_ | refine jv_iadd h dL_law_397 ?_
  refine jv_sld h hx dL_law_398 (by repeat (with_reducible first | exact NF_nI _ | assumption | refine NF_add ?_ ?_ | refine NF_mul ?_ ?_)) ⟨by omega, by omega⟩ ?_
  refine jv_VGi [_] h dL_law_399 cw_L_45 cf_10 hC.1.1 (C_count hC hP _) (by decide) rfl rfl (Nat.le_of_ble_eq_true rfl) (by rw [hR]; exact ⟨Nat.le_of_ble_eq_true rfl, Nat.le_of_ble_eq_true rfl⟩) (fun v_c Mc Lc hpc => ?_)
  obtain ⟨e1, hC1, f1⟩ := hpc
  have hM1 : MInv x.1 T Mc Lc (X + 194) σ := hM.fr (fun q q1 q2 => f1 q (by omega))
  refine jv_aload_n h dL_law_402 rfl ?_
  refine jv_aload_n h dL_law_403 rfl ?_
  refine jv_iload_n h dL_law_404 rfl ?_
  refine jv_iconst (nI 1) h dL_law_405 (by decide) ?_
  first | refine jv_iaddN h dL_law_406 (by repeat (with_reducible first | exact NF_nI _ | assumption | refine NF_add ?_ ?_ | refine NF_mul ?_ ?_)) (by repeat (with_reducible first | exact NF_nI _ | assumption | refine NF_add ?_ ?_ | refine NF_mul ?_ ?_)) ?_ | refine jv_iadd h dL_law_406 ?_
  refine jv_sld h hx dL_law_407 (by repeat (with_reducible first | exact NF_nI _ | assumption | refine NF_add ?_ ?_ | refine NF_mul ?_ ?_)) ⟨by omega, by omega⟩ ?_
  refine jv_VGi [_] h dL_law_408 cw_L_48 cf_11 hM1.1.1 (M_count hM1 hP _) (by decide) rfl rfl (Nat.le_of_ble_eq_true rfl) (by rw [hR]; exact ⟨Nat.le_of_ble_eq_true rfl, Nat.le_of_ble_eq_true rfl⟩) (fun v_m Mm Lm hpm => ?_)
  obtain ⟨e2, hM2, f2⟩ := hpm
  have hC2 := hC1.fr (p_count _ hP) (fun q q1 q2 => f2 q (by omega))
  refine jv_icmp_eq 1287 h dL_law_411 (by decide) (fun c411 => ?_) (fun c411 => ?_)
  · exact hk _ _ _ hC2 hM2 (p_count _ hP)
  · exact absurd (e1.trans e2.symm) c411
set_option maxHeartbeats 4000000 in
set_option maxRecDepth 100000 in
theorem lc_in {x : CX} {T : TT} {Mi : MI} {Ml : ML} {b L X i : Nat} {xs : Nat → Int32} {σ : ST} (h : Ok x RL cL_law 14) (hR : x.2.2.2.2.1 = room_1) (hx : Sc x b L xs) (hL : L ≤ 448) (hi : i + 7 ≤ L) (hC : CInv x.1 T Mi Ml X σ) (hM : MInv x.1 T Mi Ml (X + 194) σ) (hP : PInv σ)
    (hk : ∀ (M2 : MI) (L2 : ML) (σ2 : ST), CInv x.1 T M2 L2 X σ2 → MInv x.1 T M2 L2 (X + 194) σ2 → PInv σ2 → V x 206 2625 T M2 L2 1287 [some (.ref b), some (.ref X), some (.ref (X + 194)), some (.int (nI i))] []) : V x 206 2625 T Mi Ml 416 [some (.ref b), some (.ref X), some (.ref (X + 194)), some (.int (nI i))] [] := by
  refine jv_aload_n h dL_law_416 rfl ?_
  refine jv_aload_n h dL_law_417 rfl ?_
  refine jv_iload_n h dL_law_418 rfl ?_
  refine jv_iconst (nI 1) h dL_law_419 (by decide) ?_
  first | refine jv_iaddN h dL_law_420 (by repeat (with_reducible first | exact NF_nI _ | assumption | refine NF_add ?_ ?_ | refine NF_mul ?_ ?_)) (by repeat (with_reducible first | exact NF_nI _ | assumption | refine NF_add ?_ ?_ | refine NF_mul ?_ ?_)) ?_ | refine jv_iadd h dL_law_420 ?_
  refine jv_sld h hx dL_law_421 (by repeat (with_reducible first | exact NF_nI _ | assumption | refine NF_add ?_ ?_ | refine NF_mul ?_ ?_)) ⟨by omega, by omega⟩ ?_
  refine jv_aload_n h dL_law_422 rfl ?_
  refine jv_iload_n h dL_law_423 rfl ?_
  refine jv_iconst (nI 2) h dL_law_424 (by decide) ?_
  first | refine jv_iaddN h dL_law_425 (by repeat (with_reducible first | exact NF_nI _ | assumption | refine NF_add ?_ ?_ | refine NF_mul ?_ ?_)) (by repeat (with_reducible first | exact NF_nI _ | assumption | refine NF_add ?_ ?_ | refine NF_mul ?_ ?_)) ?_ | refine jv_iadd h dL_law_425 ?_
  refine jv_sld h hx dL_law_426 (by repeat (with_reducible first | exact NF_nI _ | assumption | refine NF_add ?_ ?_ | refine NF_mul ?_ ?_)) ⟨by omega, by omega⟩ ?_
  refine jv_VGi [_, _] h dL_law_427 cw_L_49 cf_10 hC.1.1 (C_in hC hP _ _) (by decide) rfl rfl (Nat.le_of_ble_eq_true rfl) (by rw [hR]; exact ⟨Nat.le_of_ble_eq_true rfl, Nat.le_of_ble_eq_true rfl⟩) (fun v_c Mc Lc hpc => ?_)
  obtain ⟨e1, hC1, f1⟩ := hpc
  have hM1 : MInv x.1 T Mc Lc (X + 194) σ := hM.fr (fun q q1 q2 => f1 q (by omega))
  refine jv_aload_n h dL_law_430 rfl ?_
  refine jv_aload_n h dL_law_431 rfl ?_
  refine jv_iload_n h dL_law_432 rfl ?_
  refine jv_iconst (nI 1) h dL_law_433 (by decide) ?_
  first | refine jv_iaddN h dL_law_434 (by repeat (with_reducible first | exact NF_nI _ | assumption | refine NF_add ?_ ?_ | refine NF_mul ?_ ?_)) (by repeat (with_reducible first | exact NF_nI _ | assumption | refine NF_add ?_ ?_ | refine NF_mul ?_ ?_)) ?_ | refine jv_iadd h dL_law_434 ?_
  refine jv_sld h hx dL_law_435 (by repeat (with_reducible first | exact NF_nI _ | assumption | refine NF_add ?_ ?_ | refine NF_mul ?_ ?_)) ⟨by omega, by omega⟩ ?_
  refine jv_aload_n h dL_law_436 rfl ?_
  refine jv_iload_n h dL_law_437 rfl ?_
  refine jv_iconst (nI 2) h dL_law_438 (by decide) ?_
  first | refine jv_iaddN h dL_law_439 (by repeat (with_reducible first | exact NF_nI _ | assumption | refine NF_add ?_ ?_ | refine NF_mul ?_ ?_)) (by repeat (with_reducible first | exact NF_nI _ | assumption | refine NF_add ?_ ?_ | refine NF_mul ?_ ?_)) ?_ | refine jv_iadd h dL_law_439 ?_
  refine jv_sld h hx dL_law_440 (by repeat (with_reducible first | exact NF_nI _ | assumption | refine NF_add ?_ ?_ | refine NF_mul ?_ ?_)) ⟨by omega, by omega⟩ ?_
  refine jv_VGi [_, _] h dL_law_441 cw_L_52 cf_11 hM1.1.1 (M_in hM1 hP _ _) (by decide) rfl rfl (Nat.le_of_ble_eq_true rfl) (by rw [hR]; exact ⟨Nat.le_of_ble_eq_true rfl, Nat.le_of_ble_eq_true rfl⟩) (fun v_m Mm Lm hpm => ?_)
  obtain ⟨e2, hM2, f2⟩ := hpm
  have hC2 := hC1.fr (p_in _ _ hP) (fun q q1 q2 => f2 q (by omega))
  refine jv_icmp_eq 1287 h dL_law_444 (by decide) (fun c444 => ?_) (fun c444 => ?_)
  · exact hk _ _ _ hC2 hM2 (p_in _ _ hP)
  · exact absurd (e1.trans e2.symm) c444
set_option maxHeartbeats 4000000 in
set_option maxRecDepth 100000 in
theorem lc_out {x : CX} {T : TT} {Mi : MI} {Ml : ML} {b L X i : Nat} {xs : Nat → Int32} {σ : ST} (h : Ok x RL cL_law 14) (hR : x.2.2.2.2.1 = room_1) (hx : Sc x b L xs) (hL : L ≤ 448) (hi : i + 7 ≤ L) (hC : CInv x.1 T Mi Ml X σ) (hM : MInv x.1 T Mi Ml (X + 194) σ) (hP : PInv σ)
    (hk : ∀ (M2 : MI) (L2 : ML) (σ2 : ST), CInv x.1 T M2 L2 X σ2 → MInv x.1 T M2 L2 (X + 194) σ2 → PInv σ2 → V x 206 2625 T M2 L2 1287 [some (.ref b), some (.ref X), some (.ref (X + 194)), some (.int (nI i))] []) : V x 206 2625 T Mi Ml 449 [some (.ref b), some (.ref X), some (.ref (X + 194)), some (.int (nI i))] [] := by
  refine jv_aload_n h dL_law_449 rfl ?_
  refine jv_aload_n h dL_law_450 rfl ?_
  refine jv_iload_n h dL_law_451 rfl ?_
  refine jv_iconst (nI 1) h dL_law_452 (by decide) ?_
  first | refine jv_iaddN h dL_law_453 (by repeat (with_reducible first | exact NF_nI _ | assumption | refine NF_add ?_ ?_ | refine NF_mul ?_ ?_)) (by repeat (with_reducible first | exact NF_nI _ | assumption | refine NF_add ?_ ?_ | refine NF_mul ?_ ?_)) ?_ | refine jv_iadd h dL_law_453 ?_
  refine jv_sld h hx dL_law_454 (by repeat (with_reducible first | exact NF_nI _ | assumption | refine NF_add ?_ ?_ | refine NF_mul ?_ ?_)) ⟨by omega, by omega⟩ ?_
  refine jv_VGi [_] h dL_law_455 cw_L_53 cf_10 hC.1.1 (C_out hC hP _) (by decide) rfl rfl (Nat.le_of_ble_eq_true rfl) (by rw [hR]; exact ⟨Nat.le_of_ble_eq_true rfl, Nat.le_of_ble_eq_true rfl⟩) (fun v_c Mc Lc hpc => ?_)
  obtain ⟨e1, hC1, f1⟩ := hpc
  have hM1 : MInv x.1 T Mc Lc (X + 194) σ := hM.fr (fun q q1 q2 => f1 q (by omega))
  refine jv_aload_n h dL_law_458 rfl ?_
  refine jv_aload_n h dL_law_459 rfl ?_
  refine jv_iload_n h dL_law_460 rfl ?_
  refine jv_iconst (nI 1) h dL_law_461 (by decide) ?_
  first | refine jv_iaddN h dL_law_462 (by repeat (with_reducible first | exact NF_nI _ | assumption | refine NF_add ?_ ?_ | refine NF_mul ?_ ?_)) (by repeat (with_reducible first | exact NF_nI _ | assumption | refine NF_add ?_ ?_ | refine NF_mul ?_ ?_)) ?_ | refine jv_iadd h dL_law_462 ?_
  refine jv_sld h hx dL_law_463 (by repeat (with_reducible first | exact NF_nI _ | assumption | refine NF_add ?_ ?_ | refine NF_mul ?_ ?_)) ⟨by omega, by omega⟩ ?_
  refine jv_VGi [_] h dL_law_464 cw_L_56 cf_11 hM1.1.1 (M_out hM1 hP _) (by decide) rfl rfl (Nat.le_of_ble_eq_true rfl) (by rw [hR]; exact ⟨Nat.le_of_ble_eq_true rfl, Nat.le_of_ble_eq_true rfl⟩) (fun v_m Mm Lm hpm => ?_)
  obtain ⟨e2, hM2, f2⟩ := hpm
  have hC2 := hC1.fr (p_out _ hP) (fun q q1 q2 => f2 q (by omega))
  refine jv_icmp_eq 1287 h dL_law_467 (by decide) (fun c467 => ?_) (fun c467 => ?_)
  · exact hk _ _ _ hC2 hM2 (p_out _ hP)
  · exact absurd (e1.trans e2.symm) c467
