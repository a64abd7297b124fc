set_option maxHeartbeats 4000000 in
set_option maxRecDepth 100000 in
theorem law_0 {v : EV} {p : Program} {l : Launch} {e : Env} {s : State} {m : MethodId} {args : Array Value} {below : List Frame} {meth : Method} {c : Code} {Q : State → Prop} {qb b L J n : Nat} {xs : Nat → Int32} {S : Mem} {Inv : Nat → Mem → Prop} (hC : Cx v p l e s m args meth c RL cL_law 8 (some .boolean)) (hX : va_X b L xs s s.heap ∧ b < s.heap.size ∧ ¬ eG v b) (hP : LawP Inv) (hn : n < 512) (hI : Inv n S) (hL : L < 2 ^ 31) (hJ : J + 4 ≤ L) (hq : 50 ≤ qb) (k : ∀ S2, Inv (n + 1) S2 → Mj v p l e room_1 s m args below meth c 8 Q (qb - 50) S2 1202 [(0, .ref b), (1, .ref (eA v 198)), (2, .ref (eA v 218)), (3, .int (nI J))] []) : Mj v p l e room_1 s m args below meth c 8 Q qb S 208 [(0, .ref b), (1, .ref (eA v 198)), (2, .ref (eA v 218)), (3, .int (nI J))] [] := by
  have hmono := hP.1 n S hI
  obtain ⟨r, S1, S2, h1, h2, h3⟩ := hP.clear n S hn hI
  refine i_aload_n hC dL_law_208 rfl ?_
  refine i_callVi hC mv_L_13 (c_X8_clear hC.2.2.2.2.2.2.2.1 h1) (pln rfl) lay_p198 rfl rfl rfl rfl ⟨by decide, by decide⟩ (Nat.le_of_ble_eq_true rfl) dL_law_209 ?_
  refine i_aload_n hC dL_law_212 rfl ?_
  refine i_callVi hC mv_L_17 (c_X9_clear hC.2.2.2.2.2.2.2.1 h2) (pln rfl) lay_p218 rfl rfl rfl rfl ⟨by decide, by decide⟩ (Nat.le_of_ble_eq_true rfl) dL_law_213 ?_
  refine i_icmp_eq hC (tgt := 1202) dL_law_216 (by decide) (fun _ => ?_) (fun z9 => absurd rfl z9)
  exact Mw.less (by omega) (Mj.to (k S2 h3) ⟨rfl, rfl, rfl, rfl, trivial⟩)
set_option maxHeartbeats 4000000 in
set_option maxRecDepth 100000 in
theorem law_1 {v : EV} {p : Program} {l : Launch} {e : Env} {s : State} {m : MethodId} {args : Array Value} {below : List Frame} {meth : Method} {c : Code} {Q : State → Prop} {qb b L J n : Nat} {xs : Nat → Int32} {S : Mem} {Inv : Nat → Mem → Prop} (hC : Cx v p l e s m args meth c RL cL_law 8 (some .boolean)) (hX : va_X b L xs s s.heap ∧ b < s.heap.size ∧ ¬ eG v b) (hP : LawP Inv) (hn : n < 512) (hI : Inv n S) (hL : L < 2 ^ 31) (hJ : J + 4 ≤ L) (hq : 50 ≤ qb) (k : ∀ S2, Inv (n + 1) S2 → Mj v p l e room_1 s m args below meth c 8 Q (qb - 50) S2 1202 [(0, .ref b), (1, .ref (eA v 198)), (2, .ref (eA v 218)), (3, .int (nI J))] []) : Mj v p l e room_1 s m args below meth c 8 Q qb S 221 [(0, .ref b), (1, .ref (eA v 198)), (2, .ref (eA v 218)), (3, .int (nI J))] [] := by
  have hmono := hP.1 n S hI
  obtain ⟨r, S1, S2, h1, h2, h3⟩ := hP.append n S hn hI (xs (J + 1))
  refine i_aload_n hC dL_law_221 rfl ?_
  refine i_aload_n hC dL_law_222 rfl ?_
  refine i_iload_n hC dL_law_223 rfl ?_
  refine i_iconst hC (x := nI 1) dL_law_224 (by decide) ?_
  refine i_iadd hC dL_law_225 ?_
  rw [nI_a]
  refine i_sld hC hX (by omega) hL dL_law_226 ?_
  refine i_i2c hC dL_law_227 ?_
  obtain ⟨q1, rfl⟩ : ∃ z, qb = z + 1 := ⟨qb - 1, by omega⟩
  refine i_callVi hC mv_L_18 (c_X8_append hC.2.2.2.2.2.2.2.1 h1) (pln rfl) lay_p198 rfl rfl rfl rfl ⟨by decide, by decide⟩ (Nat.le_of_ble_eq_true rfl) dL_law_228 ?_
  refine i_aload_n hC dL_law_231 rfl ?_
  refine i_aload_n hC dL_law_232 rfl ?_
  refine i_iload_n hC dL_law_233 rfl ?_
  refine i_iconst hC (x := nI 1) dL_law_234 (by decide) ?_
  refine i_iadd hC dL_law_235 ?_
  rw [nI_a]
  refine i_sld hC hX (by omega) hL dL_law_236 ?_
  refine i_i2c hC dL_law_237 ?_
  refine i_callVi hC mv_L_22 (c_X9_append hC.2.2.2.2.2.2.2.1 h2) (pln rfl) lay_p218 rfl rfl rfl rfl ⟨by decide, by decide⟩ (Nat.le_of_ble_eq_true rfl) dL_law_238 ?_
  refine i_icmp_eq hC (tgt := 1202) dL_law_241 (by decide) (fun _ => ?_) (fun z9 => absurd rfl z9)
  exact Mw.less (by omega) (Mj.to (k S2 h3) ⟨rfl, rfl, rfl, rfl, trivial⟩)
set_option maxHeartbeats 4000000 in
set_option maxRecDepth 100000 in
theorem law_2 {v : EV} {p : Program} {l : Launch} {e : Env} {s : State} {m : MethodId} {args : Array Value} {below : List Frame} {meth : Method} {c : Code} {Q : State → Prop} {qb b L J n : Nat} {xs : Nat → Int32} {S : Mem} {Inv : Nat → Mem → Prop} (hC : Cx v p l e s m args meth c RL cL_law 8 (some .boolean)) (hX : va_X b L xs s s.heap ∧ b < s.heap.size ∧ ¬ eG v b) (hP : LawP Inv) (hn : n < 512) (hI : Inv n S) (hL : L < 2 ^ 31) (hJ : J + 4 ≤ L) (hq : 50 ≤ qb) (k : ∀ S2, Inv (n + 1) S2 → Mj v p l e room_1 s m args below meth c 8 Q (qb - 50) S2 1202 [(0, .ref b), (1, .ref (eA v 198)), (2, .ref (eA v 218)), (3, .int (nI J))] []) : Mj v p l e room_1 s m args below meth c 8 Q qb S 246 [(0, .ref b), (1, .ref (eA v 198)), (2, .ref (eA v 218)), (3, .int (nI J))] [] := by
  have hmono := hP.1 n S hI
  obtain ⟨r, S1, S2, h1, h2, h3⟩ := hP.driver n S hn hI (xs (J + 1))
  refine i_aload_n hC dL_law_246 rfl ?_
  refine i_aload_n hC dL_law_247 rfl ?_
  refine i_iload_n hC dL_law_248 rfl ?_
  refine i_iconst hC (x := nI 1) dL_law_249 (by decide) ?_
  refine i_iadd hC dL_law_250 ?_
  rw [nI_a]
  refine i_sld hC hX (by omega) hL dL_law_251 ?_
  refine i_callVi hC mv_L_23 (c_X8_driver hC.2.2.2.2.2.2.2.1 h1) (pln rfl) lay_p198 rfl rfl rfl rfl ⟨by decide, by decide⟩ (Nat.le_of_ble_eq_true rfl) dL_law_252 ?_
  refine i_aload_n hC dL_law_255 rfl ?_
  refine i_aload_n hC dL_law_256 rfl ?_
  refine i_iload_n hC dL_law_257 rfl ?_
  refine i_iconst hC (x := nI 1) dL_law_258 (by decide) ?_
  refine i_iadd hC dL_law_259 ?_
  rw [nI_a]
  refine i_sld hC hX (by omega) hL dL_law_260 ?_
  refine i_callVi hC mv_L_27 (c_X9_driver hC.2.2.2.2.2.2.2.1 h2) (pln rfl) lay_p218 rfl rfl rfl rfl ⟨by decide, by decide⟩ (Nat.le_of_ble_eq_true rfl) dL_law_261 ?_
  refine i_icmp_eq hC (tgt := 1202) dL_law_264 (by decide) (fun _ => ?_) (fun z9 => absurd rfl z9)
  exact Mw.less (by omega) (Mj.to (k S2 h3) ⟨rfl, rfl, rfl, rfl, trivial⟩)
set_option maxHeartbeats 4000000 in
set_option maxRecDepth 100000 in
theorem law_3 {v : EV} {p : Program} {l : Launch} {e : Env} {s : State} {m : MethodId} {args : Array Value} {below : List Frame} {meth : Method} {c : Code} {Q : State → Prop} {qb b L J n : Nat} {xs : Nat → Int32} {S : Mem} {Inv : Nat → Mem → Prop} (hC : Cx v p l e s m args meth c RL cL_law 8 (some .boolean)) (hX : va_X b L xs s s.heap ∧ b < s.heap.size ∧ ¬ eG v b) (hP : LawP Inv) (hn : n < 512) (hI : Inv n S) (hL : L < 2 ^ 31) (hJ : J + 4 ≤ L) (hq : 50 ≤ qb) (k : ∀ S2, Inv (n + 1) S2 → Mj v p l e room_1 s m args below meth c 8 Q (qb - 50) S2 1202 [(0, .ref b), (1, .ref (eA v 198)), (2, .ref (eA v 218)), (3, .int (nI J))] []) : Mj v p l e room_1 s m args below meth c 8 Q qb S 269 [(0, .ref b), (1, .ref (eA v 198)), (2, .ref (eA v 218)), (3, .int (nI J))] [] := by
  have hmono := hP.1 n S hI
  obtain ⟨r, S1, S2, h1, h2, h3⟩ := hP.ask n S hn hI (xs (J + 1))
  refine i_aload_n hC dL_law_269 rfl ?_
  refine i_aload_n hC dL_law_270 rfl ?_
  refine i_iload_n hC dL_law_271 rfl ?_
  refine i_iconst hC (x := nI 1) dL_law_272 (by decide) ?_
  refine i_iadd hC dL_law_273 ?_
  rw [nI_a]
  refine i_sld hC hX (by omega) hL dL_law_274 ?_
  refine i_callVi hC mv_L_28 (c_X8_ask hC.2.2.2.2.2.2.2.1 h1) (pln rfl) lay_p198 rfl rfl rfl rfl ⟨by decide, by decide⟩ (Nat.le_of_ble_eq_true rfl) dL_law_275 ?_
  refine i_aload_n hC dL_law_278 rfl ?_
  refine i_aload_n hC dL_law_279 rfl ?_
  refine i_iload_n hC dL_law_280 rfl ?_
  refine i_iconst hC (x := nI 1) dL_law_281 (by decide) ?_
  refine i_iadd hC dL_law_282 ?_
  rw [nI_a]
  refine i_sld hC hX (by omega) hL dL_law_283 ?_
  refine i_callVi hC mv_L_31 (c_X9_ask hC.2.2.2.2.2.2.2.1 h2) (pln rfl) lay_p218 rfl rfl rfl rfl ⟨by decide, by decide⟩ (Nat.le_of_ble_eq_true rfl) dL_law_284 ?_
  refine i_icmp_eq hC (tgt := 1202) dL_law_287 (by decide) (fun _ => ?_) (fun z9 => absurd rfl z9)
  exact Mw.less (by omega) (Mj.to (k S2 h3) ⟨rfl, rfl, rfl, rfl, trivial⟩)
set_option maxHeartbeats 4000000 in
set_option maxRecDepth 100000 in
theorem law_4 {v : EV} {p : Program} {l : Launch} {e : Env} {s : State} {m : MethodId} {args : Array Value} {below : List Frame} {meth : Method} {c : Code} {Q : State → Prop} {qb b L J n : Nat} {xs : Nat → Int32} {S : Mem} {Inv : Nat → Mem → Prop} (hC : Cx v p l e s m args meth c RL cL_law 8 (some .boolean)) (hX : va_X b L xs s s.heap ∧ b < s.heap.size ∧ ¬ eG v b) (hP : LawP Inv) (hn : n < 512) (hI : Inv n S) (hL : L < 2 ^ 31) (hJ : J + 4 ≤ L) (hq : 50 ≤ qb) (k : ∀ S2, Inv (n + 1) S2 → Mj v p l e room_1 s m args below meth c 8 Q (qb - 50) S2 1202 [(0, .ref b), (1, .ref (eA v 198)), (2, .ref (eA v 218)), (3, .int (nI J))] []) : Mj v p l e room_1 s m args below meth c 8 Q qb S 292 [(0, .ref b), (1, .ref (eA v 198)), (2, .ref (eA v 218)), (3, .int (nI J))] [] := by
  have hmono := hP.1 n S hI
  obtain ⟨r, S1, S2, h1, h2, h3⟩ := hP.send n S hn hI (xs (J + 1))
  refine i_aload_n hC dL_law_292 rfl ?_
  refine i_aload_n hC dL_law_293 rfl ?_
  refine i_iload_n hC dL_law_294 rfl ?_
  refine i_iconst hC (x := nI 1) dL_law_295 (by decide) ?_
  refine i_iadd hC dL_law_296 ?_
  rw [nI_a]
  refine i_sld hC hX (by omega) hL dL_law_297 ?_
  refine i_callVi hC mv_L_32 (c_X8_send hC.2.2.2.2.2.2.2.1 h1) (pln rfl) lay_p198 rfl rfl rfl rfl ⟨by decide, by decide⟩ (Nat.le_of_ble_eq_true rfl) dL_law_298 ?_
  refine i_aload_n hC dL_law_301 rfl ?_
  refine i_aload_n hC dL_law_302 rfl ?_
  refine i_iload_n hC dL_law_303 rfl ?_
  refine i_iconst hC (x := nI 1) dL_law_304 (by decide) ?_
  refine i_iadd hC dL_law_305 ?_
  rw [nI_a]
  refine i_sld hC hX (by omega) hL dL_law_306 ?_
  refine i_callVi hC mv_L_35 (c_X9_send hC.2.2.2.2.2.2.2.1 h2) (pln rfl) lay_p218 rfl rfl rfl rfl ⟨by decide, by decide⟩ (Nat.le_of_ble_eq_true rfl) dL_law_307 ?_
  refine i_icmp_eq hC (tgt := 1202) dL_law_310 (by decide) (fun _ => ?_) (fun z9 => absurd rfl z9)
  exact Mw.less (by omega) (Mj.to (k S2 h3) ⟨rfl, rfl, rfl, rfl, trivial⟩)
set_option maxHeartbeats 4000000 in
set_option maxRecDepth 100000 in
theorem law_5 {v : EV} {p : Program} {l : Launch} {e : Env} {s : State} {m : MethodId} {args : Array Value} {below : List Frame} {meth : Method} {c : Code} {Q : State → Prop} {qb b L J n : Nat} {xs : Nat → Int32} {S : Mem} {Inv : Nat → Mem → Prop} (hC : Cx v p l e s m args meth c RL cL_law 8 (some .boolean)) (hX : va_X b L xs s s.heap ∧ b < s.heap.size ∧ ¬ eG v b) (hP : LawP Inv) (hn : n < 512) (hI : Inv n S) (hL : L < 2 ^ 31) (hJ : J + 4 ≤ L) (hq : 50 ≤ qb) (k : ∀ S2, Inv (n + 1) S2 → Mj v p l e room_1 s m args below meth c 8 Q (qb - 50) S2 1202 [(0, .ref b), (1, .ref (eA v 198)), (2, .ref (eA v 218)), (3, .int (nI J))] []) : Mj v p l e room_1 s m args below meth c 8 Q qb S 315 [(0, .ref b), (1, .ref (eA v 198)), (2, .ref (eA v 218)), (3, .int (nI J))] [] := by
  have hmono := hP.1 n S hI
  obtain ⟨r, S1, S2, h1, h2, h3⟩ := hP.shout n S hn hI (xs (J + 1)) (xs (J + 2))
  refine i_aload_n hC dL_law_315 rfl ?_
  refine i_aload_n hC dL_law_316 rfl ?_
  refine i_iload_n hC dL_law_317 rfl ?_
  refine i_iconst hC (x := nI 1) dL_law_318 (by decide) ?_
  refine i_iadd hC dL_law_319 ?_
  rw [nI_a]
  refine i_sld hC hX (by omega) hL dL_law_320 ?_
  refine i_aload_n hC dL_law_321 rfl ?_
  refine i_iload_n hC dL_law_322 rfl ?_
  refine i_iconst hC (x := nI 2) dL_law_323 (by decide) ?_
  refine i_iadd hC dL_law_324 ?_
  rw [nI_a]
  refine i_sld hC hX (by omega) hL dL_law_325 ?_
  refine i_i2c hC dL_law_326 ?_
  refine i_callVi hC mv_L_36 (c_X8_shout hC.2.2.2.2.2.2.2.1 h1) (pln rfl) lay_p198 rfl rfl rfl rfl ⟨by decide, by decide⟩ (Nat.le_of_ble_eq_true rfl) dL_law_327 ?_
  refine i_aload_n hC dL_law_330 rfl ?_
  refine i_aload_n hC dL_law_331 rfl ?_
  refine i_iload_n hC dL_law_332 rfl ?_
  refine i_iconst hC (x := nI 1) dL_law_333 (by decide) ?_
  refine i_iadd hC dL_law_334 ?_
  rw [nI_a]
  refine i_sld hC hX (by omega) hL dL_law_335 ?_
  refine i_aload_n hC dL_law_336 rfl ?_
  refine i_iload_n hC dL_law_337 rfl ?_
  refine i_iconst hC (x := nI 2) dL_law_338 (by decide) ?_
  refine i_iadd hC dL_law_339 ?_
  rw [nI_a]
  refine i_sld hC hX (by omega) hL dL_law_340 ?_
  refine i_i2c hC dL_law_341 ?_
  refine i_callVi hC mv_L_40 (c_X9_shout hC.2.2.2.2.2.2.2.1 h2) (pln rfl) lay_p218 rfl rfl rfl rfl ⟨by decide, by decide⟩ (Nat.le_of_ble_eq_true rfl) dL_law_342 ?_
  refine i_icmp_eq hC (tgt := 1202) dL_law_345 (by decide) (fun _ => ?_) (fun z9 => absurd rfl z9)
  exact Mw.less (by omega) (Mj.to (k S2 h3) ⟨rfl, rfl, rfl, rfl, trivial⟩)
set_option maxHeartbeats 4000000 in
set_option maxRecDepth 100000 in
theorem law_6 {v : EV} {p : Program} {l : Launch} {e : Env} {s : State} {m : MethodId} {args : Array Value} {below : List Frame} {meth : Method} {c : Code} {Q : State → Prop} {qb b L J n : Nat} {xs : Nat → Int32} {S : Mem} {Inv : Nat → Mem → Prop} (hC : Cx v p l e s m args meth c RL cL_law 8 (some .boolean)) (hX : va_X b L xs s s.heap ∧ b < s.heap.size ∧ ¬ eG v b) (hP : LawP Inv) (hn : n < 512) (hI : Inv n S) (hL : L < 2 ^ 31) (hJ : J + 4 ≤ L) (hq : 50 ≤ qb) (k : ∀ S2, Inv (n + 1) S2 → Mj v p l e room_1 s m args below meth c 8 Q (qb - 50) S2 1202 [(0, .ref b), (1, .ref (eA v 198)), (2, .ref (eA v 218)), (3, .int (nI J))] []) : Mj v p l e room_1 s m args below meth c 8 Q qb S 350 [(0, .ref b), (1, .ref (eA v 198)), (2, .ref (eA v 218)), (3, .int (nI J))] [] := by
  have hmono := hP.1 n S hI
  obtain ⟨r, S1, S2, h1, h2, h3⟩ := hP.wash n S hn hI (xs (J + 1))
  refine i_aload_n hC dL_law_350 rfl ?_
  refine i_aload_n hC dL_law_351 rfl ?_
  refine i_iload_n hC dL_law_352 rfl ?_
  refine i_iconst hC (x := nI 1) dL_law_353 (by decide) ?_
  refine i_iadd hC dL_law_354 ?_
  rw [nI_a]
  refine i_sld hC hX (by omega) hL dL_law_355 ?_
  refine i_callVi hC mv_L_41 (c_X8_wash hC.2.2.2.2.2.2.2.1 h1) (pln rfl) lay_p198 rfl rfl rfl rfl ⟨by decide, by decide⟩ (Nat.le_of_ble_eq_true rfl) dL_law_356 ?_
  refine i_aload_n hC dL_law_359 rfl ?_
  refine i_aload_n hC dL_law_360 rfl ?_
  refine i_iload_n hC dL_law_361 rfl ?_
  refine i_iconst hC (x := nI 1) dL_law_362 (by decide) ?_
  refine i_iadd hC dL_law_363 ?_
  rw [nI_a]
  refine i_sld hC hX (by omega) hL dL_law_364 ?_
  refine i_callVi hC mv_L_44 (c_X9_wash hC.2.2.2.2.2.2.2.1 h2) (pln rfl) lay_p218 rfl rfl rfl rfl ⟨by decide, by decide⟩ (Nat.le_of_ble_eq_true rfl) dL_law_365 ?_
  refine i_icmp_eq hC (tgt := 1202) dL_law_368 (by decide) (fun _ => ?_) (fun z9 => absurd rfl z9)
  exact Mw.less (by omega) (Mj.to (k S2 h3) ⟨rfl, rfl, rfl, rfl, trivial⟩)
set_option maxHeartbeats 4000000 in
set_option maxRecDepth 100000 in
theorem law_7 {v : EV} {p : Program} {l : Launch} {e : Env} {s : State} {m : MethodId} {args : Array Value} {below : List Frame} {meth : Method} {c : Code} {Q : State → Prop} {qb b L J n : Nat} {xs : Nat → Int32} {S : Mem} {Inv : Nat → Mem → Prop} (hC : Cx v p l e s m args meth c RL cL_law 8 (some .boolean)) (hX : va_X b L xs s s.heap ∧ b < s.heap.size ∧ ¬ eG v b) (hP : LawP Inv) (hn : n < 512) (hI : Inv n S) (hL : L < 2 ^ 31) (hJ : J + 4 ≤ L) (hq : 50 ≤ qb) (k : ∀ S2, Inv (n + 1) S2 → Mj v p l e room_1 s m args below meth c 8 Q (qb - 50) S2 1202 [(0, .ref b), (1, .ref (eA v 198)), (2, .ref (eA v 218)), (3, .int (nI J))] []) : Mj v p l e room_1 s m args below meth c 8 Q qb S 373 [(0, .ref b), (1, .ref (eA v 198)), (2, .ref (eA v 218)), (3, .int (nI J))] [] := by
  have hmono := hP.1 n S hI
  obtain ⟨r, S1, S2, h1, h2, h3⟩ := hP.back n S hn hI (xs (J + 1))
  refine i_aload_n hC dL_law_373 rfl ?_
  refine i_aload_n hC dL_law_374 rfl ?_
  refine i_iload_n hC dL_law_375 rfl ?_
  refine i_iconst hC (x := nI 1) dL_law_376 (by decide) ?_
  refine i_iadd hC dL_law_377 ?_
  rw [nI_a]
  refine i_sld hC hX (by omega) hL dL_law_378 ?_
  refine i_callVi hC mv_L_45 (c_X8_back hC.2.2.2.2.2.2.2.1 h1) (pln rfl) lay_p198 rfl rfl rfl rfl ⟨by decide, by decide⟩ (Nat.le_of_ble_eq_true rfl) dL_law_379 ?_
  refine i_aload_n hC dL_law_382 rfl ?_
  refine i_aload_n hC dL_law_383 rfl ?_
  refine i_iload_n hC dL_law_384 rfl ?_
  refine i_iconst hC (x := nI 1) dL_law_385 (by decide) ?_
  refine i_iadd hC dL_law_386 ?_
  rw [nI_a]
  refine i_sld hC hX (by omega) hL dL_law_387 ?_
  refine i_callVi hC mv_L_48 (c_X9_back hC.2.2.2.2.2.2.2.1 h2) (pln rfl) lay_p218 rfl rfl rfl rfl ⟨by decide, by decide⟩ (Nat.le_of_ble_eq_true rfl) dL_law_388 ?_
  refine i_icmp_eq hC (tgt := 1202) dL_law_391 (by decide) (fun _ => ?_) (fun z9 => absurd rfl z9)
  exact Mw.less (by omega) (Mj.to (k S2 h3) ⟨rfl, rfl, rfl, rfl, trivial⟩)
set_option maxHeartbeats 4000000 in
set_option maxRecDepth 100000 in
theorem law_8 {v : EV} {p : Program} {l : Launch} {e : Env} {s : State} {m : MethodId} {args : Array Value} {below : List Frame} {meth : Method} {c : Code} {Q : State → Prop} {qb b L J n : Nat} {xs : Nat → Int32} {S : Mem} {Inv : Nat → Mem → Prop} (hC : Cx v p l e s m args meth c RL cL_law 8 (some .boolean)) (hX : va_X b L xs s s.heap ∧ b < s.heap.size ∧ ¬ eG v b) (hP : LawP Inv) (hn : n < 512) (hI : Inv n S) (hL : L < 2 ^ 31) (hJ : J + 4 ≤ L) (hq : 50 ≤ qb) (k : ∀ S2, Inv (n + 1) S2 → Mj v p l e room_1 s m args below meth c 8 Q (qb - 50) S2 1202 [(0, .ref b), (1, .ref (eA v 198)), (2, .ref (eA v 218)), (3, .int (nI J))] []) : Mj v p l e room_1 s m args below meth c 8 Q qb S 396 [(0, .ref b), (1, .ref (eA v 198)), (2, .ref (eA v 218)), (3, .int (nI J))] [] := by
  have hmono := hP.1 n S hI
  obtain ⟨r, S1, S2, h1, h2, h3⟩ := hP.cut n S hn hI (xs (J + 1)) (xs (J + 2))
  refine i_aload_n hC dL_law_396 rfl ?_
  refine i_aload_n hC dL_law_397 rfl ?_
  refine i_iload_n hC dL_law_398 rfl ?_
  refine i_iconst hC (x := nI 1) dL_law_399 (by decide) ?_
  refine i_iadd hC dL_law_400 ?_
  rw [nI_a]
  refine i_sld hC hX (by omega) hL dL_law_401 ?_
  refine i_aload_n hC dL_law_402 rfl ?_
  refine i_iload_n hC dL_law_403 rfl ?_
  refine i_iconst hC (x := nI 2) dL_law_404 (by decide) ?_
  refine i_iadd hC dL_law_405 ?_
  rw [nI_a]
  refine i_sld hC hX (by omega) hL dL_law_406 ?_
  refine i_callVi hC mv_L_49 (c_X8_cut hC.2.2.2.2.2.2.2.1 h1) (pln rfl) lay_p198 rfl rfl rfl rfl ⟨by decide, by decide⟩ (Nat.le_of_ble_eq_true rfl) dL_law_407 ?_
  refine i_aload_n hC dL_law_410 rfl ?_
  refine i_aload_n hC dL_law_411 rfl ?_
  refine i_iload_n hC dL_law_412 rfl ?_
  refine i_iconst hC (x := nI 1) dL_law_413 (by decide) ?_
  refine i_iadd hC dL_law_414 ?_
  rw [nI_a]
  refine i_sld hC hX (by omega) hL dL_law_415 ?_
  refine i_aload_n hC dL_law_416 rfl ?_
  refine i_iload_n hC dL_law_417 rfl ?_
  refine i_iconst hC (x := nI 2) dL_law_418 (by decide) ?_
  refine i_iadd hC dL_law_419 ?_
  rw [nI_a]
  refine i_sld hC hX (by omega) hL dL_law_420 ?_
  refine i_callVi hC mv_L_53 (c_X9_cut hC.2.2.2.2.2.2.2.1 h2) (pln rfl) lay_p218 rfl rfl rfl rfl ⟨by decide, by decide⟩ (Nat.le_of_ble_eq_true rfl) dL_law_421 ?_
  refine i_icmp_eq hC (tgt := 1202) dL_law_424 (by decide) (fun _ => ?_) (fun z9 => absurd rfl z9)
  exact Mw.less (by omega) (Mj.to (k S2 h3) ⟨rfl, rfl, rfl, rfl, trivial⟩)
set_option maxHeartbeats 4000000 in
set_option maxRecDepth 100000 in
theorem law_9 {v : EV} {p : Program} {l : Launch} {e : Env} {s : State} {m : MethodId} {args : Array Value} {below : List Frame} {meth : Method} {c : Code} {Q : State → Prop} {qb b L J n : Nat} {xs : Nat → Int32} {S : Mem} {Inv : Nat → Mem → Prop} (hC : Cx v p l e s m args meth c RL cL_law 8 (some .boolean)) (hX : va_X b L xs s s.heap ∧ b < s.heap.size ∧ ¬ eG v b) (hP : LawP Inv) (hn : n < 512) (hI : Inv n S) (hL : L < 2 ^ 31) (hJ : J + 4 ≤ L) (hq : 50 ≤ qb) (k : ∀ S2, Inv (n + 1) S2 → Mj v p l e room_1 s m args below meth c 8 Q (qb - 50) S2 1202 [(0, .ref b), (1, .ref (eA v 198)), (2, .ref (eA v 218)), (3, .int (nI J))] []) : Mj v p l e room_1 s m args below meth c 8 Q qb S 429 [(0, .ref b), (1, .ref (eA v 198)), (2, .ref (eA v 218)), (3, .int (nI J))] [] := by
  have hmono := hP.1 n S hI
  obtain ⟨r, S1, S2, h1, h2, h3⟩ := hP.tie n S hn hI (xs (J + 1)) (xs (J + 2))
  refine i_aload_n hC dL_law_429 rfl ?_
  refine i_aload_n hC dL_law_430 rfl ?_
  refine i_iload_n hC dL_law_431 rfl ?_
  refine i_iconst hC (x := nI 1) dL_law_432 (by decide) ?_
  refine i_iadd hC dL_law_433 ?_
  rw [nI_a]
  refine i_sld hC hX (by omega) hL dL_law_434 ?_
  refine i_aload_n hC dL_law_435 rfl ?_
  refine i_iload_n hC dL_law_436 rfl ?_
  refine i_iconst hC (x := nI 2) dL_law_437 (by decide) ?_
  refine i_iadd hC dL_law_438 ?_
  rw [nI_a]
  refine i_sld hC hX (by omega) hL dL_law_439 ?_
  refine i_callVi hC mv_L_54 (c_X8_tie hC.2.2.2.2.2.2.2.1 h1) (pln rfl) lay_p198 rfl rfl rfl rfl ⟨by decide, by decide⟩ (Nat.le_of_ble_eq_true rfl) dL_law_440 ?_
  refine i_aload_n hC dL_law_443 rfl ?_
  refine i_aload_n hC dL_law_444 rfl ?_
  refine i_iload_n hC dL_law_445 rfl ?_
  refine i_iconst hC (x := nI 1) dL_law_446 (by decide) ?_
  refine i_iadd hC dL_law_447 ?_
  rw [nI_a]
  refine i_sld hC hX (by omega) hL dL_law_448 ?_
  refine i_aload_n hC dL_law_449 rfl ?_
  refine i_iload_n hC dL_law_450 rfl ?_
  refine i_iconst hC (x := nI 2) dL_law_451 (by decide) ?_
  refine i_iadd hC dL_law_452 ?_
  rw [nI_a]
  refine i_sld hC hX (by omega) hL dL_law_453 ?_
  refine i_callVi hC mv_L_57 (c_X9_tie hC.2.2.2.2.2.2.2.1 h2) (pln rfl) lay_p218 rfl rfl rfl rfl ⟨by decide, by decide⟩ (Nat.le_of_ble_eq_true rfl) dL_law_454 ?_
  refine i_icmp_eq hC (tgt := 1202) dL_law_457 (by decide) (fun _ => ?_) (fun z9 => absurd rfl z9)
  exact Mw.less (by omega) (Mj.to (k S2 h3) ⟨rfl, rfl, rfl, rfl, trivial⟩)
set_option maxHeartbeats 4000000 in
set_option maxRecDepth 100000 in
theorem law_10 {v : EV} {p : Program} {l : Launch} {e : Env} {s : State} {m : MethodId} {args : Array Value} {below : List Frame} {meth : Method} {c : Code} {Q : State → Prop} {qb b L J n : Nat} {xs : Nat → Int32} {S : Mem} {Inv : Nat → Mem → Prop} (hC : Cx v p l e s m args meth c RL cL_law 8 (some .boolean)) (hX : va_X b L xs s s.heap ∧ b < s.heap.size ∧ ¬ eG v b) (hP : LawP Inv) (hn : n < 512) (hI : Inv n S) (hL : L < 2 ^ 31) (hJ : J + 4 ≤ L) (hq : 50 ≤ qb) (k : ∀ S2, Inv (n + 1) S2 → Mj v p l e room_1 s m args below meth c 8 Q (qb - 50) S2 1202 [(0, .ref b), (1, .ref (eA v 198)), (2, .ref (eA v 218)), (3, .int (nI J))] []) : Mj v p l e room_1 s m args below meth c 8 Q qb S 462 [(0, .ref b), (1, .ref (eA v 198)), (2, .ref (eA v 218)), (3, .int (nI J))] [] := by
  have hmono := hP.1 n S hI
  obtain ⟨r, S1, S2, h1, h2, h3⟩ := hP.beats n S hn hI (xs (J + 1))
  refine i_aload_n hC dL_law_462 rfl ?_
  refine i_aload_n hC dL_law_463 rfl ?_
  refine i_iload_n hC dL_law_464 rfl ?_
  refine i_iconst hC (x := nI 1) dL_law_465 (by decide) ?_
  refine i_iadd hC dL_law_466 ?_
  rw [nI_a]
  refine i_sld hC hX (by omega) hL dL_law_467 ?_
  refine i_callVi hC mv_L_58 (c_X8_beats hC.2.2.2.2.2.2.2.1 h1) (pln rfl) lay_p198 rfl rfl rfl rfl ⟨by decide, by decide⟩ (Nat.le_of_ble_eq_true rfl) dL_law_468 ?_
  refine i_aload_n hC dL_law_471 rfl ?_
  refine i_aload_n hC dL_law_472 rfl ?_
  refine i_iload_n hC dL_law_473 rfl ?_
  refine i_iconst hC (x := nI 1) dL_law_474 (by decide) ?_
  refine i_iadd hC dL_law_475 ?_
  rw [nI_a]
  refine i_sld hC hX (by omega) hL dL_law_476 ?_
  refine i_callVi hC mv_L_61 (c_X9_beats hC.2.2.2.2.2.2.2.1 h2) (pln rfl) lay_p218 rfl rfl rfl rfl ⟨by decide, by decide⟩ (Nat.le_of_ble_eq_true rfl) dL_law_477 ?_
  refine i_icmp_eq hC (tgt := 1202) dL_law_480 (by decide) (fun _ => ?_) (fun z9 => absurd rfl z9)
  exact Mw.less (by omega) (Mj.to (k S2 h3) ⟨rfl, rfl, rfl, rfl, trivial⟩)
set_option maxHeartbeats 4000000 in
set_option maxRecDepth 100000 in
theorem law_11 {v : EV} {p : Program} {l : Launch} {e : Env} {s : State} {m : MethodId} {args : Array Value} {below : List Frame} {meth : Method} {c : Code} {Q : State → Prop} {qb b L J n : Nat} {xs : Nat → Int32} {S : Mem} {Inv : Nat → Mem → Prop} (hC : Cx v p l e s m args meth c RL cL_law 8 (some .boolean)) (hX : va_X b L xs s s.heap ∧ b < s.heap.size ∧ ¬ eG v b) (hP : LawP Inv) (hn : n < 512) (hI : Inv n S) (hL : L < 2 ^ 31) (hJ : J + 4 ≤ L) (hq : 50 ≤ qb) (k : ∀ S2, Inv (n + 1) S2 → Mj v p l e room_1 s m args below meth c 8 Q (qb - 50) S2 1202 [(0, .ref b), (1, .ref (eA v 198)), (2, .ref (eA v 218)), (3, .int (nI J))] []) : Mj v p l e room_1 s m args below meth c 8 Q qb S 485 [(0, .ref b), (1, .ref (eA v 198)), (2, .ref (eA v 218)), (3, .int (nI J))] [] := by
  have hmono := hP.1 n S hI
  obtain ⟨r, S1, S2, h1, h2, h3⟩ := hP.read n S hn hI
  refine i_aload_n hC dL_law_485 rfl ?_
  refine i_callVi hC mv_L_62 (c_X8_read hC.2.2.2.2.2.2.2.1 h1) (pln rfl) lay_p198 rfl rfl rfl rfl ⟨by decide, by decide⟩ (Nat.le_of_ble_eq_true rfl) dL_law_486 ?_
  refine i_aload_n hC dL_law_489 rfl ?_
  refine i_callVi hC mv_L_65 (c_X9_read hC.2.2.2.2.2.2.2.1 h2) (pln rfl) lay_p218 rfl rfl rfl rfl ⟨by decide, by decide⟩ (Nat.le_of_ble_eq_true rfl) dL_law_490 ?_
  refine i_icmp_eq hC (tgt := 1202) dL_law_493 (by decide) (fun _ => ?_) (fun z9 => absurd rfl z9)
  exact Mw.less (by omega) (Mj.to (k S2 h3) ⟨rfl, rfl, rfl, rfl, trivial⟩)
set_option maxHeartbeats 4000000 in
set_option maxRecDepth 100000 in
theorem law_12 {v : EV} {p : Program} {l : Launch} {e : Env} {s : State} {m : MethodId} {args : Array Value} {below : List Frame} {meth : Method} {c : Code} {Q : State → Prop} {qb b L J n : Nat} {xs : Nat → Int32} {S : Mem} {Inv : Nat → Mem → Prop} (hC : Cx v p l e s m args meth c RL cL_law 8 (some .boolean)) (hX : va_X b L xs s s.heap ∧ b < s.heap.size ∧ ¬ eG v b) (hP : LawP Inv) (hn : n < 512) (hI : Inv n S) (hL : L < 2 ^ 31) (hJ : J + 4 ≤ L) (hq : 50 ≤ qb) (k : ∀ S2, Inv (n + 1) S2 → Mj v p l e room_1 s m args below meth c 8 Q (qb - 50) S2 1202 [(0, .ref b), (1, .ref (eA v 198)), (2, .ref (eA v 218)), (3, .int (nI J))] []) : Mj v p l e room_1 s m args below meth c 8 Q qb S 498 [(0, .ref b), (1, .ref (eA v 198)), (2, .ref (eA v 218)), (3, .int (nI J))] [] := by
  have hmono := hP.1 n S hI
  obtain ⟨r, h1, h2⟩ := hP.fault n S hn hI
  refine i_aload_n hC dL_law_498 rfl ?_
  refine i_callVi hC mv_L_66 (c_X8_fault hC.2.2.2.2.2.2.2.1 h1) (pln rfl) lay_p198 rfl rfl rfl rfl ⟨by decide, by decide⟩ (Nat.le_of_ble_eq_true rfl) dL_law_499 ?_
  refine i_aload_n hC dL_law_502 rfl ?_
  refine i_callVi hC mv_L_69 (c_X9_fault hC.2.2.2.2.2.2.2.1 h2) (pln rfl) lay_p218 rfl rfl rfl rfl ⟨by decide, by decide⟩ (Nat.le_of_ble_eq_true rfl) dL_law_503 ?_
  refine i_icmp_eq hC (tgt := 1202) dL_law_506 (by decide) (fun _ => ?_) (fun z9 => absurd rfl z9)
  exact Mw.less (by omega) (Mj.to (k S hmono) ⟨rfl, rfl, rfl, rfl, trivial⟩)
set_option maxHeartbeats 4000000 in
set_option maxRecDepth 100000 in
theorem law_13 {v : EV} {p : Program} {l : Launch} {e : Env} {s : State} {m : MethodId} {args : Array Value} {below : List Frame} {meth : Method} {c : Code} {Q : State → Prop} {qb b L J n : Nat} {xs : Nat → Int32} {S : Mem} {Inv : Nat → Mem → Prop} (hC : Cx v p l e s m args meth c RL cL_law 8 (some .boolean)) (hX : va_X b L xs s s.heap ∧ b < s.heap.size ∧ ¬ eG v b) (hP : LawP Inv) (hn : n < 512) (hI : Inv n S) (hL : L < 2 ^ 31) (hJ : J + 4 ≤ L) (hq : 50 ≤ qb) (k : ∀ S2, Inv (n + 1) S2 → Mj v p l e room_1 s m args below meth c 8 Q (qb - 50) S2 1202 [(0, .ref b), (1, .ref (eA v 198)), (2, .ref (eA v 218)), (3, .int (nI J))] []) : Mj v p l e room_1 s m args below meth c 8 Q qb S 511 [(0, .ref b), (1, .ref (eA v 198)), (2, .ref (eA v 218)), (3, .int (nI J))] [] := by
  have hmono := hP.1 n S hI
  by_cases hz : xs (J + 2) = 0
  · obtain ⟨r, h1, h2⟩ := hP.reason n S hn hI (xs (J + 1)) 0 (Or.inl rfl)
    refine i_aload_n hC dL_law_511 rfl ?_
    refine i_aload_n hC dL_law_512 rfl ?_
    refine i_iload_n hC dL_law_513 rfl ?_
    refine i_iconst hC (x := nI 1) dL_law_514 (by decide) ?_
    refine i_iadd hC dL_law_515 ?_
    rw [nI_a]
    refine i_sld hC hX (by omega) hL dL_law_516 ?_
    refine i_aload_n hC dL_law_517 rfl ?_
    refine i_iload_n hC dL_law_518 rfl ?_
    refine i_iconst hC (x := nI 2) dL_law_519 (by decide) ?_
    refine i_iadd hC dL_law_520 ?_
    rw [nI_a]
    refine i_sld hC hX (by omega) hL dL_law_521 ?_
    refine i_if_eq hC (tgt := 529) dL_law_522 (by decide) (fun _ => ?_) (fun z9 => absurd hz z9)
    refine i_iconst hC (x := (0 : Int32)) dL_law_529 (by decide) ?_
    refine i_callVi hC mv_L_70 (c_X8_reason hC.2.2.2.2.2.2.2.1 h1) (pln rfl) lay_p198 rfl rfl rfl rfl ⟨by decide, by decide⟩ (Nat.le_of_ble_eq_true rfl) dL_law_530 ?_
    refine i_aload_n hC dL_law_533 rfl ?_
    refine i_aload_n hC dL_law_534 rfl ?_
    refine i_iload_n hC dL_law_535 rfl ?_
    refine i_iconst hC (x := nI 1) dL_law_536 (by decide) ?_
    refine i_iadd hC dL_law_537 ?_
    rw [nI_a]
    refine i_sld hC hX (by omega) hL dL_law_538 ?_
    refine i_aload_n hC dL_law_539 rfl ?_
    refine i_iload_n hC dL_law_540 rfl ?_
    refine i_iconst hC (x := nI 2) dL_law_541 (by decide) ?_
    refine i_iadd hC dL_law_542 ?_
    rw [nI_a]
    refine i_sld hC hX (by omega) hL dL_law_543 ?_
    refine i_if_eq hC (tgt := 551) dL_law_544 (by decide) (fun _ => ?_) (fun z9 => absurd hz z9)
    refine i_iconst hC (x := (0 : Int32)) dL_law_551 (by decide) ?_
    refine i_callVi hC mv_L_74 (c_X9_reason hC.2.2.2.2.2.2.2.1 h2) (pln rfl) lay_p218 rfl rfl rfl rfl ⟨by decide, by decide⟩ (Nat.le_of_ble_eq_true rfl) dL_law_552 ?_
    refine i_icmp_eq hC (tgt := 1202) dL_law_555 (by decide) (fun _ => ?_) (fun z9 => absurd rfl z9)
    exact Mw.less (by omega) (Mj.to (k S hmono) ⟨rfl, rfl, rfl, rfl, trivial⟩)
  · obtain ⟨r, h1, h2⟩ := hP.reason n S hn hI (xs (J + 1)) 1 (Or.inr rfl)
    refine i_aload_n hC dL_law_511 rfl ?_
    refine i_aload_n hC dL_law_512 rfl ?_
    refine i_iload_n hC dL_law_513 rfl ?_
    refine i_iconst hC (x := nI 1) dL_law_514 (by decide) ?_
    refine i_iadd hC dL_law_515 ?_
    rw [nI_a]
    refine i_sld hC hX (by omega) hL dL_law_516 ?_
    refine i_aload_n hC dL_law_517 rfl ?_
    refine i_iload_n hC dL_law_518 rfl ?_
    refine i_iconst hC (x := nI 2) dL_law_519 (by decide) ?_
    refine i_iadd hC dL_law_520 ?_
    rw [nI_a]
    refine i_sld hC hX (by omega) hL dL_law_521 ?_
    refine i_if_eq hC (tgt := 529) dL_law_522 (by decide) (fun z9 => absurd z9 hz) (fun _ => ?_)
    refine i_iconst hC (x := (1 : Int32)) dL_law_525 (by decide) ?_
    refine i_goto hC (tgt := 530) dL_law_526 (by decide) ?_
    refine i_callVi hC mv_L_70 (c_X8_reason hC.2.2.2.2.2.2.2.1 h1) (pln rfl) lay_p198 rfl rfl rfl rfl ⟨by decide, by decide⟩ (Nat.le_of_ble_eq_true rfl) dL_law_530 ?_
    refine i_aload_n hC dL_law_533 rfl ?_
    refine i_aload_n hC dL_law_534 rfl ?_
    refine i_iload_n hC dL_law_535 rfl ?_
    refine i_iconst hC (x := nI 1) dL_law_536 (by decide) ?_
    refine i_iadd hC dL_law_537 ?_
    rw [nI_a]
    refine i_sld hC hX (by omega) hL dL_law_538 ?_
    refine i_aload_n hC dL_law_539 rfl ?_
    refine i_iload_n hC dL_law_540 rfl ?_
    refine i_iconst hC (x := nI 2) dL_law_541 (by decide) ?_
    refine i_iadd hC dL_law_542 ?_
    rw [nI_a]
    refine i_sld hC hX (by omega) hL dL_law_543 ?_
    refine i_if_eq hC (tgt := 551) dL_law_544 (by decide) (fun z9 => absurd z9 hz) (fun _ => ?_)
    refine i_iconst hC (x := (1 : Int32)) dL_law_547 (by decide) ?_
    refine i_goto hC (tgt := 552) dL_law_548 (by decide) ?_
    refine i_callVi hC mv_L_74 (c_X9_reason hC.2.2.2.2.2.2.2.1 h2) (pln rfl) lay_p218 rfl rfl rfl rfl ⟨by decide, by decide⟩ (Nat.le_of_ble_eq_true rfl) dL_law_552 ?_
    refine i_icmp_eq hC (tgt := 1202) dL_law_555 (by decide) (fun _ => ?_) (fun z9 => absurd rfl z9)
    exact Mw.less (by omega) (Mj.to (k S hmono) ⟨rfl, rfl, rfl, rfl, trivial⟩)
set_option maxHeartbeats 4000000 in
set_option maxRecDepth 100000 in
theorem law_14 {v : EV} {p : Program} {l : Launch} {e : Env} {s : State} {m : MethodId} {args : Array Value} {below : List Frame} {meth : Method} {c : Code} {Q : State → Prop} {qb b L J n : Nat} {xs : Nat → Int32} {S : Mem} {Inv : Nat → Mem → Prop} (hC : Cx v p l e s m args meth c RL cL_law 8 (some .boolean)) (hX : va_X b L xs s s.heap ∧ b < s.heap.size ∧ ¬ eG v b) (hP : LawP Inv) (hn : n < 512) (hI : Inv n S) (hL : L < 2 ^ 31) (hJ : J + 4 ≤ L) (hq : 50 ≤ qb) (k : ∀ S2, Inv (n + 1) S2 → Mj v p l e room_1 s m args below meth c 8 Q (qb - 50) S2 1202 [(0, .ref b), (1, .ref (eA v 198)), (2, .ref (eA v 218)), (3, .int (nI J))] []) : Mj v p l e room_1 s m args below meth c 8 Q qb S 560 [(0, .ref b), (1, .ref (eA v 198)), (2, .ref (eA v 218)), (3, .int (nI J))] [] := by
  have hmono := hP.1 n S hI
  obtain ⟨r, h1, h2⟩ := hP.driverOf n S hn hI (xs (J + 1)) (xs (J + 2))
  refine i_aload_n hC dL_law_560 rfl ?_
  refine i_aload_n hC dL_law_561 rfl ?_
  refine i_iload_n hC dL_law_562 rfl ?_
  refine i_iconst hC (x := nI 1) dL_law_563 (by decide) ?_
  refine i_iadd hC dL_law_564 ?_
  rw [nI_a]
  refine i_sld hC hX (by omega) hL dL_law_565 ?_
  refine i_aload_n hC dL_law_566 rfl ?_
  refine i_iload_n hC dL_law_567 rfl ?_
  refine i_iconst hC (x := nI 2) dL_law_568 (by decide) ?_
  refine i_iadd hC dL_law_569 ?_
  rw [nI_a]
  refine i_sld hC hX (by omega) hL dL_law_570 ?_
  refine i_callVi hC mv_L_75 (c_X8_driverOf hC.2.2.2.2.2.2.2.1 h1) (pln rfl) lay_p198 rfl rfl rfl rfl ⟨by decide, by decide⟩ (Nat.le_of_ble_eq_true rfl) dL_law_571 ?_
  refine i_aload_n hC dL_law_574 rfl ?_
  refine i_aload_n hC dL_law_575 rfl ?_
  refine i_iload_n hC dL_law_576 rfl ?_
  refine i_iconst hC (x := nI 1) dL_law_577 (by decide) ?_
  refine i_iadd hC dL_law_578 ?_
  rw [nI_a]
  refine i_sld hC hX (by omega) hL dL_law_579 ?_
  refine i_aload_n hC dL_law_580 rfl ?_
  refine i_iload_n hC dL_law_581 rfl ?_
  refine i_iconst hC (x := nI 2) dL_law_582 (by decide) ?_
  refine i_iadd hC dL_law_583 ?_
  rw [nI_a]
  refine i_sld hC hX (by omega) hL dL_law_584 ?_
  refine i_callVi hC mv_L_78 (c_X9_driverOf hC.2.2.2.2.2.2.2.1 h2) (pln rfl) lay_p218 rfl rfl rfl rfl ⟨by decide, by decide⟩ (Nat.le_of_ble_eq_true rfl) dL_law_585 ?_
  refine i_icmp_eq hC (tgt := 1202) dL_law_588 (by decide) (fun _ => ?_) (fun z9 => absurd rfl z9)
  exact Mw.less (by omega) (Mj.to (k S hmono) ⟨rfl, rfl, rfl, rfl, trivial⟩)
set_option maxHeartbeats 4000000 in
set_option maxRecDepth 100000 in
theorem law_15 {v : EV} {p : Program} {l : Launch} {e : Env} {s : State} {m : MethodId} {args : Array Value} {below : List Frame} {meth : Method} {c : Code} {Q : State → Prop} {qb b L J n : Nat} {xs : Nat → Int32} {S : Mem} {Inv : Nat → Mem → Prop} (hC : Cx v p l e s m args meth c RL cL_law 8 (some .boolean)) (hX : va_X b L xs s s.heap ∧ b < s.heap.size ∧ ¬ eG v b) (hP : LawP Inv) (hn : n < 512) (hI : Inv n S) (hL : L < 2 ^ 31) (hJ : J + 4 ≤ L) (hq : 50 ≤ qb) (k : ∀ S2, Inv (n + 1) S2 → Mj v p l e room_1 s m args below meth c 8 Q (qb - 50) S2 1202 [(0, .ref b), (1, .ref (eA v 198)), (2, .ref (eA v 218)), (3, .int (nI J))] []) : Mj v p l e room_1 s m args below meth c 8 Q qb S 593 [(0, .ref b), (1, .ref (eA v 198)), (2, .ref (eA v 218)), (3, .int (nI J))] [] := by
  have hmono := hP.1 n S hI
  by_cases hz : xs (J + 3) = 0
  · obtain ⟨r, h1, h2⟩ := hP.lineOf n S hn hI (xs (J + 1)) (xs (J + 2)) 0 (Or.inl rfl)
    refine i_aload_n hC dL_law_593 rfl ?_
    refine i_aload_n hC dL_law_594 rfl ?_
    refine i_iload_n hC dL_law_595 rfl ?_
    refine i_iconst hC (x := nI 1) dL_law_596 (by decide) ?_
    refine i_iadd hC dL_law_597 ?_
    rw [nI_a]
    refine i_sld hC hX (by omega) hL dL_law_598 ?_
    refine i_aload_n hC dL_law_599 rfl ?_
    refine i_iload_n hC dL_law_600 rfl ?_
    refine i_iconst hC (x := nI 2) dL_law_601 (by decide) ?_
    refine i_iadd hC dL_law_602 ?_
    rw [nI_a]
    refine i_sld hC hX (by omega) hL dL_law_603 ?_
    refine i_aload_n hC dL_law_604 rfl ?_
    refine i_iload_n hC dL_law_605 rfl ?_
    refine i_iconst hC (x := nI 3) dL_law_606 (by decide) ?_
    refine i_iadd hC dL_law_607 ?_
    rw [nI_a]
    refine i_sld hC hX (by omega) hL dL_law_608 ?_
    refine i_if_eq hC (tgt := 616) dL_law_609 (by decide) (fun _ => ?_) (fun z9 => absurd hz z9)
    refine i_iconst hC (x := (0 : Int32)) dL_law_616 (by decide) ?_
    refine i_callVi hC mv_L_79 (c_X8_lineOf hC.2.2.2.2.2.2.2.1 h1) (pln rfl) lay_p198 rfl rfl rfl rfl ⟨by decide, by decide⟩ (Nat.le_of_ble_eq_true rfl) dL_law_617 ?_
    refine i_aload_n hC dL_law_620 rfl ?_
    refine i_aload_n hC dL_law_621 rfl ?_
    refine i_iload_n hC dL_law_622 rfl ?_
    refine i_iconst hC (x := nI 1) dL_law_623 (by decide) ?_
    refine i_iadd hC dL_law_624 ?_
    rw [nI_a]
    refine i_sld hC hX (by omega) hL dL_law_625 ?_
    refine i_aload_n hC dL_law_626 rfl ?_
    refine i_iload_n hC dL_law_627 rfl ?_
    refine i_iconst hC (x := nI 2) dL_law_628 (by decide) ?_
    refine i_iadd hC dL_law_629 ?_
    rw [nI_a]
    refine i_sld hC hX (by omega) hL dL_law_630 ?_
    refine i_aload_n hC dL_law_631 rfl ?_
    refine i_iload_n hC dL_law_632 rfl ?_
    refine i_iconst hC (x := nI 3) dL_law_633 (by decide) ?_
    refine i_iadd hC dL_law_634 ?_
    rw [nI_a]
    refine i_sld hC hX (by omega) hL dL_law_635 ?_
    refine i_if_eq hC (tgt := 643) dL_law_636 (by decide) (fun _ => ?_) (fun z9 => absurd hz z9)
    refine i_iconst hC (x := (0 : Int32)) dL_law_643 (by decide) ?_
    refine i_callVi hC mv_L_83 (c_X9_lineOf hC.2.2.2.2.2.2.2.1 h2) (pln rfl) lay_p218 rfl rfl rfl rfl ⟨by decide, by decide⟩ (Nat.le_of_ble_eq_true rfl) dL_law_644 ?_
    refine i_icmp_eq hC (tgt := 1202) dL_law_647 (by decide) (fun _ => ?_) (fun z9 => absurd rfl z9)
    exact Mw.less (by omega) (Mj.to (k S hmono) ⟨rfl, rfl, rfl, rfl, trivial⟩)
  · obtain ⟨r, h1, h2⟩ := hP.lineOf n S hn hI (xs (J + 1)) (xs (J + 2)) 1 (Or.inr rfl)
    refine i_aload_n hC dL_law_593 rfl ?_
    refine i_aload_n hC dL_law_594 rfl ?_
    refine i_iload_n hC dL_law_595 rfl ?_
    refine i_iconst hC (x := nI 1) dL_law_596 (by decide) ?_
    refine i_iadd hC dL_law_597 ?_
    rw [nI_a]
    refine i_sld hC hX (by omega) hL dL_law_598 ?_
    refine i_aload_n hC dL_law_599 rfl ?_
    refine i_iload_n hC dL_law_600 rfl ?_
    refine i_iconst hC (x := nI 2) dL_law_601 (by decide) ?_
    refine i_iadd hC dL_law_602 ?_
    rw [nI_a]
    refine i_sld hC hX (by omega) hL dL_law_603 ?_
    refine i_aload_n hC dL_law_604 rfl ?_
    refine i_iload_n hC dL_law_605 rfl ?_
    refine i_iconst hC (x := nI 3) dL_law_606 (by decide) ?_
    refine i_iadd hC dL_law_607 ?_
    rw [nI_a]
    refine i_sld hC hX (by omega) hL dL_law_608 ?_
    refine i_if_eq hC (tgt := 616) dL_law_609 (by decide) (fun z9 => absurd z9 hz) (fun _ => ?_)
    refine i_iconst hC (x := (1 : Int32)) dL_law_612 (by decide) ?_
    refine i_goto hC (tgt := 617) dL_law_613 (by decide) ?_
    refine i_callVi hC mv_L_79 (c_X8_lineOf hC.2.2.2.2.2.2.2.1 h1) (pln rfl) lay_p198 rfl rfl rfl rfl ⟨by decide, by decide⟩ (Nat.le_of_ble_eq_true rfl) dL_law_617 ?_
    refine i_aload_n hC dL_law_620 rfl ?_
    refine i_aload_n hC dL_law_621 rfl ?_
    refine i_iload_n hC dL_law_622 rfl ?_
    refine i_iconst hC (x := nI 1) dL_law_623 (by decide) ?_
    refine i_iadd hC dL_law_624 ?_
    rw [nI_a]
    refine i_sld hC hX (by omega) hL dL_law_625 ?_
    refine i_aload_n hC dL_law_626 rfl ?_
    refine i_iload_n hC dL_law_627 rfl ?_
    refine i_iconst hC (x := nI 2) dL_law_628 (by decide) ?_
    refine i_iadd hC dL_law_629 ?_
    rw [nI_a]
    refine i_sld hC hX (by omega) hL dL_law_630 ?_
    refine i_aload_n hC dL_law_631 rfl ?_
    refine i_iload_n hC dL_law_632 rfl ?_
    refine i_iconst hC (x := nI 3) dL_law_633 (by decide) ?_
    refine i_iadd hC dL_law_634 ?_
    rw [nI_a]
    refine i_sld hC hX (by omega) hL dL_law_635 ?_
    refine i_if_eq hC (tgt := 643) dL_law_636 (by decide) (fun z9 => absurd z9 hz) (fun _ => ?_)
    refine i_iconst hC (x := (1 : Int32)) dL_law_639 (by decide) ?_
    refine i_goto hC (tgt := 644) dL_law_640 (by decide) ?_
    refine i_callVi hC mv_L_83 (c_X9_lineOf hC.2.2.2.2.2.2.2.1 h2) (pln rfl) lay_p218 rfl rfl rfl rfl ⟨by decide, by decide⟩ (Nat.le_of_ble_eq_true rfl) dL_law_644 ?_
    refine i_icmp_eq hC (tgt := 1202) dL_law_647 (by decide) (fun _ => ?_) (fun z9 => absurd rfl z9)
    exact Mw.less (by omega) (Mj.to (k S hmono) ⟨rfl, rfl, rfl, rfl, trivial⟩)
set_option maxHeartbeats 4000000 in
set_option maxRecDepth 100000 in
theorem law_16 {v : EV} {p : Program} {l : Launch} {e : Env} {s : State} {m : MethodId} {args : Array Value} {below : List Frame} {meth : Method} {c : Code} {Q : State → Prop} {qb b L J n : Nat} {xs : Nat → Int32} {S : Mem} {Inv : Nat → Mem → Prop} (hC : Cx v p l e s m args meth c RL cL_law 8 (some .boolean)) (hX : va_X b L xs s s.heap ∧ b < s.heap.size ∧ ¬ eG v b) (hP : LawP Inv) (hn : n < 512) (hI : Inv n S) (hL : L < 2 ^ 31) (hJ : J + 4 ≤ L) (hq : 50 ≤ qb) (k : ∀ S2, Inv (n + 1) S2 → Mj v p l e room_1 s m args below meth c 8 Q (qb - 50) S2 1202 [(0, .ref b), (1, .ref (eA v 198)), (2, .ref (eA v 218)), (3, .int (nI J))] []) : Mj v p l e room_1 s m args below meth c 8 Q qb S 652 [(0, .ref b), (1, .ref (eA v 198)), (2, .ref (eA v 218)), (3, .int (nI J))] [] := by
  have hmono := hP.1 n S hI
  obtain ⟨r, h1, h2⟩ := hP.leader n S hn hI
  refine i_aload_n hC dL_law_652 rfl ?_
  refine i_callVi hC mv_L_84 (c_X8_leader hC.2.2.2.2.2.2.2.1 h1) (pln rfl) lay_p198 rfl rfl rfl rfl ⟨by decide, by decide⟩ (Nat.le_of_ble_eq_true rfl) dL_law_653 ?_
  refine i_aload_n hC dL_law_656 rfl ?_
  refine i_callVi hC mv_L_87 (c_X9_leader hC.2.2.2.2.2.2.2.1 h2) (pln rfl) lay_p218 rfl rfl rfl rfl ⟨by decide, by decide⟩ (Nat.le_of_ble_eq_true rfl) dL_law_657 ?_
  refine i_icmp_eq hC (tgt := 1202) dL_law_660 (by decide) (fun _ => ?_) (fun z9 => absurd rfl z9)
  exact Mw.less (by omega) (Mj.to (k S hmono) ⟨rfl, rfl, rfl, rfl, trivial⟩)
set_option maxHeartbeats 4000000 in
set_option maxRecDepth 100000 in
theorem law_17 {v : EV} {p : Program} {l : Launch} {e : Env} {s : State} {m : MethodId} {args : Array Value} {below : List Frame} {meth : Method} {c : Code} {Q : State → Prop} {qb b L J n : Nat} {xs : Nat → Int32} {S : Mem} {Inv : Nat → Mem → Prop} (hC : Cx v p l e s m args meth c RL cL_law 8 (some .boolean)) (hX : va_X b L xs s s.heap ∧ b < s.heap.size ∧ ¬ eG v b) (hP : LawP Inv) (hn : n < 512) (hI : Inv n S) (hL : L < 2 ^ 31) (hJ : J + 4 ≤ L) (hq : 50 ≤ qb) (k : ∀ S2, Inv (n + 1) S2 → Mj v p l e room_1 s m args below meth c 8 Q (qb - 50) S2 1202 [(0, .ref b), (1, .ref (eA v 198)), (2, .ref (eA v 218)), (3, .int (nI J))] []) : Mj v p l e room_1 s m args below meth c 8 Q qb S 665 [(0, .ref b), (1, .ref (eA v 198)), (2, .ref (eA v 218)), (3, .int (nI J))] [] := by
  have hmono := hP.1 n S hI
  obtain ⟨r, h1, h2⟩ := hP.reaches n S hn hI (xs (J + 1)) (xs (J + 2))
  refine i_aload_n hC dL_law_665 rfl ?_
  refine i_aload_n hC dL_law_666 rfl ?_
  refine i_iload_n hC dL_law_667 rfl ?_
  refine i_iconst hC (x := nI 1) dL_law_668 (by decide) ?_
  refine i_iadd hC dL_law_669 ?_
  rw [nI_a]
  refine i_sld hC hX (by omega) hL dL_law_670 ?_
  refine i_aload_n hC dL_law_671 rfl ?_
  refine i_iload_n hC dL_law_672 rfl ?_
  refine i_iconst hC (x := nI 2) dL_law_673 (by decide) ?_
  refine i_iadd hC dL_law_674 ?_
  rw [nI_a]
  refine i_sld hC hX (by omega) hL dL_law_675 ?_
  refine i_callVi hC mv_L_88 (c_X8_reaches hC.2.2.2.2.2.2.2.1 h1) (pln rfl) lay_p198 rfl rfl rfl rfl ⟨by decide, by decide⟩ (Nat.le_of_ble_eq_true rfl) dL_law_676 ?_
  refine i_aload_n hC dL_law_679 rfl ?_
  refine i_aload_n hC dL_law_680 rfl ?_
  refine i_iload_n hC dL_law_681 rfl ?_
  refine i_iconst hC (x := nI 1) dL_law_682 (by decide) ?_
  refine i_iadd hC dL_law_683 ?_
  rw [nI_a]
  refine i_sld hC hX (by omega) hL dL_law_684 ?_
  refine i_aload_n hC dL_law_685 rfl ?_
  refine i_iload_n hC dL_law_686 rfl ?_
  refine i_iconst hC (x := nI 2) dL_law_687 (by decide) ?_
  refine i_iadd hC dL_law_688 ?_
  rw [nI_a]
  refine i_sld hC hX (by omega) hL dL_law_689 ?_
  refine i_callVi hC mv_L_92 (c_X9_reaches hC.2.2.2.2.2.2.2.1 h2) (pln rfl) lay_p218 rfl rfl rfl rfl ⟨by decide, by decide⟩ (Nat.le_of_ble_eq_true rfl) dL_law_690 ?_
  refine i_icmp_eq hC (tgt := 1202) dL_law_693 (by decide) (fun _ => ?_) (fun z9 => absurd rfl z9)
  exact Mw.less (by omega) (Mj.to (k S hmono) ⟨rfl, rfl, rfl, rfl, trivial⟩)
set_option maxHeartbeats 4000000 in
set_option maxRecDepth 100000 in
theorem law_18 {v : EV} {p : Program} {l : Launch} {e : Env} {s : State} {m : MethodId} {args : Array Value} {below : List Frame} {meth : Method} {c : Code} {Q : State → Prop} {qb b L J n : Nat} {xs : Nat → Int32} {S : Mem} {Inv : Nat → Mem → Prop} (hC : Cx v p l e s m args meth c RL cL_law 8 (some .boolean)) (hX : va_X b L xs s s.heap ∧ b < s.heap.size ∧ ¬ eG v b) (hP : LawP Inv) (hn : n < 512) (hI : Inv n S) (hL : L < 2 ^ 31) (hJ : J + 4 ≤ L) (hq : 50 ≤ qb) (k : ∀ S2, Inv (n + 1) S2 → Mj v p l e room_1 s m args below meth c 8 Q (qb - 50) S2 1202 [(0, .ref b), (1, .ref (eA v 198)), (2, .ref (eA v 218)), (3, .int (nI J))] []) : Mj v p l e room_1 s m args below meth c 8 Q qb S 698 [(0, .ref b), (1, .ref (eA v 198)), (2, .ref (eA v 218)), (3, .int (nI J))] [] := by
  have hmono := hP.1 n S hI
  obtain ⟨r, h1, h2⟩ := hP.longer n S hn hI (xs (J + 1)) (xs (J + 2))
  refine i_aload_n hC dL_law_698 rfl ?_
  refine i_aload_n hC dL_law_699 rfl ?_
  refine i_iload_n hC dL_law_700 rfl ?_
  refine i_iconst hC (x := nI 1) dL_law_701 (by decide) ?_
  refine i_iadd hC dL_law_702 ?_
  rw [nI_a]
  refine i_sld hC hX (by omega) hL dL_law_703 ?_
  refine i_aload_n hC dL_law_704 rfl ?_
  refine i_iload_n hC dL_law_705 rfl ?_
  refine i_iconst hC (x := nI 2) dL_law_706 (by decide) ?_
  refine i_iadd hC dL_law_707 ?_
  rw [nI_a]
  refine i_sld hC hX (by omega) hL dL_law_708 ?_
  refine i_callVi hC mv_L_93 (c_X8_longer hC.2.2.2.2.2.2.2.1 h1) (pln rfl) lay_p198 rfl rfl rfl rfl ⟨by decide, by decide⟩ (Nat.le_of_ble_eq_true rfl) dL_law_709 ?_
  refine i_aload_n hC dL_law_712 rfl ?_
  refine i_aload_n hC dL_law_713 rfl ?_
  refine i_iload_n hC dL_law_714 rfl ?_
  refine i_iconst hC (x := nI 1) dL_law_715 (by decide) ?_
  refine i_iadd hC dL_law_716 ?_
  rw [nI_a]
  refine i_sld hC hX (by omega) hL dL_law_717 ?_
  refine i_aload_n hC dL_law_718 rfl ?_
  refine i_iload_n hC dL_law_719 rfl ?_
  refine i_iconst hC (x := nI 2) dL_law_720 (by decide) ?_
  refine i_iadd hC dL_law_721 ?_
  rw [nI_a]
  refine i_sld hC hX (by omega) hL dL_law_722 ?_
  refine i_callVi hC mv_L_96 (c_X9_longer hC.2.2.2.2.2.2.2.1 h2) (pln rfl) lay_p218 rfl rfl rfl rfl ⟨by decide, by decide⟩ (Nat.le_of_ble_eq_true rfl) dL_law_723 ?_
  refine i_icmp_eq hC (tgt := 1202) dL_law_726 (by decide) (fun _ => ?_) (fun z9 => absurd rfl z9)
  exact Mw.less (by omega) (Mj.to (k S hmono) ⟨rfl, rfl, rfl, rfl, trivial⟩)
set_option maxHeartbeats 4000000 in
set_option maxRecDepth 100000 in
theorem law_19 {v : EV} {p : Program} {l : Launch} {e : Env} {s : State} {m : MethodId} {args : Array Value} {below : List Frame} {meth : Method} {c : Code} {Q : State → Prop} {qb b L J n : Nat} {xs : Nat → Int32} {S : Mem} {Inv : Nat → Mem → Prop} (hC : Cx v p l e s m args meth c RL cL_law 8 (some .boolean)) (hX : va_X b L xs s s.heap ∧ b < s.heap.size ∧ ¬ eG v b) (hP : LawP Inv) (hn : n < 512) (hI : Inv n S) (hL : L < 2 ^ 31) (hJ : J + 4 ≤ L) (hq : 50 ≤ qb) (k : ∀ S2, Inv (n + 1) S2 → Mj v p l e room_1 s m args below meth c 8 Q (qb - 50) S2 1202 [(0, .ref b), (1, .ref (eA v 198)), (2, .ref (eA v 218)), (3, .int (nI J))] []) : Mj v p l e room_1 s m args below meth c 8 Q qb S 731 [(0, .ref b), (1, .ref (eA v 198)), (2, .ref (eA v 218)), (3, .int (nI J))] [] := by
  have hmono := hP.1 n S hI
  obtain ⟨r, h1, h2⟩ := hP.wouldVote n S hn hI (xs (J + 1)) (xs (J + 2))
  refine i_aload_n hC dL_law_731 rfl ?_
  refine i_aload_n hC dL_law_732 rfl ?_
  refine i_iload_n hC dL_law_733 rfl ?_
  refine i_iconst hC (x := nI 1) dL_law_734 (by decide) ?_
  refine i_iadd hC dL_law_735 ?_
  rw [nI_a]
  refine i_sld hC hX (by omega) hL dL_law_736 ?_
  refine i_aload_n hC dL_law_737 rfl ?_
  refine i_iload_n hC dL_law_738 rfl ?_
  refine i_iconst hC (x := nI 2) dL_law_739 (by decide) ?_
  refine i_iadd hC dL_law_740 ?_
  rw [nI_a]
  refine i_sld hC hX (by omega) hL dL_law_741 ?_
  refine i_callVi hC mv_L_97 (c_X8_wouldVote hC.2.2.2.2.2.2.2.1 h1) (pln rfl) lay_p198 rfl rfl rfl rfl ⟨by decide, by decide⟩ (Nat.le_of_ble_eq_true rfl) dL_law_742 ?_
  refine i_aload_n hC dL_law_745 rfl ?_
  refine i_aload_n hC dL_law_746 rfl ?_
  refine i_iload_n hC dL_law_747 rfl ?_
  refine i_iconst hC (x := nI 1) dL_law_748 (by decide) ?_
  refine i_iadd hC dL_law_749 ?_
  rw [nI_a]
  refine i_sld hC hX (by omega) hL dL_law_750 ?_
  refine i_aload_n hC dL_law_751 rfl ?_
  refine i_iload_n hC dL_law_752 rfl ?_
  refine i_iconst hC (x := nI 2) dL_law_753 (by decide) ?_
  refine i_iadd hC dL_law_754 ?_
  rw [nI_a]
  refine i_sld hC hX (by omega) hL dL_law_755 ?_
  refine i_callVi hC mv_L_100 (c_X9_wouldVote hC.2.2.2.2.2.2.2.1 h2) (pln rfl) lay_p218 rfl rfl rfl rfl ⟨by decide, by decide⟩ (Nat.le_of_ble_eq_true rfl) dL_law_756 ?_
  refine i_icmp_eq hC (tgt := 1202) dL_law_759 (by decide) (fun _ => ?_) (fun z9 => absurd rfl z9)
  exact Mw.less (by omega) (Mj.to (k S hmono) ⟨rfl, rfl, rfl, rfl, trivial⟩)
set_option maxHeartbeats 4000000 in
set_option maxRecDepth 100000 in
theorem law_20 {v : EV} {p : Program} {l : Launch} {e : Env} {s : State} {m : MethodId} {args : Array Value} {below : List Frame} {meth : Method} {c : Code} {Q : State → Prop} {qb b L J n : Nat} {xs : Nat → Int32} {S : Mem} {Inv : Nat → Mem → Prop} (hC : Cx v p l e s m args meth c RL cL_law 8 (some .boolean)) (hX : va_X b L xs s s.heap ∧ b < s.heap.size ∧ ¬ eG v b) (hP : LawP Inv) (hn : n < 512) (hI : Inv n S) (hL : L < 2 ^ 31) (hJ : J + 4 ≤ L) (hq : 50 ≤ qb) (k : ∀ S2, Inv (n + 1) S2 → Mj v p l e room_1 s m args below meth c 8 Q (qb - 50) S2 1202 [(0, .ref b), (1, .ref (eA v 198)), (2, .ref (eA v 218)), (3, .int (nI J))] []) : Mj v p l e room_1 s m args below meth c 8 Q qb S 764 [(0, .ref b), (1, .ref (eA v 198)), (2, .ref (eA v 218)), (3, .int (nI J))] [] := by
  have hmono := hP.1 n S hI
  obtain ⟨r, h1, h2⟩ := hP.couldLead n S hn hI (xs (J + 1))
  refine i_aload_n hC dL_law_764 rfl ?_
  refine i_aload_n hC dL_law_765 rfl ?_
  refine i_iload_n hC dL_law_766 rfl ?_
  refine i_iconst hC (x := nI 1) dL_law_767 (by decide) ?_
  refine i_iadd hC dL_law_768 ?_
  rw [nI_a]
  refine i_sld hC hX (by omega) hL dL_law_769 ?_
  refine i_callVi hC mv_L_101 (c_X8_couldLead hC.2.2.2.2.2.2.2.1 h1) (pln rfl) lay_p198 rfl rfl rfl rfl ⟨by decide, by decide⟩ (Nat.le_of_ble_eq_true rfl) dL_law_770 ?_
  refine i_aload_n hC dL_law_773 rfl ?_
  refine i_aload_n hC dL_law_774 rfl ?_
  refine i_iload_n hC dL_law_775 rfl ?_
  refine i_iconst hC (x := nI 1) dL_law_776 (by decide) ?_
  refine i_iadd hC dL_law_777 ?_
  rw [nI_a]
  refine i_sld hC hX (by omega) hL dL_law_778 ?_
  refine i_callVi hC mv_L_104 (c_X9_couldLead hC.2.2.2.2.2.2.2.1 h2) (pln rfl) lay_p218 rfl rfl rfl rfl ⟨by decide, by decide⟩ (Nat.le_of_ble_eq_true rfl) dL_law_779 ?_
  refine i_icmp_eq hC (tgt := 1202) dL_law_782 (by decide) (fun _ => ?_) (fun z9 => absurd rfl z9)
  exact Mw.less (by omega) (Mj.to (k S hmono) ⟨rfl, rfl, rfl, rfl, trivial⟩)
set_option maxHeartbeats 4000000 in
set_option maxRecDepth 100000 in
theorem law_21 {v : EV} {p : Program} {l : Launch} {e : Env} {s : State} {m : MethodId} {args : Array Value} {below : List Frame} {meth : Method} {c : Code} {Q : State → Prop} {qb b L J n : Nat} {xs : Nat → Int32} {S : Mem} {Inv : Nat → Mem → Prop} (hC : Cx v p l e s m args meth c RL cL_law 8 (some .boolean)) (hX : va_X b L xs s s.heap ∧ b < s.heap.size ∧ ¬ eG v b) (hP : LawP Inv) (hn : n < 512) (hI : Inv n S) (hL : L < 2 ^ 31) (hJ : J + 4 ≤ L) (hq : 50 ≤ qb) (k : ∀ S2, Inv (n + 1) S2 → Mj v p l e room_1 s m args below meth c 8 Q (qb - 50) S2 1202 [(0, .ref b), (1, .ref (eA v 198)), (2, .ref (eA v 218)), (3, .int (nI J))] []) : Mj v p l e room_1 s m args below meth c 8 Q qb S 787 [(0, .ref b), (1, .ref (eA v 198)), (2, .ref (eA v 218)), (3, .int (nI J))] [] := by
  have hmono := hP.1 n S hI
  obtain ⟨r, S1, S2, h1, h2, h3⟩ := hP.couldLeadAgain n S hn hI (xs (J + 1))
  refine i_aload_n hC dL_law_787 rfl ?_
  refine i_aload_n hC dL_law_788 rfl ?_
  refine i_iload_n hC dL_law_789 rfl ?_
  refine i_iconst hC (x := nI 1) dL_law_790 (by decide) ?_
  refine i_iadd hC dL_law_791 ?_
  rw [nI_a]
  refine i_sld hC hX (by omega) hL dL_law_792 ?_
  refine i_callVi hC mv_L_105 (c_X8_couldLeadAgain hC.2.2.2.2.2.2.2.1 h1) (pln rfl) lay_p198 rfl rfl rfl rfl ⟨by decide, by decide⟩ (Nat.le_of_ble_eq_true rfl) dL_law_793 ?_
  refine i_aload_n hC dL_law_796 rfl ?_
  refine i_aload_n hC dL_law_797 rfl ?_
  refine i_iload_n hC dL_law_798 rfl ?_
  refine i_iconst hC (x := nI 1) dL_law_799 (by decide) ?_
  refine i_iadd hC dL_law_800 ?_
  rw [nI_a]
  refine i_sld hC hX (by omega) hL dL_law_801 ?_
  refine i_callVi hC mv_L_108 (c_X9_couldLeadAgain hC.2.2.2.2.2.2.2.1 h2) (pln rfl) lay_p218 rfl rfl rfl rfl ⟨by decide, by decide⟩ (Nat.le_of_ble_eq_true rfl) dL_law_802 ?_
  refine i_icmp_eq hC (tgt := 1202) dL_law_805 (by decide) (fun _ => ?_) (fun z9 => absurd rfl z9)
  exact Mw.less (by omega) (Mj.to (k S2 h3) ⟨rfl, rfl, rfl, rfl, trivial⟩)
set_option maxHeartbeats 4000000 in
set_option maxRecDepth 100000 in
theorem law_22 {v : EV} {p : Program} {l : Launch} {e : Env} {s : State} {m : MethodId} {args : Array Value} {below : List Frame} {meth : Method} {c : Code} {Q : State → Prop} {qb b L J n : Nat} {xs : Nat → Int32} {S : Mem} {Inv : Nat → Mem → Prop} (hC : Cx v p l e s m args meth c RL cL_law 8 (some .boolean)) (hX : va_X b L xs s s.heap ∧ b < s.heap.size ∧ ¬ eG v b) (hP : LawP Inv) (hn : n < 512) (hI : Inv n S) (hL : L < 2 ^ 31) (hJ : J + 4 ≤ L) (hq : 50 ≤ qb) (k : ∀ S2, Inv (n + 1) S2 → Mj v p l e room_1 s m args below meth c 8 Q (qb - 50) S2 1202 [(0, .ref b), (1, .ref (eA v 198)), (2, .ref (eA v 218)), (3, .int (nI J))] []) : Mj v p l e room_1 s m args below meth c 8 Q qb S 810 [(0, .ref b), (1, .ref (eA v 198)), (2, .ref (eA v 218)), (3, .int (nI J))] [] := by
  have hmono := hP.1 n S hI
  obtain ⟨r, h1, h2⟩ := hP.alike n S hn hI (xs (J + 1)) (xs (J + 2))
  refine i_aload_n hC dL_law_810 rfl ?_
  refine i_aload_n hC dL_law_811 rfl ?_
  refine i_iload_n hC dL_law_812 rfl ?_
  refine i_iconst hC (x := nI 1) dL_law_813 (by decide) ?_
  refine i_iadd hC dL_law_814 ?_
  rw [nI_a]
  refine i_sld hC hX (by omega) hL dL_law_815 ?_
  refine i_aload_n hC dL_law_816 rfl ?_
  refine i_iload_n hC dL_law_817 rfl ?_
  refine i_iconst hC (x := nI 2) dL_law_818 (by decide) ?_
  refine i_iadd hC dL_law_819 ?_
  rw [nI_a]
  refine i_sld hC hX (by omega) hL dL_law_820 ?_
  refine i_callVi hC mv_L_109 (c_X8_alike hC.2.2.2.2.2.2.2.1 h1) (pln rfl) lay_p198 rfl rfl rfl rfl ⟨by decide, by decide⟩ (Nat.le_of_ble_eq_true rfl) dL_law_821 ?_
  refine i_aload_n hC dL_law_824 rfl ?_
  refine i_aload_n hC dL_law_825 rfl ?_
  refine i_iload_n hC dL_law_826 rfl ?_
  refine i_iconst hC (x := nI 1) dL_law_827 (by decide) ?_
  refine i_iadd hC dL_law_828 ?_
  rw [nI_a]
  refine i_sld hC hX (by omega) hL dL_law_829 ?_
  refine i_aload_n hC dL_law_830 rfl ?_
  refine i_iload_n hC dL_law_831 rfl ?_
  refine i_iconst hC (x := nI 2) dL_law_832 (by decide) ?_
  refine i_iadd hC dL_law_833 ?_
  rw [nI_a]
  refine i_sld hC hX (by omega) hL dL_law_834 ?_
  refine i_callVi hC mv_L_112 (c_X9_alike hC.2.2.2.2.2.2.2.1 h2) (pln rfl) lay_p218 rfl rfl rfl rfl ⟨by decide, by decide⟩ (Nat.le_of_ble_eq_true rfl) dL_law_835 ?_
  refine i_icmp_eq hC (tgt := 1202) dL_law_838 (by decide) (fun _ => ?_) (fun z9 => absurd rfl z9)
  exact Mw.less (by omega) (Mj.to (k S hmono) ⟨rfl, rfl, rfl, rfl, trivial⟩)
set_option maxHeartbeats 4000000 in
set_option maxRecDepth 100000 in
theorem law_23 {v : EV} {p : Program} {l : Launch} {e : Env} {s : State} {m : MethodId} {args : Array Value} {below : List Frame} {meth : Method} {c : Code} {Q : State → Prop} {qb b L J n : Nat} {xs : Nat → Int32} {S : Mem} {Inv : Nat → Mem → Prop} (hC : Cx v p l e s m args meth c RL cL_law 8 (some .boolean)) (hX : va_X b L xs s s.heap ∧ b < s.heap.size ∧ ¬ eG v b) (hP : LawP Inv) (hn : n < 512) (hI : Inv n S) (hL : L < 2 ^ 31) (hJ : J + 4 ≤ L) (hq : 50 ≤ qb) (k : ∀ S2, Inv (n + 1) S2 → Mj v p l e room_1 s m args below meth c 8 Q (qb - 50) S2 1202 [(0, .ref b), (1, .ref (eA v 198)), (2, .ref (eA v 218)), (3, .int (nI J))] []) : Mj v p l e room_1 s m args below meth c 8 Q qb S 843 [(0, .ref b), (1, .ref (eA v 198)), (2, .ref (eA v 218)), (3, .int (nI J))] [] := by
  have hmono := hP.1 n S hI
  obtain ⟨r, h1, h2⟩ := hP.holders n S hn hI (xs (J + 1)) (xs (J + 2))
  refine i_aload_n hC dL_law_843 rfl ?_
  refine i_aload_n hC dL_law_844 rfl ?_
  refine i_iload_n hC dL_law_845 rfl ?_
  refine i_iconst hC (x := nI 1) dL_law_846 (by decide) ?_
  refine i_iadd hC dL_law_847 ?_
  rw [nI_a]
  refine i_sld hC hX (by omega) hL dL_law_848 ?_
  refine i_aload_n hC dL_law_849 rfl ?_
  refine i_iload_n hC dL_law_850 rfl ?_
  refine i_iconst hC (x := nI 2) dL_law_851 (by decide) ?_
  refine i_iadd hC dL_law_852 ?_
  rw [nI_a]
  refine i_sld hC hX (by omega) hL dL_law_853 ?_
  refine i_callVi hC mv_L_113 (c_X8_holders hC.2.2.2.2.2.2.2.1 h1) (pln rfl) lay_p198 rfl rfl rfl rfl ⟨by decide, by decide⟩ (Nat.le_of_ble_eq_true rfl) dL_law_854 ?_
  refine i_aload_n hC dL_law_857 rfl ?_
  refine i_aload_n hC dL_law_858 rfl ?_
  refine i_iload_n hC dL_law_859 rfl ?_
  refine i_iconst hC (x := nI 1) dL_law_860 (by decide) ?_
  refine i_iadd hC dL_law_861 ?_
  rw [nI_a]
  refine i_sld hC hX (by omega) hL dL_law_862 ?_
  refine i_aload_n hC dL_law_863 rfl ?_
  refine i_iload_n hC dL_law_864 rfl ?_
  refine i_iconst hC (x := nI 2) dL_law_865 (by decide) ?_
  refine i_iadd hC dL_law_866 ?_
  rw [nI_a]
  refine i_sld hC hX (by omega) hL dL_law_867 ?_
  refine i_callVi hC mv_L_116 (c_X9_holders hC.2.2.2.2.2.2.2.1 h2) (pln rfl) lay_p218 rfl rfl rfl rfl ⟨by decide, by decide⟩ (Nat.le_of_ble_eq_true rfl) dL_law_868 ?_
  refine i_icmp_eq hC (tgt := 1202) dL_law_871 (by decide) (fun _ => ?_) (fun z9 => absurd rfl z9)
  exact Mw.less (by omega) (Mj.to (k S hmono) ⟨rfl, rfl, rfl, rfl, trivial⟩)
set_option maxHeartbeats 4000000 in
set_option maxRecDepth 100000 in
theorem law_24 {v : EV} {p : Program} {l : Launch} {e : Env} {s : State} {m : MethodId} {args : Array Value} {below : List Frame} {meth : Method} {c : Code} {Q : State → Prop} {qb b L J n : Nat} {xs : Nat → Int32} {S : Mem} {Inv : Nat → Mem → Prop} (hC : Cx v p l e s m args meth c RL cL_law 8 (some .boolean)) (hX : va_X b L xs s s.heap ∧ b < s.heap.size ∧ ¬ eG v b) (hP : LawP Inv) (hn : n < 512) (hI : Inv n S) (hL : L < 2 ^ 31) (hJ : J + 4 ≤ L) (hq : 50 ≤ qb) (k : ∀ S2, Inv (n + 1) S2 → Mj v p l e room_1 s m args below meth c 8 Q (qb - 50) S2 1202 [(0, .ref b), (1, .ref (eA v 198)), (2, .ref (eA v 218)), (3, .int (nI J))] []) : Mj v p l e room_1 s m args below meth c 8 Q qb S 876 [(0, .ref b), (1, .ref (eA v 198)), (2, .ref (eA v 218)), (3, .int (nI J))] [] := by
  have hmono := hP.1 n S hI
  obtain ⟨r, h1, h2⟩ := hP.agreed n S hn hI
  refine i_aload_n hC dL_law_876 rfl ?_
  refine i_callVi hC mv_L_117 (c_X8_agreed hC.2.2.2.2.2.2.2.1 h1) (pln rfl) lay_p198 rfl rfl rfl rfl ⟨by decide, by decide⟩ (Nat.le_of_ble_eq_true rfl) dL_law_877 ?_
  refine i_aload_n hC dL_law_880 rfl ?_
  refine i_callVi hC mv_L_120 (c_X9_agreed hC.2.2.2.2.2.2.2.1 h2) (pln rfl) lay_p218 rfl rfl rfl rfl ⟨by decide, by decide⟩ (Nat.le_of_ble_eq_true rfl) dL_law_881 ?_
  refine i_icmp_eq hC (tgt := 1202) dL_law_884 (by decide) (fun _ => ?_) (fun z9 => absurd rfl z9)
  exact Mw.less (by omega) (Mj.to (k S hmono) ⟨rfl, rfl, rfl, rfl, trivial⟩)
set_option maxHeartbeats 4000000 in
set_option maxRecDepth 100000 in
theorem law_25 {v : EV} {p : Program} {l : Launch} {e : Env} {s : State} {m : MethodId} {args : Array Value} {below : List Frame} {meth : Method} {c : Code} {Q : State → Prop} {qb b L J n : Nat} {xs : Nat → Int32} {S : Mem} {Inv : Nat → Mem → Prop} (hC : Cx v p l e s m args meth c RL cL_law 8 (some .boolean)) (hX : va_X b L xs s s.heap ∧ b < s.heap.size ∧ ¬ eG v b) (hP : LawP Inv) (hn : n < 512) (hI : Inv n S) (hL : L < 2 ^ 31) (hJ : J + 4 ≤ L) (hq : 50 ≤ qb) (k : ∀ S2, Inv (n + 1) S2 → Mj v p l e room_1 s m args below meth c 8 Q (qb - 50) S2 1202 [(0, .ref b), (1, .ref (eA v 198)), (2, .ref (eA v 218)), (3, .int (nI J))] []) : Mj v p l e room_1 s m args below meth c 8 Q qb S 889 [(0, .ref b), (1, .ref (eA v 198)), (2, .ref (eA v 218)), (3, .int (nI J))] [] := by
  have hmono := hP.1 n S hI
  obtain ⟨r, h1, h2⟩ := hP.agreedAgain n S hn hI
  refine i_aload_n hC dL_law_889 rfl ?_
  refine i_callVi hC mv_L_121 (c_X8_agreedAgain hC.2.2.2.2.2.2.2.1 h1) (pln rfl) lay_p198 rfl rfl rfl rfl ⟨by decide, by decide⟩ (Nat.le_of_ble_eq_true rfl) dL_law_890 ?_
  refine i_aload_n hC dL_law_893 rfl ?_
  refine i_callVi hC mv_L_124 (c_X9_agreedAgain hC.2.2.2.2.2.2.2.1 h2) (pln rfl) lay_p218 rfl rfl rfl rfl ⟨by decide, by decide⟩ (Nat.le_of_ble_eq_true rfl) dL_law_894 ?_
  refine i_icmp_eq hC (tgt := 1202) dL_law_897 (by decide) (fun _ => ?_) (fun z9 => absurd rfl z9)
  exact Mw.less (by omega) (Mj.to (k S hmono) ⟨rfl, rfl, rfl, rfl, trivial⟩)
set_option maxHeartbeats 4000000 in
set_option maxRecDepth 100000 in
theorem law_26 {v : EV} {p : Program} {l : Launch} {e : Env} {s : State} {m : MethodId} {args : Array Value} {below : List Frame} {meth : Method} {c : Code} {Q : State → Prop} {qb b L J n : Nat} {xs : Nat → Int32} {S : Mem} {Inv : Nat → Mem → Prop} (hC : Cx v p l e s m args meth c RL cL_law 8 (some .boolean)) (hX : va_X b L xs s s.heap ∧ b < s.heap.size ∧ ¬ eG v b) (hP : LawP Inv) (hn : n < 512) (hI : Inv n S) (hL : L < 2 ^ 31) (hJ : J + 4 ≤ L) (hq : 50 ≤ qb) (k : ∀ S2, Inv (n + 1) S2 → Mj v p l e room_1 s m args below meth c 8 Q (qb - 50) S2 1202 [(0, .ref b), (1, .ref (eA v 198)), (2, .ref (eA v 218)), (3, .int (nI J))] []) : Mj v p l e room_1 s m args below meth c 8 Q qb S 902 [(0, .ref b), (1, .ref (eA v 198)), (2, .ref (eA v 218)), (3, .int (nI J))] [] := by
  have hmono := hP.1 n S hI
  obtain ⟨r, h1, h2⟩ := hP.conflicts n S hn hI
  refine i_aload_n hC dL_law_902 rfl ?_
  refine i_callVi hC mv_L_125 (c_X8_conflicts hC.2.2.2.2.2.2.2.1 h1) (pln rfl) lay_p198 rfl rfl rfl rfl ⟨by decide, by decide⟩ (Nat.le_of_ble_eq_true rfl) dL_law_903 ?_
  refine i_aload_n hC dL_law_906 rfl ?_
  refine i_callVi hC mv_L_128 (c_X9_conflicts hC.2.2.2.2.2.2.2.1 h2) (pln rfl) lay_p218 rfl rfl rfl rfl ⟨by decide, by decide⟩ (Nat.le_of_ble_eq_true rfl) dL_law_907 ?_
  refine i_icmp_eq hC (tgt := 1202) dL_law_910 (by decide) (fun _ => ?_) (fun z9 => absurd rfl z9)
  exact Mw.less (by omega) (Mj.to (k S hmono) ⟨rfl, rfl, rfl, rfl, trivial⟩)
set_option maxHeartbeats 4000000 in
set_option maxRecDepth 100000 in
theorem law_27 {v : EV} {p : Program} {l : Launch} {e : Env} {s : State} {m : MethodId} {args : Array Value} {below : List Frame} {meth : Method} {c : Code} {Q : State → Prop} {qb b L J n : Nat} {xs : Nat → Int32} {S : Mem} {Inv : Nat → Mem → Prop} (hC : Cx v p l e s m args meth c RL cL_law 8 (some .boolean)) (hX : va_X b L xs s s.heap ∧ b < s.heap.size ∧ ¬ eG v b) (hP : LawP Inv) (hn : n < 512) (hI : Inv n S) (hL : L < 2 ^ 31) (hJ : J + 4 ≤ L) (hq : 50 ≤ qb) (k : ∀ S2, Inv (n + 1) S2 → Mj v p l e room_1 s m args below meth c 8 Q (qb - 50) S2 1202 [(0, .ref b), (1, .ref (eA v 198)), (2, .ref (eA v 218)), (3, .int (nI J))] []) : Mj v p l e room_1 s m args below meth c 8 Q qb S 915 [(0, .ref b), (1, .ref (eA v 198)), (2, .ref (eA v 218)), (3, .int (nI J))] [] := by
  have hmono := hP.1 n S hI
  obtain ⟨r, h1, h2⟩ := hP.isSafe n S hn hI
  refine i_aload_n hC dL_law_915 rfl ?_
  refine i_callVi hC mv_L_129 (c_X8_isSafe hC.2.2.2.2.2.2.2.1 h1) (pln rfl) lay_p198 rfl rfl rfl rfl ⟨by decide, by decide⟩ (Nat.le_of_ble_eq_true rfl) dL_law_916 ?_
  refine i_aload_n hC dL_law_919 rfl ?_
  refine i_callVi hC mv_L_132 (c_X9_isSafe hC.2.2.2.2.2.2.2.1 h2) (pln rfl) lay_p218 rfl rfl rfl rfl ⟨by decide, by decide⟩ (Nat.le_of_ble_eq_true rfl) dL_law_920 ?_
  refine i_icmp_eq hC (tgt := 1202) dL_law_923 (by decide) (fun _ => ?_) (fun z9 => absurd rfl z9)
  exact Mw.less (by omega) (Mj.to (k S hmono) ⟨rfl, rfl, rfl, rfl, trivial⟩)
set_option maxHeartbeats 4000000 in
set_option maxRecDepth 100000 in
theorem law_28 {v : EV} {p : Program} {l : Launch} {e : Env} {s : State} {m : MethodId} {args : Array Value} {below : List Frame} {meth : Method} {c : Code} {Q : State → Prop} {qb b L J n : Nat} {xs : Nat → Int32} {S : Mem} {Inv : Nat → Mem → Prop} (hC : Cx v p l e s m args meth c RL cL_law 8 (some .boolean)) (hX : va_X b L xs s s.heap ∧ b < s.heap.size ∧ ¬ eG v b) (hP : LawP Inv) (hn : n < 512) (hI : Inv n S) (hL : L < 2 ^ 31) (hJ : J + 4 ≤ L) (hq : 50 ≤ qb) (k : ∀ S2, Inv (n + 1) S2 → Mj v p l e room_1 s m args below meth c 8 Q (qb - 50) S2 1202 [(0, .ref b), (1, .ref (eA v 198)), (2, .ref (eA v 218)), (3, .int (nI J))] []) : Mj v p l e room_1 s m args below meth c 8 Q qb S 928 [(0, .ref b), (1, .ref (eA v 198)), (2, .ref (eA v 218)), (3, .int (nI J))] [] := by
  have hmono := hP.1 n S hI
  obtain ⟨r, h1, h2⟩ := hP.ranked n S hn hI (xs (J + 1))
  refine i_aload_n hC dL_law_928 rfl ?_
  refine i_aload_n hC dL_law_929 rfl ?_
  refine i_iload_n hC dL_law_930 rfl ?_
  refine i_iconst hC (x := nI 1) dL_law_931 (by decide) ?_
  refine i_iadd hC dL_law_932 ?_
  rw [nI_a]
  refine i_sld hC hX (by omega) hL dL_law_933 ?_
  refine i_callVi hC mv_L_133 (c_X8_ranked hC.2.2.2.2.2.2.2.1 h1) (pln rfl) lay_p198 rfl rfl rfl rfl ⟨by decide, by decide⟩ (Nat.le_of_ble_eq_true rfl) dL_law_934 ?_
  refine i_aload_n hC dL_law_937 rfl ?_
  refine i_aload_n hC dL_law_938 rfl ?_
  refine i_iload_n hC dL_law_939 rfl ?_
  refine i_iconst hC (x := nI 1) dL_law_940 (by decide) ?_
  refine i_iadd hC dL_law_941 ?_
  rw [nI_a]
  refine i_sld hC hX (by omega) hL dL_law_942 ?_
  refine i_callVi hC mv_L_136 (c_X9_ranked hC.2.2.2.2.2.2.2.1 h2) (pln rfl) lay_p218 rfl rfl rfl rfl ⟨by decide, by decide⟩ (Nat.le_of_ble_eq_true rfl) dL_law_943 ?_
  refine i_icmp_eq hC (tgt := 1202) dL_law_946 (by decide) (fun _ => ?_) (fun z9 => absurd rfl z9)
  exact Mw.less (by omega) (Mj.to (k S hmono) ⟨rfl, rfl, rfl, rfl, trivial⟩)
set_option maxHeartbeats 4000000 in
set_option maxRecDepth 100000 in
theorem law_29 {v : EV} {p : Program} {l : Launch} {e : Env} {s : State} {m : MethodId} {args : Array Value} {below : List Frame} {meth : Method} {c : Code} {Q : State → Prop} {qb b L J n : Nat} {xs : Nat → Int32} {S : Mem} {Inv : Nat → Mem → Prop} (hC : Cx v p l e s m args meth c RL cL_law 8 (some .boolean)) (hX : va_X b L xs s s.heap ∧ b < s.heap.size ∧ ¬ eG v b) (hP : LawP Inv) (hn : n < 512) (hI : Inv n S) (hL : L < 2 ^ 31) (hJ : J + 4 ≤ L) (hq : 50 ≤ qb) (k : ∀ S2, Inv (n + 1) S2 → Mj v p l e room_1 s m args below meth c 8 Q (qb - 50) S2 1202 [(0, .ref b), (1, .ref (eA v 198)), (2, .ref (eA v 218)), (3, .int (nI J))] []) : Mj v p l e room_1 s m args below meth c 8 Q qb S 951 [(0, .ref b), (1, .ref (eA v 198)), (2, .ref (eA v 218)), (3, .int (nI J))] [] := by
  have hmono := hP.1 n S hI
  obtain ⟨r, h1, h2⟩ := hP.oldest n S hn hI (xs (J + 1))
  refine i_aload_n hC dL_law_951 rfl ?_
  refine i_aload_n hC dL_law_952 rfl ?_
  refine i_iload_n hC dL_law_953 rfl ?_
  refine i_iconst hC (x := nI 1) dL_law_954 (by decide) ?_
  refine i_iadd hC dL_law_955 ?_
  rw [nI_a]
  refine i_sld hC hX (by omega) hL dL_law_956 ?_
  refine i_callVi hC mv_L_137 (c_X8_oldest hC.2.2.2.2.2.2.2.1 h1) (pln rfl) lay_p198 rfl rfl rfl rfl ⟨by decide, by decide⟩ (Nat.le_of_ble_eq_true rfl) dL_law_957 ?_
  refine i_aload_n hC dL_law_960 rfl ?_
  refine i_aload_n hC dL_law_961 rfl ?_
  refine i_iload_n hC dL_law_962 rfl ?_
  refine i_iconst hC (x := nI 1) dL_law_963 (by decide) ?_
  refine i_iadd hC dL_law_964 ?_
  rw [nI_a]
  refine i_sld hC hX (by omega) hL dL_law_965 ?_
  refine i_callVi hC mv_L_140 (c_X9_oldest hC.2.2.2.2.2.2.2.1 h2) (pln rfl) lay_p218 rfl rfl rfl rfl ⟨by decide, by decide⟩ (Nat.le_of_ble_eq_true rfl) dL_law_966 ?_
  refine i_icmp_eq hC (tgt := 1202) dL_law_969 (by decide) (fun _ => ?_) (fun z9 => absurd rfl z9)
  exact Mw.less (by omega) (Mj.to (k S hmono) ⟨rfl, rfl, rfl, rfl, trivial⟩)
set_option maxHeartbeats 4000000 in
set_option maxRecDepth 100000 in
theorem law_30 {v : EV} {p : Program} {l : Launch} {e : Env} {s : State} {m : MethodId} {args : Array Value} {below : List Frame} {meth : Method} {c : Code} {Q : State → Prop} {qb b L J n : Nat} {xs : Nat → Int32} {S : Mem} {Inv : Nat → Mem → Prop} (hC : Cx v p l e s m args meth c RL cL_law 8 (some .boolean)) (hX : va_X b L xs s s.heap ∧ b < s.heap.size ∧ ¬ eG v b) (hP : LawP Inv) (hn : n < 512) (hI : Inv n S) (hL : L < 2 ^ 31) (hJ : J + 4 ≤ L) (hq : 50 ≤ qb) (k : ∀ S2, Inv (n + 1) S2 → Mj v p l e room_1 s m args below meth c 8 Q (qb - 50) S2 1202 [(0, .ref b), (1, .ref (eA v 198)), (2, .ref (eA v 218)), (3, .int (nI J))] []) : Mj v p l e room_1 s m args below meth c 8 Q qb S 974 [(0, .ref b), (1, .ref (eA v 198)), (2, .ref (eA v 218)), (3, .int (nI J))] [] := by
  have hmono := hP.1 n S hI
  obtain ⟨r, S1, S2, h1, h2, h3⟩ := hP.quietBeats n S hn hI
  refine i_aload_n hC dL_law_974 rfl ?_
  refine i_callVi hC mv_L_141 (c_X8_quietBeats hC.2.2.2.2.2.2.2.1 h1) (pln rfl) lay_p198 rfl rfl rfl rfl ⟨by decide, by decide⟩ (Nat.le_of_ble_eq_true rfl) dL_law_975 ?_
  refine i_aload_n hC dL_law_978 rfl ?_
  refine i_callVi hC mv_L_144 (c_X9_quietBeats hC.2.2.2.2.2.2.2.1 h2) (pln rfl) lay_p218 rfl rfl rfl rfl ⟨by decide, by decide⟩ (Nat.le_of_ble_eq_true rfl) dL_law_979 ?_
  refine i_icmp_eq hC (tgt := 1202) dL_law_982 (by decide) (fun _ => ?_) (fun z9 => absurd rfl z9)
  exact Mw.less (by omega) (Mj.to (k S2 h3) ⟨rfl, rfl, rfl, rfl, trivial⟩)
set_option maxHeartbeats 4000000 in
set_option maxRecDepth 100000 in
theorem law_31 {v : EV} {p : Program} {l : Launch} {e : Env} {s : State} {m : MethodId} {args : Array Value} {below : List Frame} {meth : Method} {c : Code} {Q : State → Prop} {qb b L J n : Nat} {xs : Nat → Int32} {S : Mem} {Inv : Nat → Mem → Prop} (hC : Cx v p l e s m args meth c RL cL_law 8 (some .boolean)) (hX : va_X b L xs s s.heap ∧ b < s.heap.size ∧ ¬ eG v b) (hP : LawP Inv) (hn : n < 512) (hI : Inv n S) (hL : L < 2 ^ 31) (hJ : J + 4 ≤ L) (hq : 50 ≤ qb) (k : ∀ S2, Inv (n + 1) S2 → Mj v p l e room_1 s m args below meth c 8 Q (qb - 50) S2 1202 [(0, .ref b), (1, .ref (eA v 198)), (2, .ref (eA v 218)), (3, .int (nI J))] []) : Mj v p l e room_1 s m args below meth c 8 Q qb S 987 [(0, .ref b), (1, .ref (eA v 198)), (2, .ref (eA v 218)), (3, .int (nI J))] [] := by
  have hmono := hP.1 n S hI
  obtain ⟨r, S1, S2, h1, h2, h3⟩ := hP.tell n S hn hI (xs (J + 1))
  refine i_aload_n hC dL_law_987 rfl ?_
  refine i_aload_n hC dL_law_988 rfl ?_
  refine i_iload_n hC dL_law_989 rfl ?_
  refine i_iconst hC (x := nI 1) dL_law_990 (by decide) ?_
  refine i_iadd hC dL_law_991 ?_
  rw [nI_a]
  refine i_sld hC hX (by omega) hL dL_law_992 ?_
  obtain ⟨q1, rfl⟩ : ∃ z, qb = z + 43 := ⟨qb - 43, by omega⟩
  refine i_callVi hC mv_L_145 (c_X8_tell hC.2.2.2.2.2.2.2.1 h1) (pln rfl) lay_p198 rfl rfl rfl rfl ⟨by decide, by decide⟩ (Nat.le_of_ble_eq_true rfl) dL_law_993 ?_
  refine i_aload_n hC dL_law_996 rfl ?_
  refine i_aload_n hC dL_law_997 rfl ?_
  refine i_iload_n hC dL_law_998 rfl ?_
  refine i_iconst hC (x := nI 1) dL_law_999 (by decide) ?_
  refine i_iadd hC dL_law_1000 ?_
  rw [nI_a]
  refine i_sld hC hX (by omega) hL dL_law_1001 ?_
  refine i_callVi hC mv_L_148 (c_X9_tell hC.2.2.2.2.2.2.2.1 h2) (pln rfl) lay_p218 rfl rfl rfl rfl ⟨by decide, by decide⟩ (Nat.le_of_ble_eq_true rfl) dL_law_1002 ?_
  refine i_icmp_eq hC (tgt := 1202) dL_law_1005 (by decide) (fun _ => ?_) (fun z9 => absurd rfl z9)
  exact Mw.less (by omega) (Mj.to (k S2 h3) ⟨rfl, rfl, rfl, rfl, trivial⟩)
set_option maxHeartbeats 4000000 in
set_option maxRecDepth 100000 in
theorem law_32 {v : EV} {p : Program} {l : Launch} {e : Env} {s : State} {m : MethodId} {args : Array Value} {below : List Frame} {meth : Method} {c : Code} {Q : State → Prop} {qb b L J n : Nat} {xs : Nat → Int32} {S : Mem} {Inv : Nat → Mem → Prop} (hC : Cx v p l e s m args meth c RL cL_law 8 (some .boolean)) (hX : va_X b L xs s s.heap ∧ b < s.heap.size ∧ ¬ eG v b) (hP : LawP Inv) (hn : n < 512) (hI : Inv n S) (hL : L < 2 ^ 31) (hJ : J + 4 ≤ L) (hq : 50 ≤ qb) (k : ∀ S2, Inv (n + 1) S2 → Mj v p l e room_1 s m args below meth c 8 Q (qb - 50) S2 1202 [(0, .ref b), (1, .ref (eA v 198)), (2, .ref (eA v 218)), (3, .int (nI J))] []) : Mj v p l e room_1 s m args below meth c 8 Q qb S 1010 [(0, .ref b), (1, .ref (eA v 198)), (2, .ref (eA v 218)), (3, .int (nI J))] [] := by
  have hmono := hP.1 n S hI
  obtain ⟨r, S1, S2, h1, h2, h3⟩ := hP.tellVotes n S hn hI (xs (J + 1))
  refine i_aload_n hC dL_law_1010 rfl ?_
  refine i_aload_n hC dL_law_1011 rfl ?_
  refine i_iload_n hC dL_law_1012 rfl ?_
  refine i_iconst hC (x := nI 1) dL_law_1013 (by decide) ?_
  refine i_iadd hC dL_law_1014 ?_
  rw [nI_a]
  refine i_sld hC hX (by omega) hL dL_law_1015 ?_
  obtain ⟨q1, rfl⟩ : ∃ z, qb = z + 13 := ⟨qb - 13, by omega⟩
  refine i_callVi hC mv_L_149 (c_X8_tellVotes hC.2.2.2.2.2.2.2.1 h1) (pln rfl) lay_p198 rfl rfl rfl rfl ⟨by decide, by decide⟩ (Nat.le_of_ble_eq_true rfl) dL_law_1016 ?_
  refine i_aload_n hC dL_law_1019 rfl ?_
  refine i_aload_n hC dL_law_1020 rfl ?_
  refine i_iload_n hC dL_law_1021 rfl ?_
  refine i_iconst hC (x := nI 1) dL_law_1022 (by decide) ?_
  refine i_iadd hC dL_law_1023 ?_
  rw [nI_a]
  refine i_sld hC hX (by omega) hL dL_law_1024 ?_
  refine i_callVi hC mv_L_152 (c_X9_tellVotes hC.2.2.2.2.2.2.2.1 h2) (pln rfl) lay_p218 rfl rfl rfl rfl ⟨by decide, by decide⟩ (Nat.le_of_ble_eq_true rfl) dL_law_1025 ?_
  refine i_icmp_eq hC (tgt := 1202) dL_law_1028 (by decide) (fun _ => ?_) (fun z9 => absurd rfl z9)
  exact Mw.less (by omega) (Mj.to (k S2 h3) ⟨rfl, rfl, rfl, rfl, trivial⟩)
set_option maxHeartbeats 4000000 in
set_option maxRecDepth 100000 in
theorem law_33 {v : EV} {p : Program} {l : Launch} {e : Env} {s : State} {m : MethodId} {args : Array Value} {below : List Frame} {meth : Method} {c : Code} {Q : State → Prop} {qb b L J n : Nat} {xs : Nat → Int32} {S : Mem} {Inv : Nat → Mem → Prop} (hC : Cx v p l e s m args meth c RL cL_law 8 (some .boolean)) (hX : va_X b L xs s s.heap ∧ b < s.heap.size ∧ ¬ eG v b) (hP : LawP Inv) (hn : n < 512) (hI : Inv n S) (hL : L < 2 ^ 31) (hJ : J + 4 ≤ L) (hq : 50 ≤ qb) (k : ∀ S2, Inv (n + 1) S2 → Mj v p l e room_1 s m args below meth c 8 Q (qb - 50) S2 1202 [(0, .ref b), (1, .ref (eA v 198)), (2, .ref (eA v 218)), (3, .int (nI J))] []) : Mj v p l e room_1 s m args below meth c 8 Q qb S 1033 [(0, .ref b), (1, .ref (eA v 198)), (2, .ref (eA v 218)), (3, .int (nI J))] [] := by
  have hmono := hP.1 n S hI
  obtain ⟨r, h1, h2⟩ := hP.written n S hn hI (xs (J + 1))
  refine i_aload_n hC dL_law_1033 rfl ?_
  refine i_aload_n hC dL_law_1034 rfl ?_
  refine i_iload_n hC dL_law_1035 rfl ?_
  refine i_iconst hC (x := nI 1) dL_law_1036 (by decide) ?_
  refine i_iadd hC dL_law_1037 ?_
  rw [nI_a]
  refine i_sld hC hX (by omega) hL dL_law_1038 ?_
  refine i_callVi hC mv_L_153 (c_X8_written hC.2.2.2.2.2.2.2.1 h1) (pln rfl) lay_p198 rfl rfl rfl rfl ⟨by decide, by decide⟩ (Nat.le_of_ble_eq_true rfl) dL_law_1039 ?_
  refine i_aload_n hC dL_law_1042 rfl ?_
  refine i_aload_n hC dL_law_1043 rfl ?_
  refine i_iload_n hC dL_law_1044 rfl ?_
  refine i_iconst hC (x := nI 1) dL_law_1045 (by decide) ?_
  refine i_iadd hC dL_law_1046 ?_
  rw [nI_a]
  refine i_sld hC hX (by omega) hL dL_law_1047 ?_
  refine i_callVi hC mv_L_156 (c_X9_written hC.2.2.2.2.2.2.2.1 h2) (pln rfl) lay_p218 rfl rfl rfl rfl ⟨by decide, by decide⟩ (Nat.le_of_ble_eq_true rfl) dL_law_1048 ?_
  refine i_icmp_eq hC (tgt := 1202) dL_law_1051 (by decide) (fun _ => ?_) (fun z9 => absurd rfl z9)
  exact Mw.less (by omega) (Mj.to (k S hmono) ⟨rfl, rfl, rfl, rfl, trivial⟩)
set_option maxHeartbeats 4000000 in
set_option maxRecDepth 100000 in
theorem law_34 {v : EV} {p : Program} {l : Launch} {e : Env} {s : State} {m : MethodId} {args : Array Value} {below : List Frame} {meth : Method} {c : Code} {Q : State → Prop} {qb b L J n : Nat} {xs : Nat → Int32} {S : Mem} {Inv : Nat → Mem → Prop} (hC : Cx v p l e s m args meth c RL cL_law 8 (some .boolean)) (hX : va_X b L xs s s.heap ∧ b < s.heap.size ∧ ¬ eG v b) (hP : LawP Inv) (hn : n < 512) (hI : Inv n S) (hL : L < 2 ^ 31) (hJ : J + 4 ≤ L) (hq : 50 ≤ qb) (k : ∀ S2, Inv (n + 1) S2 → Mj v p l e room_1 s m args below meth c 8 Q (qb - 50) S2 1202 [(0, .ref b), (1, .ref (eA v 198)), (2, .ref (eA v 218)), (3, .int (nI J))] []) : Mj v p l e room_1 s m args below meth c 8 Q qb S 1056 [(0, .ref b), (1, .ref (eA v 198)), (2, .ref (eA v 218)), (3, .int (nI J))] [] := by
  have hmono := hP.1 n S hI
  obtain ⟨r, h1, h2, h3⟩ := hP.meanTale n S hn hI
  refine i_aload_n hC dL_law_1056 rfl ?_
  refine i_callVi hC mv_L_157 (c_X8_meanTale hC.2.2.2.2.2.2.2.1 h1) (pln rfl) lay_p198 rfl rfl rfl rfl ⟨by decide, by decide⟩ (Nat.le_of_ble_eq_true rfl) dL_law_1057 ?_
  refine i_f2d hC h3 dL_law_1060 ?_
  refine i_dstore hC dL_law_1061 (by decide) ?_
  refine i_aload_n hC dL_law_1063 rfl ?_
  refine i_callVi hC mv_L_161 (c_X9_meanTale hC.2.2.2.2.2.2.2.1 h2) (pln rfl) lay_p218 rfl rfl rfl rfl ⟨by decide, by decide⟩ (Nat.le_of_ble_eq_true rfl) dL_law_1064 ?_
  refine i_f2d hC h3 dL_law_1067 ?_
  refine i_dstore hC dL_law_1068 (by decide) ?_
  refine i_dload hC dL_law_1070 rfl ?_
  refine i_dload hC dL_law_1072 rfl ?_
  refine i_dcmp hC dL_law_1074 ?_
  refine i_if_eq hC (tgt := 1096) dL_law_1075 (by decide) (fun c1 => ?_) (fun c1 => ?_)
  · refine i_goto hC (tgt := 1202) dL_law_1096 (by decide) ?_
    exact Mw.less (by omega) (Mj.to (k S hmono) ⟨rfl, rfl, rfl, rfl, trivial⟩)
  · refine i_dload hC dL_law_1078 rfl ?_
    refine i_dload hC dL_law_1080 rfl ?_
    refine i_dcmp hC dL_law_1082 ?_
    refine i_if_eq hC (tgt := 1094) dL_law_1083 (by decide) (fun z9 => absurd z9 c1) (fun _ => ?_)
    refine i_dload hC dL_law_1086 rfl ?_
    refine i_dload hC dL_law_1088 rfl ?_
    refine i_dcmp hC dL_law_1090 ?_
    refine i_if_ne hC (tgt := 1096) dL_law_1091 (by decide) (fun _ => ?_) (fun z9 => absurd z9 c1)
    refine i_goto hC (tgt := 1202) dL_law_1096 (by decide) ?_
    exact Mw.less (by omega) (Mj.to (k S hmono) ⟨rfl, rfl, rfl, rfl, trivial⟩)
set_option maxHeartbeats 4000000 in
set_option maxRecDepth 100000 in
theorem law_35 {v : EV} {p : Program} {l : Launch} {e : Env} {s : State} {m : MethodId} {args : Array Value} {below : List Frame} {meth : Method} {c : Code} {Q : State → Prop} {qb b L J n : Nat} {xs : Nat → Int32} {S : Mem} {Inv : Nat → Mem → Prop} (hC : Cx v p l e s m args meth c RL cL_law 8 (some .boolean)) (hX : va_X b L xs s s.heap ∧ b < s.heap.size ∧ ¬ eG v b) (hP : LawP Inv) (hn : n < 512) (hI : Inv n S) (hL : L < 2 ^ 31) (hJ : J + 4 ≤ L) (hq : 50 ≤ qb) (k : ∀ S2, Inv (n + 1) S2 → Mj v p l e room_1 s m args below meth c 8 Q (qb - 50) S2 1202 [(0, .ref b), (1, .ref (eA v 198)), (2, .ref (eA v 218)), (3, .int (nI J))] []) : Mj v p l e room_1 s m args below meth c 8 Q qb S 1099 [(0, .ref b), (1, .ref (eA v 198)), (2, .ref (eA v 218)), (3, .int (nI J))] [] := by
  have hmono := hP.1 n S hI
  obtain ⟨r, h1, h2⟩ := hP.agreedShare n S hn hI
  refine i_aload_n hC dL_law_1099 rfl ?_
  refine i_callVi hC mv_L_162 (c_X8_agreedShare hC.2.2.2.2.2.2.2.1 h1) (pln rfl) lay_p198 rfl rfl rfl rfl ⟨by decide, by decide⟩ (Nat.le_of_ble_eq_true rfl) dL_law_1100 ?_
  refine i_dstore hC dL_law_1103 (by decide) ?_
  refine i_aload_n hC dL_law_1105 rfl ?_
  refine i_callVi hC mv_L_166 (c_X9_agreedShare hC.2.2.2.2.2.2.2.1 h2) (pln rfl) lay_p218 rfl rfl rfl rfl ⟨by decide, by decide⟩ (Nat.le_of_ble_eq_true rfl) dL_law_1106 ?_
  refine i_dstore hC dL_law_1109 (by decide) ?_
  refine i_dload hC dL_law_1111 rfl ?_
  refine i_dload hC dL_law_1113 rfl ?_
  refine i_dcmp hC dL_law_1115 ?_
  refine i_if_eq hC (tgt := 1137) dL_law_1116 (by decide) (fun c1 => ?_) (fun c1 => ?_)
  · refine i_goto hC (tgt := 1202) dL_law_1137 (by decide) ?_
    exact Mw.less (by omega) (Mj.to (k S hmono) ⟨rfl, rfl, rfl, rfl, trivial⟩)
  · refine i_dload hC dL_law_1119 rfl ?_
    refine i_dload hC dL_law_1121 rfl ?_
    refine i_dcmp hC dL_law_1123 ?_
    refine i_if_eq hC (tgt := 1135) dL_law_1124 (by decide) (fun z9 => absurd z9 c1) (fun _ => ?_)
    refine i_dload hC dL_law_1127 rfl ?_
    refine i_dload hC dL_law_1129 rfl ?_
    refine i_dcmp hC dL_law_1131 ?_
    refine i_if_ne hC (tgt := 1137) dL_law_1132 (by decide) (fun _ => ?_) (fun z9 => absurd z9 c1)
    refine i_goto hC (tgt := 1202) dL_law_1137 (by decide) ?_
    exact Mw.less (by omega) (Mj.to (k S hmono) ⟨rfl, rfl, rfl, rfl, trivial⟩)
set_option maxHeartbeats 4000000 in
set_option maxRecDepth 100000 in
theorem law_36 {v : EV} {p : Program} {l : Launch} {e : Env} {s : State} {m : MethodId} {args : Array Value} {below : List Frame} {meth : Method} {c : Code} {Q : State → Prop} {qb b L J n : Nat} {xs : Nat → Int32} {S : Mem} {Inv : Nat → Mem → Prop} (hC : Cx v p l e s m args meth c RL cL_law 8 (some .boolean)) (hX : va_X b L xs s s.heap ∧ b < s.heap.size ∧ ¬ eG v b) (hP : LawP Inv) (hn : n < 512) (hI : Inv n S) (hL : L < 2 ^ 31) (hJ : J + 4 ≤ L) (hq : 50 ≤ qb) (k : ∀ S2, Inv (n + 1) S2 → Mj v p l e room_1 s m args below meth c 8 Q (qb - 50) S2 1202 [(0, .ref b), (1, .ref (eA v 198)), (2, .ref (eA v 218)), (3, .int (nI J))] []) : Mj v p l e room_1 s m args below meth c 8 Q qb S 1140 [(0, .ref b), (1, .ref (eA v 198)), (2, .ref (eA v 218)), (3, .int (nI J))] [] := by
  have hmono := hP.1 n S hI
  obtain ⟨r, h1, h2⟩ := hP.account n S hn hI (xs (J + 1))
  refine i_aload_n hC dL_law_1140 rfl ?_
  refine i_aload_n hC dL_law_1141 rfl ?_
  refine i_iload_n hC dL_law_1142 rfl ?_
  refine i_iconst hC (x := nI 1) dL_law_1143 (by decide) ?_
  refine i_iadd hC dL_law_1144 ?_
  rw [nI_a]
  refine i_sld hC hX (by omega) hL dL_law_1145 ?_
  refine i_callVi hC mv_L_167 (c_X8_account hC.2.2.2.2.2.2.2.1 h1) (pln rfl) lay_p198 rfl rfl rfl rfl ⟨by decide, by decide⟩ (Nat.le_of_ble_eq_true rfl) dL_law_1146 ?_
  refine i_aload_n hC dL_law_1149 rfl ?_
  refine i_aload_n hC dL_law_1150 rfl ?_
  refine i_iload_n hC dL_law_1151 rfl ?_
  refine i_iconst hC (x := nI 1) dL_law_1152 (by decide) ?_
  refine i_iadd hC dL_law_1153 ?_
  rw [nI_a]
  refine i_sld hC hX (by omega) hL dL_law_1154 ?_
  refine i_callVi hC mv_L_170 (c_X9_account hC.2.2.2.2.2.2.2.1 h2) (pln rfl) lay_p218 rfl rfl rfl rfl ⟨by decide, by decide⟩ (Nat.le_of_ble_eq_true rfl) dL_law_1155 ?_
  refine i_icmp_eq hC (tgt := 1202) dL_law_1158 (by decide) (fun _ => ?_) (fun z9 => absurd rfl z9)
  exact Mw.less (by omega) (Mj.to (k S hmono) ⟨rfl, rfl, rfl, rfl, trivial⟩)
set_option maxHeartbeats 4000000 in
set_option maxRecDepth 100000 in
theorem law_37 {v : EV} {p : Program} {l : Launch} {e : Env} {s : State} {m : MethodId} {args : Array Value} {below : List Frame} {meth : Method} {c : Code} {Q : State → Prop} {qb b L J n : Nat} {xs : Nat → Int32} {S : Mem} {Inv : Nat → Mem → Prop} (hC : Cx v p l e s m args meth c RL cL_law 8 (some .boolean)) (hX : va_X b L xs s s.heap ∧ b < s.heap.size ∧ ¬ eG v b) (hP : LawP Inv) (hn : n < 512) (hI : Inv n S) (hL : L < 2 ^ 31) (hJ : J + 4 ≤ L) (hq : 50 ≤ qb) (k : ∀ S2, Inv (n + 1) S2 → Mj v p l e room_1 s m args below meth c 8 Q (qb - 50) S2 1202 [(0, .ref b), (1, .ref (eA v 198)), (2, .ref (eA v 218)), (3, .int (nI J))] []) : Mj v p l e room_1 s m args below meth c 8 Q qb S 1163 [(0, .ref b), (1, .ref (eA v 198)), (2, .ref (eA v 218)), (3, .int (nI J))] [] := by
  have hmono := hP.1 n S hI
  obtain ⟨r, S1, S2, h1, h2, h3⟩ := hP.undo n S hn hI
  refine i_aload_n hC dL_law_1163 rfl ?_
  refine i_callVi hC mv_L_171 (c_X8_undo hC.2.2.2.2.2.2.2.1 h1) (pln rfl) lay_p198 rfl rfl rfl rfl ⟨by decide, by decide⟩ (Nat.le_of_ble_eq_true rfl) dL_law_1164 ?_
  refine i_aload_n hC dL_law_1167 rfl ?_
  refine i_callVi hC mv_L_174 (c_X9_undo hC.2.2.2.2.2.2.2.1 h2) (pln rfl) lay_p218 rfl rfl rfl rfl ⟨by decide, by decide⟩ (Nat.le_of_ble_eq_true rfl) dL_law_1168 ?_
  refine i_icmp_eq hC (tgt := 1202) dL_law_1171 (by decide) (fun _ => ?_) (fun z9 => absurd rfl z9)
  exact Mw.less (by omega) (Mj.to (k S2 h3) ⟨rfl, rfl, rfl, rfl, trivial⟩)
set_option maxHeartbeats 4000000 in
set_option maxRecDepth 100000 in
theorem law_38 {v : EV} {p : Program} {l : Launch} {e : Env} {s : State} {m : MethodId} {args : Array Value} {below : List Frame} {meth : Method} {c : Code} {Q : State → Prop} {qb b L J n : Nat} {xs : Nat → Int32} {S : Mem} {Inv : Nat → Mem → Prop} (hC : Cx v p l e s m args meth c RL cL_law 8 (some .boolean)) (hX : va_X b L xs s s.heap ∧ b < s.heap.size ∧ ¬ eG v b) (hP : LawP Inv) (hn : n < 512) (hI : Inv n S) (hL : L < 2 ^ 31) (hJ : J + 4 ≤ L) (hq : 50 ≤ qb) (k : ∀ S2, Inv (n + 1) S2 → Mj v p l e room_1 s m args below meth c 8 Q (qb - 50) S2 1202 [(0, .ref b), (1, .ref (eA v 198)), (2, .ref (eA v 218)), (3, .int (nI J))] []) : Mj v p l e room_1 s m args below meth c 8 Q qb S 1176 [(0, .ref b), (1, .ref (eA v 198)), (2, .ref (eA v 218)), (3, .int (nI J))] [] := by
  have hmono := hP.1 n S hI
  obtain ⟨r, S1, S2, h1, h2, h3⟩ := hP.save n S hn hI
  refine i_aload_n hC dL_law_1176 rfl ?_
  refine i_callVi hC mv_L_175 (c_X8_save hC.2.2.2.2.2.2.2.1 h1) (pln rfl) lay_p198 rfl rfl rfl rfl ⟨by decide, by decide⟩ (Nat.le_of_ble_eq_true rfl) dL_law_1177 ?_
  refine i_aload_n hC dL_law_1180 rfl ?_
  refine i_callVi hC mv_L_178 (c_X9_save hC.2.2.2.2.2.2.2.1 h2) (pln rfl) lay_p218 rfl rfl rfl rfl ⟨by decide, by decide⟩ (Nat.le_of_ble_eq_true rfl) dL_law_1181 ?_
  refine i_icmp_eq hC (tgt := 1202) dL_law_1184 (by decide) (fun _ => ?_) (fun z9 => absurd rfl z9)
  exact Mw.less (by omega) (Mj.to (k S2 h3) ⟨rfl, rfl, rfl, rfl, trivial⟩)
set_option maxHeartbeats 4000000 in
set_option maxRecDepth 100000 in
theorem law_39 {v : EV} {p : Program} {l : Launch} {e : Env} {s : State} {m : MethodId} {args : Array Value} {below : List Frame} {meth : Method} {c : Code} {Q : State → Prop} {qb b L J n : Nat} {xs : Nat → Int32} {S : Mem} {Inv : Nat → Mem → Prop} (hC : Cx v p l e s m args meth c RL cL_law 8 (some .boolean)) (hX : va_X b L xs s s.heap ∧ b < s.heap.size ∧ ¬ eG v b) (hP : LawP Inv) (hn : n < 512) (hI : Inv n S) (hL : L < 2 ^ 31) (hJ : J + 4 ≤ L) (hq : 50 ≤ qb) (k : ∀ S2, Inv (n + 1) S2 → Mj v p l e room_1 s m args below meth c 8 Q (qb - 50) S2 1202 [(0, .ref b), (1, .ref (eA v 198)), (2, .ref (eA v 218)), (3, .int (nI J))] []) : Mj v p l e room_1 s m args below meth c 8 Q qb S 1189 [(0, .ref b), (1, .ref (eA v 198)), (2, .ref (eA v 218)), (3, .int (nI J))] [] := by
  have hmono := hP.1 n S hI
  obtain ⟨r, S1, S2, h1, h2, h3⟩ := hP.restore n S hn hI
  refine i_aload_n hC dL_law_1189 rfl ?_
  refine i_callVi hC mv_L_179 (c_X8_restore hC.2.2.2.2.2.2.2.1 h1) (pln rfl) lay_p198 rfl rfl rfl rfl ⟨by decide, by decide⟩ (Nat.le_of_ble_eq_true rfl) dL_law_1190 ?_
  refine i_aload_n hC dL_law_1193 rfl ?_
  refine i_callVi hC mv_L_182 (c_X9_restore hC.2.2.2.2.2.2.2.1 h2) (pln rfl) lay_p218 rfl rfl rfl rfl ⟨by decide, by decide⟩ (Nat.le_of_ble_eq_true rfl) dL_law_1194 ?_
  refine i_icmp_eq hC (tgt := 1202) dL_law_1197 (by decide) (fun _ => ?_) (fun z9 => absurd rfl z9)
  exact Mw.less (by omega) (Mj.to (k S2 h3) ⟨rfl, rfl, rfl, rfl, trivial⟩)
