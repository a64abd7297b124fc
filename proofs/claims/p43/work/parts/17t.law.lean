theorem mw_244 : Cond.methodLink RL 163 yX8_couldLead ∈ TW := tw_of (i := 244) (by decide +kernel) rfl
theorem mw_245 : Cond.instanceMethod yX8_couldLead ∈ TW := tw_of (i := 245) (by decide +kernel) rfl
theorem mw_246 : Cond.selects RX8 yX8_couldLead yX8_couldLead ∈ TW := tw_of (i := 246) (by decide +kernel) rfl
theorem mw_247 : Cond.code yX8_couldLead cX8_couldLead 3 (some .int) ∈ TW := tw_of (i := 247) (by decide +kernel) rfl
theorem mw_260 : Cond.methodLink RL 166 yX8_couldLeadAgain ∈ TW := tw_of (i := 260) (by decide +kernel) rfl
theorem mw_261 : Cond.instanceMethod yX8_couldLeadAgain ∈ TW := tw_of (i := 261) (by decide +kernel) rfl
theorem mw_262 : Cond.selects RX8 yX8_couldLeadAgain yX8_couldLeadAgain ∈ TW := tw_of (i := 262) (by decide +kernel) rfl
theorem mw_263 : Cond.code yX8_couldLeadAgain cX8_couldLeadAgain 4 (some .int) ∈ TW := tw_of (i := 263) (by decide +kernel) rfl
theorem mw_264 : Cond.methodLink RL 169 yX8_conflicts ∈ TW := tw_of (i := 264) (by decide +kernel) rfl
theorem mw_265 : Cond.instanceMethod yX8_conflicts ∈ TW := tw_of (i := 265) (by decide +kernel) rfl
theorem mw_266 : Cond.selects RX8 yX8_conflicts yX8_conflicts ∈ TW := tw_of (i := 266) (by decide +kernel) rfl
theorem mw_267 : Cond.code yX8_conflicts cX8_conflicts 4 (some .int) ∈ TW := tw_of (i := 267) (by decide +kernel) rfl
theorem mw_274 : Cond.methodLink RL 160 yX8_quietBeats ∈ TW := tw_of (i := 274) (by decide +kernel) rfl
theorem mw_275 : Cond.instanceMethod yX8_quietBeats ∈ TW := tw_of (i := 275) (by decide +kernel) rfl
theorem mw_276 : Cond.selects RX8 yX8_quietBeats yX8_quietBeats ∈ TW := tw_of (i := 276) (by decide +kernel) rfl
theorem mw_277 : Cond.code yX8_quietBeats cX8_quietBeats 2 (some .int) ∈ TW := tw_of (i := 277) (by decide +kernel) rfl
theorem mw_299 : Cond.methodLink RL 154 yX8_undo ∈ TW := tw_of (i := 299) (by decide +kernel) rfl
theorem mw_300 : Cond.instanceMethod yX8_undo ∈ TW := tw_of (i := 300) (by decide +kernel) rfl
theorem mw_301 : Cond.selects RX8 yX8_undo yX8_undo ∈ TW := tw_of (i := 301) (by decide +kernel) rfl
theorem mw_302 : Cond.code yX8_undo cX8_undo 1 (some .int) ∈ TW := tw_of (i := 302) (by decide +kernel) rfl
theorem mw_307 : Cond.methodLink RL 157 yX8_save ∈ TW := tw_of (i := 307) (by decide +kernel) rfl
theorem mw_308 : Cond.instanceMethod yX8_save ∈ TW := tw_of (i := 308) (by decide +kernel) rfl
theorem mw_309 : Cond.selects RX8 yX8_save yX8_save ∈ TW := tw_of (i := 309) (by decide +kernel) rfl
theorem mw_310 : Cond.code yX8_save cX8_save 1 (some .int) ∈ TW := tw_of (i := 310) (by decide +kernel) rfl
theorem mw_311 : Cond.methodLink RL 172 yX8_restore ∈ TW := tw_of (i := 311) (by decide +kernel) rfl
theorem mw_312 : Cond.instanceMethod yX8_restore ∈ TW := tw_of (i := 312) (by decide +kernel) rfl
theorem mw_313 : Cond.selects RX8 yX8_restore yX8_restore ∈ TW := tw_of (i := 313) (by decide +kernel) rfl
theorem mw_314 : Cond.code yX8_restore cX8_restore 1 (some .int) ∈ TW := tw_of (i := 314) (by decide +kernel) rfl
theorem mw_599 : Cond.methodLink RL 146 yL_does ∈ TW := tw_of (i := 599) (by decide +kernel) rfl
theorem mw_600 : Cond.static yL_does ∈ TW := tw_of (i := 600) (by decide +kernel) rfl
theorem mw_601 : Cond.code yL_does cL_does 8 (some .int) ∈ TW := tw_of (i := 601) (by decide +kernel) rfl
theorem mw_988 : Cond.methodLink RL 142 yL_seen ∈ TW := tw_of (i := 988) (by decide +kernel) rfl
theorem mw_989 : Cond.static yL_seen ∈ TW := tw_of (i := 989) (by decide +kernel) rfl
theorem mw_990 : Cond.code yL_seen cL_seen 4 (some (.array .int)) ∈ TW := tw_of (i := 990) (by decide +kernel) rfl
theorem mw_1000 : Cond.methodLink RL 150 yL_areAlike ∈ TW := tw_of (i := 1000) (by decide +kernel) rfl
theorem mw_1001 : Cond.static yL_areAlike ∈ TW := tw_of (i := 1001) (by decide +kernel) rfl
theorem mw_1002 : Cond.code yL_areAlike cL_areAlike 3 (some .boolean) ∈ TW := tw_of (i := 1002) (by decide +kernel) rfl
theorem mw_1003 : Cond.methodLink RL 138 yL_isWell ∈ TW := tw_of (i := 1003) (by decide +kernel) rfl
theorem mw_1004 : Cond.static yL_isWell ∈ TW := tw_of (i := 1004) (by decide +kernel) rfl
theorem mw_1005 : Cond.code yL_isWell cL_isWell 13 (some .boolean) ∈ TW := tw_of (i := 1005) (by decide +kernel) rfl
theorem mv_L_142 : MS RL 142 yL_seen cL_seen 4 (some (.array .int)) 1 := ⟨gi_cons mw_988 (gi_cons mw_989 (gi_cons mw_25 (gi_cons mw_990 tw_good))), by decide +kernel⟩
theorem mv_L_150 : MS RL 150 yL_areAlike cL_areAlike 3 (some .boolean) 2 := ⟨gi_cons mw_1000 (gi_cons mw_1001 (gi_cons mw_25 (gi_cons mw_1002 tw_good))), by decide +kernel⟩
theorem mv_L_154 : MV RL 154 yX8_undo cX8_undo 1 (some .int) 0 := ⟨gi_cons mw_299 (gi_cons mw_300 (gi_cons mw_301 (gi_cons mw_26 (gi_cons mw_302 tw_good)))), by decide +kernel⟩
theorem mv_L_146 : MS RL 146 yL_does cL_does 8 (some .int) 3 := ⟨gi_cons mw_599 (gi_cons mw_600 (gi_cons mw_25 (gi_cons mw_601 tw_good))), by decide +kernel⟩
theorem mv_L_138 : MS RL 138 yL_isWell cL_isWell 13 (some .boolean) 1 := ⟨gi_cons mw_1003 (gi_cons mw_1004 (gi_cons mw_25 (gi_cons mw_1005 tw_good))), by decide +kernel⟩
theorem mv_L_157 : MV RL 157 yX8_save cX8_save 1 (some .int) 0 := ⟨gi_cons mw_307 (gi_cons mw_308 (gi_cons mw_309 (gi_cons mw_26 (gi_cons mw_310 tw_good)))), by decide +kernel⟩
theorem mv_L_160 : MV RL 160 yX8_quietBeats cX8_quietBeats 2 (some .int) 0 := ⟨gi_cons mw_274 (gi_cons mw_275 (gi_cons mw_276 (gi_cons mw_26 (gi_cons mw_277 tw_good)))), by decide +kernel⟩
theorem mv_L_163 : MV RL 163 yX8_couldLead cX8_couldLead 3 (some .int) 1 := ⟨gi_cons mw_244 (gi_cons mw_245 (gi_cons mw_246 (gi_cons mw_26 (gi_cons mw_247 tw_good)))), by decide +kernel⟩
theorem mv_L_166 : MV RL 166 yX8_couldLeadAgain cX8_couldLeadAgain 4 (some .int) 1 := ⟨gi_cons mw_260 (gi_cons mw_261 (gi_cons mw_262 (gi_cons mw_26 (gi_cons mw_263 tw_good)))), by decide +kernel⟩
theorem mv_L_169 : MV RL 169 yX8_conflicts cX8_conflicts 4 (some .int) 0 := ⟨gi_cons mw_264 (gi_cons mw_265 (gi_cons mw_266 (gi_cons mw_26 (gi_cons mw_267 tw_good)))), by decide +kernel⟩
theorem mv_L_172 : MV RL 172 yX8_restore cX8_restore 1 (some .int) 0 := ⟨gi_cons mw_311 (gi_cons mw_312 (gi_cons mw_313 (gi_cons mw_26 (gi_cons mw_314 tw_good)))), by decide +kernel⟩
/-! ===== the law ===== -/
def Seen (S : Mem) (f : Nat → Int32) : Prop := ∃ n A D mm L, SeenH S n A D mm L ∧ f = sO A D mm L n
/-- what is owed of the pure side -/
def LawH (sc : IY) (LI : Nat → Mem → Prop) : Prop :=
  (∃ r0, f_L_begun_10 Z0 sc (0 : Int32) = some r0 ∧ 0 ≤ r0.1 ∧ g_L_isWell r0.2 = some 1 ∧ LI 0 r0.2) ∧
  (∀ k S, k ≤ 24 → LI k S → ∃ f, Seen S f) ∧
  (∀ k S f, k < 24 → LI k S → Seen S f → ∃ (r : Int32 × Mem) (n : Nat), g_L_does S sc (nI (8 + 3 * k)) = some r ∧ r.1 ≠ -99 ∧ g_L_isWell r.2 = some 1 ∧ g_X8_account r.2 11 = some 0 ∧ (r.1 < 0 → Seen r.2 f) ∧ n ≤ 5 ∧ g_X8_account r.2 1 = some (nI n) ∧
    (∀ i, i < n → ∃ x y, g_X8_driverOf r.2 (nI i) 6 = some x ∧ f (12 + 36 * i + 6) ≤ x ∧ g_X8_driverOf r.2 (nI i) 1 = some y ∧ f (12 + 36 * i + 1) ≤ y) ∧ LI (k + 1) r.2 ∧ (0 ≤ r.1 → ∃ u S3, g_X8_undo r.2 = some (u, S3) ∧ 0 ≤ u ∧ Seen S3 f ∧ LI (k + 1) S3)) ∧
  (∀ S k, k < 24 → ∃ y, g_L_in S sc (nI (80 + k)) 5 = some y) ∧
  (∀ S f, LI 24 S → Seen S f → ∃ S1 t S2 q S3 c0 c1 cf S4 b S5 w S6 a S7, g_X8_save S = some (t, S1) ∧ g_X8_quietBeats S1 = some (q, S2) ∧ g_X8_couldLead S2 0 = some c0 ∧ g_X8_couldLeadAgain S2 1 = some (c1, S3) ∧ g_X8_conflicts S3 = some cf ∧ Seen S3 f ∧ g_X8_beats S3 5 = some (b, S4) ∧ g_X8_wash S4 0 = some (w, S5) ∧ g_X8_ask S5 1 = some (a, S6) ∧ g_X8_restore S6 = some (t, S7) ∧ Seen S7 f ∧ g_X8_account S7 12 = some 0 ∧ ¬ (q + c0 + c1 + cf + (b + w + a)) ≤ -999)
theorem alike_lp (S : Mem) (a b : Nat) (f : Nat → Int32) : ∀ j k : Nat, k + j = 220 → ∀ n : Nat, j < n → lp (fun ih2 s9 => f_L_areAlike_2_b ih2 S (a, 220, f) (b, 220, f) s9) n (nI k) = some 1 := by
  intro j
  induction j with
  | zero =>
    intro k hk n hn
    obtain ⟨n, rfl⟩ : ∃ z, n = z + 1 := ⟨n - 1, by omega⟩
    obtain rfl : k = 220 := by omega
    show f_L_areAlike_2_b (lp _ n) S (a, 220, f) (b, 220, f) (nI 220) = some 1
    unfold f_L_areAlike_2_b
    rw [if_pos (show Int32.ofNat 220 ≤ nI 220 by decide)]
  | succ j ih =>
    intro k hk n hn
    obtain ⟨n, rfl⟩ : ∃ z, n = z + 1 := ⟨n - 1, by omega⟩
    show f_L_areAlike_2_b (lp _ n) S (a, 220, f) (b, 220, f) (nI k) = some 1
    unfold f_L_areAlike_2_b
    have hk2 : ¬ Int32.ofNat 220 ≤ nI k := fun z => absurd ((nI_leI (a := 220) (b := k) (by decide) (by omega)).mp z) (by omega)
    have hin : inb (nI k) 220 = true := by
      unfold inb
      rw [nI_clamp (by omega), decide_eq_true (nI_pos' (by omega)), decide_eq_true (show k < 220 by omega)]
      rfl
    rw [if_neg hk2, ck_t _ hin, ck_t _ hin, if_pos rfl, show nI k + 1 = nI (k + 1) from nI_1 k]
    exact ih (k + 1) (by omega) n (by omega)
theorem alike_1 (S : Mem) (a b : Nat) (f : Nat → Int32) : g_L_areAlike S (a, 220, f) (b, 220, f) = some 1 := alike_lp S a b f 220 0 rfl 2000 (by decide)
theorem Mw.less {v : EV} {p : Program} {l : Launch} {e : Env} {R : Room} {s : State} {m : MethodId} {args : Array Value} {below : List Frame} {meth : Method} {c : Code} {nL : Nat} {Q : State → Prop} {qb : Nat} {Wd : Mem → Heap → Prop} {S : Mem} {pc : Nat} {lv : List (Nat × Value)} {st : List Value} {q2 : Nat} (h : q2 ≤ qb) (k : Mw Wd v p l e R s m args below meth c nL Q q2 S pc lv st) : Mw Wd v p l e R s m args below meth c nL Q qb S pc lv st := fun H locs ls cells slots hbu hW hS hl => k H locs ls cells slots (by omega) hW hS hl
theorem WE_tail {v : EV} {Y : va_W} {x : Nat × va_E} {S : Mem} {H : Heap} (h : WE v (x :: Y) S H) : WE v Y S H := h.elim fun da h => ⟨da, by
  have h2 : Lw v (wsW v da S ++ (([] ++ [x]) ++ Y)) H := h
  have h3 := l_perm h2
  rwa [List.append_nil] at h3⟩
theorem e_iald {v : EV} {p : Program} {l : Launch} {e : Env} {R : Room} {s : State} {m : MethodId} {args : Array Value} {below : List Frame} {meth : Method} {c : Code} {own : String} {cc : ByteArray} {nL : Nat} {ret : Option FieldType} {Q : State → Prop} {qb : Nat} {S : Mem} {pc : Nat} {lv : List (Nat × Value)} {st : List Value} {Y : va_W} (hC : Cx v p l e s m args meth c own cc nL ret) {a n i k : Nat} {f : Nat → Int32} (hk : Y[k]? = some (a, .inl (eC v 0, n, .inl f))) (hi : i < n) (hn : n < 2 ^ 31) (hdg : decode cc pc = .ok (.iaload, 1)) (kk : Mw (WE v Y) v p l e R s m args below meth c nL Q qb S (pc + 1) lv (.int (f i) :: st)) : Mw (WE v Y) v p l e R s m args below meth c nL Q qb S pc lv (.int (nI i) :: .ref a :: st) := by
  intro H locs ls cells slots hbu hW hS hl
  obtain ⟨da, hP, hD⟩ := id hW
  refine va_iald hC.1 hC.2.1 hC.2.2.2.2.2.1 hP ((wsW v da S).length + k) 0 (n := n) (f := f) (ap_in hk) (tysOf_at v (by decide)) (vp_in_nI hi hn) hdg ?_
  rw [nI_clamp (by omega)]
  exact kk H locs ls cells slots hbu hW hS hl
theorem lw_seen {v : EV} {p : Program} {l : Launch} {e : Env} {s : State} {m : MethodId} {args : Array Value} {below : List Frame} {meth : Method} {c : Code} {Q : State → Prop} {qb : Nat} {S : Mem} (hC : Cx v p l e s m args meth c RL cL_law 6 (some .boolean)) {Y : va_W} {f : Nat → Int32} {pc : Nat} {lv : List (Nat × Value)} {st : List Value} (h : Seen S f) (hd : decode cL_law pc = .ok (.invokestatic 142, 3)) (hst : (st.map fun v => v.category).sum ≤ 8) (hq : 2 ≤ qb) (kk : ∀ a : Nat, Mw (WE v ((a, .inl (eC v 0, 220, .inl f)) :: Y)) v p l e room_1 s m args below meth c 6 Q (qb - 2) S (pc + 3) lv (.ref a :: st)) : Mw (WE v Y) v p l e room_1 s m args below meth c 6 Q qb S pc lv (.ref (eA v 198) :: st) := by
  obtain ⟨n, A, D, mm, L, hS, rfl⟩ := h
  refine xp_run (X := Y) (ys := []) (is := []) (K := 2) (q2 := qb - 2) (Pq := fun u H => ∃ a : Nat, u = .ref a ∧ WE (vz v (zsX Y) [] []) [(a, .inl (eC v 0, 220, .inl (sO A D mm L n)))] S H) (Wu := fun u H => ∃ a : Nat, u = .ref a ∧ WE v ((a, .inl (eC v 0, 220, .inl (sO A D mm L n))) :: Y) S H) (by omega) (fun u H H1 hW hP hk => ?_) (rest := st) (a := [Value.ref (eA v 198)].toArray) (fun H locs ls cells slots hbu hW hS1 hl => ?_) (fun u => ?_)
  · obtain ⟨da, hL⟩ := hW
    obtain ⟨a, e1, da1, h1⟩ := hP
    refine ⟨a, e1, da1, ?_⟩
    have := LX_join (ws' := wsW v da1 S ++ [(a, .inl (eC v 0, 220, .inl (sO A D mm L n)))]) hL h1 hk
    rwa [List.append_assoc] at this
  · obtain ⟨da, hL⟩ := id hW
    exact va_runS (As := [Value.ref (eA v 198)]) (rest := st) ⟨hC.1, hC.2.1, hC.2.2.1, hC.2.2.2.1, hC.2.2.2.2.1⟩ (c_L_seen (v := vz v (zsX Y) [] []) (stb_all _) hS) (va_cwS 1 hC.2.2.2.2.1 mv_L_142.1 rfl rfl rfl mv_L_142.2 ⟨(by exact Nat.le_of_ble_eq_true rfl), (by exact Nat.le_of_ble_eq_true rfl)⟩) ⟨pg_blind (stb_all _), fun U hU hU2 => pgx_of hC hL (fun h => ⟨da, h⟩) hS1 no_i no_i hU hU2⟩ rfl rfl hl.1 rfl (lv_room hst) hd hbu
  · refine n_ex (fun a => ?_)
    refine n_and (fun e1 => ?_)
    subst e1
    exact Mw.re (fun H h => h) (kk a)
theorem lw_alike {v : EV} {p : Program} {l : Launch} {e : Env} {s : State} {m : MethodId} {args : Array Value} {below : List Frame} {meth : Method} {c : Code} {Q : State → Prop} {qb : Nat} {S : Mem} (hC : Cx v p l e s m args meth c RL cL_law 6 (some .boolean)) {Y : va_W} {f : Nat → Int32} {pc a b k1 k2 : Nat} {lv : List (Nat × Value)} {st : List Value} (e1 : Y[k1]? = some (a, .inl (eC v 0, 220, .inl f))) (e2 : Y[k2]? = some (b, .inl (eC v 0, 220, .inl f))) (hd : decode cL_law pc = .ok (.invokestatic 150, 3)) (hst : (st.map fun v => v.category).sum ≤ 8) (kk : Mw (WE v Y) v p l e room_1 s m args below meth c 6 Q qb S (pc + 3) lv (.int 1 :: st)) : Mw (WE v Y) v p l e room_1 s m args below meth c 6 Q qb S pc lv (.ref b :: .ref a :: st) := by
  refine x_callS (R := room_1) (K := 0) (q2 := qb) (S1 := S) (rv := some (.int 1)) (As := [.ref a, .ref b]) (rest := st) hC [] [(a, 220, f), (b, 220, f)] mv_L_150 (fun _ _ => no_i) (fun H hW z hz => ?_) (c_L_areAlike (v := vz v (zsX Y) [] [(a, 220, f), (b, 220, f)]) (stb_all _) (d0_0 := (a, 220, f)) (d1_0 := (b, 220, f)) (List.mem_append_right _ List.mem_cons_self) (List.mem_append_right _ (List.mem_cons_of_mem _ List.mem_cons_self)) (alike_1 S a b f)) rfl rfl rfl ⟨(by exact Nat.le_of_ble_eq_true rfl), (by exact Nat.le_of_ble_eq_true rfl)⟩ hst hd kk
  have hT := (hC.2.2.2.2.2.1.2 0 _ (tysOf_at v (by decide))).1
  rcases List.mem_cons.mp hz with rfl | hz
  · exact va_T_of (WE_in hW e1).1 hT (nG_vz e1)
  · rw [List.mem_singleton.mp hz]
    exact va_T_of (WE_in hW e2).1 hT (nG_vz e2)
set_option maxHeartbeats 4000000 in
set_option maxRecDepth 100000 in
theorem lw_drv {v : EV} {p : Program} {l : Launch} {e : Env} {s : State} {m : MethodId} {args : Array Value} {below : List Frame} {meth : Method} {c : Code} {Q : State → Prop} {qb : Nat} {S : Mem} (hC : Cx v p l e s m args meth c RL cL_law 6 (some .boolean)) {sc : IY} {b n k : Nat} {x4 : Int32} {f : Nat → Int32} (h5 : n ≤ 5) (hn : g_X8_account S 1 = some (nI n)) (h : ∀ i, i < n → ∃ x y, g_X8_driverOf S (nI i) 6 = some x ∧ f (12 + 36 * i + 6) ≤ x ∧ g_X8_driverOf S (nI i) 1 = some y ∧ f (12 + 36 * i + 1) ≤ y) (kk : Mw (WE v [(b, .inl (eC v 0, 220, .inl f))]) v p l e room_1 s m args below meth c 6 Q qb S 152 [(0, .ref sc.1), (1, .ref (eA v 198)), (2, .int (nI k)), (3, .ref b), (4, .int x4)] []) : ∀ j i, i + j = n → Mw (WE v [(b, .inl (eC v 0, 220, .inl f))]) v p l e room_1 s m args below meth c 6 Q qb S 88 [(0, .ref sc.1), (1, .ref (eA v 198)), (2, .int (nI k)), (3, .ref b), (4, .int x4), (5, .int (nI i))] [] := by
  intro j
  induction j with
  | zero =>
    intro i hi
    refine i_iload hC dL_law_88 rfl ?_
    refine i_aload_n hC dL_law_90 rfl ?_
    refine i_iconst hC (x := (1 : Int32)) dL_law_91 (by decide) ?_
    refine x_callV (R := room_1) (Y := [(b, .inl (eC v 0, 220, .inl f))]) (K := 0) (q2 := qb) (S := S) (S1 := S) (As := [.int (1 : Int32)]) (q := 198) (rv := some (.int (nI n))) hC mv_L_47 (c_X8_account (stb_all _) hn) (pln rfl) lay_p198 rfl rfl rfl rfl ⟨(by exact Nat.le_of_ble_eq_true rfl), (by exact Nat.le_of_ble_eq_true rfl)⟩ (by exact Nat.le_of_ble_eq_true rfl) dL_law_92 ?_
    refine i_icmp_ge hC (tgt := 152) dL_law_95 (by decide) (fun _ => ?_) (fun z9 => absurd (nI_le (by omega) (by omega)) z9)
    exact Mj.to kk ⟨rfl, rfl, rfl, rfl, rfl, trivial⟩
  | succ j ih =>
    intro i hi
    obtain ⟨x, y, h1, h2, h3, h4⟩ := h i (by omega)
    refine i_iload hC dL_law_88 rfl ?_
    refine i_aload_n hC dL_law_90 rfl ?_
    refine i_iconst hC (x := (1 : Int32)) dL_law_91 (by decide) ?_
    refine x_callV (R := room_1) (Y := [(b, .inl (eC v 0, 220, .inl f))]) (K := 0) (q2 := qb) (S := S) (S1 := S) (As := [.int (1 : Int32)]) (q := 198) (rv := some (.int (nI n))) hC mv_L_47 (c_X8_account (stb_all _) hn) (pln rfl) lay_p198 rfl rfl rfl rfl ⟨(by exact Nat.le_of_ble_eq_true rfl), (by exact Nat.le_of_ble_eq_true rfl)⟩ (by exact Nat.le_of_ble_eq_true rfl) dL_law_92 ?_
    refine i_icmp_ge hC (tgt := 152) dL_law_95 (by decide) (fun z9 => absurd z9 (fun z => absurd ((nI_leI (a := n) (b := i) (by omega) (by omega)).mp z) (by omega))) (fun _ => ?_)
    refine i_aload_n hC dL_law_98 rfl ?_
    refine i_iload hC dL_law_99 rfl ?_
    refine i_bipush hC (x := (6 : Int32)) dL_law_101 (by decide) ?_
    refine x_callV (R := room_1) (Y := [(b, .inl (eC v 0, 220, .inl f))]) (K := 0) (q2 := qb) (S := S) (S1 := S) (As := [.int (nI i), .int (6 : Int32)]) (q := 198) (rv := some (.int (x))) hC mv_L_103 (c_X8_driverOf (stb_all _) h1) (pln rfl) lay_p198 rfl rfl rfl rfl ⟨(by exact Nat.le_of_ble_eq_true rfl), (by exact Nat.le_of_ble_eq_true rfl)⟩ (by exact Nat.le_of_ble_eq_true rfl) dL_law_103 ?_
    refine i_aload_n hC dL_law_106 rfl ?_
    refine i_bipush hC (x := (12 : Int32)) dL_law_107 (by decide) ?_
    refine i_bipush hC (x := (36 : Int32)) dL_law_109 (by decide) ?_
    refine i_iload hC dL_law_111 rfl ?_
    refine i_imul hC dL_law_113 ?_
    refine i_iadd hC dL_law_114 ?_
    refine i_bipush hC (x := (6 : Int32)) dL_law_115 (by decide) ?_
    refine i_iadd hC dL_law_117 ?_
    rw [show (12 : Int32) + (36 : Int32) * nI i + (6 : Int32) = nI (12 + 36 * i + 6) from by rw [show (12 : Int32) = nI 12 from rfl, show (36 : Int32) = nI 36 from rfl, pk_mul, nI_add]; exact nI_add _ _]
    refine e_iald (k := 0) (i := 12 + 36 * i + 6) hC rfl (by omega) (by decide) dL_law_118 ?_
    refine i_icmp_lt hC (tgt := 144) dL_law_119 (by decide) (fun z9 => absurd z9 (Int32.not_lt.mpr h2)) (fun _ => ?_)
    refine i_aload_n hC dL_law_122 rfl ?_
    refine i_iload hC dL_law_123 rfl ?_
    refine i_iconst hC (x := (1 : Int32)) dL_law_125 (by decide) ?_
    refine x_callV (R := room_1) (Y := [(b, .inl (eC v 0, 220, .inl f))]) (K := 0) (q2 := qb) (S := S) (S1 := S) (As := [.int (nI i), .int (1 : Int32)]) (q := 198) (rv := some (.int (y))) hC mv_L_103 (c_X8_driverOf (stb_all _) h3) (pln rfl) lay_p198 rfl rfl rfl rfl ⟨(by exact Nat.le_of_ble_eq_true rfl), (by exact Nat.le_of_ble_eq_true rfl)⟩ (by exact Nat.le_of_ble_eq_true rfl) dL_law_126 ?_
    refine i_aload_n hC dL_law_129 rfl ?_
    refine i_bipush hC (x := (12 : Int32)) dL_law_130 (by decide) ?_
    refine i_bipush hC (x := (36 : Int32)) dL_law_132 (by decide) ?_
    refine i_iload hC dL_law_134 rfl ?_
    refine i_imul hC dL_law_136 ?_
    refine i_iadd hC dL_law_137 ?_
    refine i_iconst hC (x := (1 : Int32)) dL_law_138 (by decide) ?_
    refine i_iadd hC dL_law_139 ?_
    rw [show (12 : Int32) + (36 : Int32) * nI i + (1 : Int32) = nI (12 + 36 * i + 1) from by rw [show (12 : Int32) = nI 12 from rfl, show (36 : Int32) = nI 36 from rfl, pk_mul, nI_add]; exact nI_add _ _]
    refine e_iald (k := 0) (i := 12 + 36 * i + 1) hC rfl (by omega) (by decide) dL_law_140 ?_
    refine i_icmp_ge hC (tgt := 146) dL_law_141 (by decide) (fun _ => ?_) (fun z9 => absurd (h4) z9)
    refine i_iinc hC (y := (1 : Int32)) dL_law_146 rfl (by decide) (by decide) ?_
    refine i_goto hC (tgt := 88) dL_law_149 (by decide) ?_
    exact Mj.to (ih (i + 1) (by omega)) ⟨rfl, rfl, rfl, rfl, rfl, (by show some (Value.int (nI i + 1)) = _; rw [nI_1]), trivial⟩
set_option maxHeartbeats 4000000 in
set_option maxRecDepth 100000 in
theorem lw_und {v : EV} {p : Program} {l : Launch} {e : Env} {s : State} {m : MethodId} {args : Array Value} {below : List Frame} {meth : Method} {c : Code} {Q : State → Prop} {qb : Nat} {S : Mem} (hC : Cx v p l e s m args meth c RL cL_law 6 (some .boolean)) {sc : IY} (hsc : sc ∈ eI v) {LI : Nat → Mem → Prop} {b k : Nat} {x4 : Int32} {f : Nat → Int32} (hq : 2 ≤ qb) (hk : k < 24) (hin0 : ∃ y, g_L_in S sc (nI (80 + k)) 5 = some y) (hI : LI (k + 1) S) (hU : 0 ≤ x4 → ∃ u S3, g_X8_undo S = some (u, S3) ∧ 0 ≤ u ∧ Seen S3 f ∧ LI (k + 1) S3) (kk : ∀ S9, LI (k + 1) S9 → Mw (WE v []) v p l e room_1 s m args below meth c 6 Q (qb - 2) S9 189 [(0, .ref sc.1), (1, .ref (eA v 198)), (2, .int (nI k))] []) : Mw (WE v [(b, .inl (eC v 0, 220, .inl f))]) v p l e room_1 s m args below meth c 6 Q qb S 152 [(0, .ref sc.1), (1, .ref (eA v 198)), (2, .int (nI k)), (3, .ref b), (4, .int x4)] [] := by
  have kS : Mw (WE v [(b, .inl (eC v 0, 220, .inl f))]) v p l e room_1 s m args below meth c 6 Q qb S 189 [(0, .ref sc.1), (1, .ref (eA v 198)), (2, .int (nI k))] [] := Mw.less (by omega) (Mw.re (fun H h => WE_tail h) (kk S hI))
  refine i_iload hC dL_law_152 rfl ?_
  refine i_if_lt hC (tgt := 189) dL_law_154 (by decide) (fun z4 => ?_) (fun z4 => ?_)
  · exact Mj.to kS ⟨rfl, rfl, rfl, trivial⟩
  · obtain ⟨y, hin⟩ := hin0
    refine i_aload_n hC dL_law_157 rfl ?_
    refine i_bipush hC (x := (80 : Int32)) dL_law_158 (by decide) ?_
    refine i_iload_n hC dL_law_160 rfl ?_
    refine i_iadd hC dL_law_161 ?_
    rw [show (80 : Int32) + nI k = nI (80 + k) from nI_add 80 k]
    refine i_iconst hC (x := (5 : Int32)) dL_law_162 (by decide) ?_
    refine x_callS (R := room_1) (Y := [(b, .inl (eC v 0, 220, .inl f))]) (K := 0) (q2 := qb) (S := S) (S1 := S) (rv := some (.int (y))) (As := [.ref sc.1, .int (nI (80 + k)), .int (5 : Int32)]) hC [] [] mv_L_36 (fun _ _ => no_i) (fun _ _ => no_i) (c_L_in (v := vz v (zsX [(b, .inl (eC v 0, 220, .inl f))]) [] []) (stb_all _) (List.mem_append_left _ hsc) hin) rfl rfl rfl ⟨(by exact Nat.le_of_ble_eq_true rfl), (by exact Nat.le_of_ble_eq_true rfl)⟩ (by exact Nat.le_of_ble_eq_true rfl) dL_law_163 ?_
    refine i_if_ne hC (tgt := 189) dL_law_166 (by decide) (fun zy => ?_) (fun zy => ?_)
    · exact Mj.to kS ⟨rfl, rfl, rfl, trivial⟩
    · obtain ⟨u, S3, h1, hu, hs3, hI3⟩ := hU (Int32.not_lt.mp z4)
      refine i_aload_n hC dL_law_169 rfl ?_
      refine x_callV (R := room_1) (Y := [(b, .inl (eC v 0, 220, .inl f))]) (K := 0) (q2 := qb) (S := S) (S1 := S3) (As := []) (q := 198) (rv := some (.int (u))) hC mv_L_154 (c_X8_undo (stb_all _) h1) (pln rfl) lay_p198 rfl rfl rfl rfl ⟨(by exact Nat.le_of_ble_eq_true rfl), (by exact Nat.le_of_ble_eq_true rfl)⟩ (by exact Nat.le_of_ble_eq_true rfl) dL_law_170 ?_
      refine i_if_lt hC (tgt := 187) dL_law_173 (by decide) (fun z9 => absurd z9 (Int32.not_lt.mpr hu)) (fun _ => ?_)
      refine i_aload_n hC dL_law_176 rfl ?_
      refine i_aload_n hC dL_law_177 rfl ?_
      refine lw_seen (Y := [(b, .inl (eC v 0, 220, .inl f))]) hC hs3 dL_law_178 (by exact Nat.le_of_ble_eq_true rfl) (by omega) (fun a2 => ?_)
      refine lw_alike (Y := [(a2, .inl (eC v 0, 220, .inl f)), (b, .inl (eC v 0, 220, .inl f))]) (k1 := 1) (k2 := 0) hC rfl rfl dL_law_181 (by exact Nat.le_of_ble_eq_true rfl) ?_
      refine i_if_ne hC (tgt := 189) dL_law_184 (by decide) (fun _ => ?_) (fun z9 => absurd z9 (fun z => absurd z (by decide)))
      exact Mj.to (Mw.re (fun H h => WE_tail (WE_tail h)) (kk S3 hI3)) ⟨rfl, rfl, rfl, trivial⟩
set_option maxHeartbeats 4000000 in
set_option maxRecDepth 100000 in
theorem lw_one {v : EV} {p : Program} {l : Launch} {e : Env} {s : State} {m : MethodId} {args : Array Value} {below : List Frame} {meth : Method} {c : Code} {Q : State → Prop} {qb : Nat} {S : Mem} (hC : Cx v p l e s m args meth c RL cL_law 6 (some .boolean)) (hLY : LY v) {sc : IY} (hsc : sc ∈ eI v) {LI : Nat → Mem → Prop} (hH : LawH sc LI) {k : Nat} (hk : k < 24) (hI : LI k S) (hq : 86 ≤ qb) (kk : ∀ S9, LI (k + 1) S9 → Mw (WE v []) v p l e room_1 s m args below meth c 6 Q (qb - 86) S9 189 [(0, .ref sc.1), (1, .ref (eA v 198)), (2, .int (nI k))] []) : Mw (WE v []) v p l e room_1 s m args below meth c 6 Q qb S 20 [(0, .ref sc.1), (1, .ref (eA v 198)), (2, .int (nI k))] [] := by
  obtain ⟨-, hA, hB, hin, -⟩ := hH
  obtain ⟨f, hs⟩ := hA k S (by omega) hI
  obtain ⟨⟨x4, S2⟩, n, hd, h99, hw, h11, h6, h5, hn, hdr, hI2, hU⟩ := hB k S f hk hI hs
  refine i_iload_n hC dL_law_20 rfl ?_
  refine i_bipush hC (x := (24 : Int32)) dL_law_21 (by decide) ?_
  refine i_icmp_ge hC (tgt := 195) dL_law_23 (by decide) (fun z9 => absurd z9 (fun z => absurd ((nI_leI (a := 24) (b := k) (by decide) (by omega)).mp z) (by omega))) (fun _ => ?_)
  refine i_aload_n hC dL_law_26 rfl ?_
  refine lw_seen (Y := []) hC hs dL_law_27 (by exact Nat.le_of_ble_eq_true rfl) (by omega) (fun b => ?_)
  refine i_astore_n hC dL_law_30 (by decide) ?_
  refine i_aload_n hC dL_law_31 rfl ?_
  refine i_aload_n hC dL_law_32 rfl ?_
  refine i_bipush hC (x := (8 : Int32)) dL_law_33 (by decide) ?_
  refine i_iconst hC (x := (3 : Int32)) dL_law_35 (by decide) ?_
  refine i_iload_n hC dL_law_36 rfl ?_
  refine i_imul hC dL_law_37 ?_
  refine i_iadd hC dL_law_38 ?_
  rw [show (8 : Int32) + (3 : Int32) * nI k = nI (8 + 3 * k) from by rw [show (3 : Int32) = nI 3 from rfl, pk_mul]; exact nI_add 8 (3 * k)]
  refine x_callS (R := room_1) (Y := [(b, .inl (eC v 0, 220, .inl f))]) (K := 80) (q2 := ((qb - 2) - 80)) (S := S) (S1 := S2) (rv := some (.int (x4))) (As := [.ref (eA v 198), .ref sc.1, .int (nI (8 + 3 * k))]) hC [] [] mv_L_146 (fun _ _ => no_i) (fun _ _ => no_i) (c_L_does (v := vz v (zsX [(b, .inl (eC v 0, 220, .inl f))]) [] []) (stb_all _) (fun i hi => List.mem_append_left _ (hLY i hi)) (List.mem_append_left _ hsc) hd) rfl rfl (by omega) ⟨(by exact Nat.le_of_ble_eq_true rfl), (by exact Nat.le_of_ble_eq_true rfl)⟩ (by exact Nat.le_of_ble_eq_true rfl) dL_law_39 ?_
  refine i_istore hC dL_law_42 (by decide) ?_
  refine i_iload hC dL_law_44 rfl ?_
  refine i_bipush hC (x := (-99 : Int32)) dL_law_46 (by decide) ?_
  refine i_icmp_eq hC (tgt := 83) dL_law_48 (by decide) (fun z9 => absurd z9 (h99)) (fun _ => ?_)
  refine i_aload_n hC dL_law_51 rfl ?_
  refine x_callS (R := room_1) (Y := [(b, .inl (eC v 0, 220, .inl f))]) (K := 0) (q2 := ((qb - 2) - 80)) (S := S2) (S1 := S2) (rv := some (.int ((1 : Int32)))) (As := [.ref (eA v 198)]) hC [] [] mv_L_138 (fun _ _ => no_i) (fun _ _ => no_i) (c_L_isWell (v := vz v (zsX [(b, .inl (eC v 0, 220, .inl f))]) [] []) (stb_all _) hw) rfl rfl rfl ⟨(by exact Nat.le_of_ble_eq_true rfl), (by exact Nat.le_of_ble_eq_true rfl)⟩ (by exact Nat.le_of_ble_eq_true rfl) dL_law_52 ?_
  refine i_if_eq hC (tgt := 83) dL_law_55 (by decide) (fun z9 => absurd z9 (by decide)) (fun _ => ?_)
  refine i_aload_n hC dL_law_58 rfl ?_
  refine i_bipush hC (x := (11 : Int32)) dL_law_59 (by decide) ?_
  refine x_callV (R := room_1) (Y := [(b, .inl (eC v 0, 220, .inl f))]) (K := 0) (q2 := ((qb - 2) - 80)) (S := S2) (S1 := S2) (As := [.int (11 : Int32)]) (q := 198) (rv := some (.int ((0 : Int32)))) hC mv_L_47 (c_X8_account (stb_all _) h11) (pln rfl) lay_p198 rfl rfl rfl rfl ⟨(by exact Nat.le_of_ble_eq_true rfl), (by exact Nat.le_of_ble_eq_true rfl)⟩ (by exact Nat.le_of_ble_eq_true rfl) dL_law_61 ?_
  refine i_if_ne hC (tgt := 83) dL_law_64 (by decide) (fun z9 => absurd z9 (fun z => z rfl)) (fun _ => ?_)
  refine i_iload hC dL_law_67 rfl ?_
  have fin : ∀ q9, 2 + (qb - 86) ≤ q9 → Mw (WE v [(b, .inl (eC v 0, 220, .inl f))]) v p l e room_1 s m args below meth c 6 Q q9 S2 85 [(0, .ref sc.1), (1, .ref (eA v 198)), (2, .int (nI k)), (3, .ref b), (4, .int x4)] [] := by
    intro q9 hq9
    refine i_iconst hC (x := (0 : Int32)) dL_law_85 (by decide) ?_
    refine i_istore hC dL_law_86 (by decide) ?_
    refine Mj.to (lw_drv hC h5 hn hdr ?_ n 0 (Nat.zero_add n)) ⟨rfl, rfl, rfl, rfl, rfl, rfl, trivial⟩
    exact lw_und hC hsc (LI := LI) (by omega) hk (hin S2 k hk) hI2 hU (fun S9 h9 => Mw.less (by omega) (kk S9 h9))
  refine i_if_ge hC (tgt := 85) dL_law_69 (by decide) (fun z4 => ?_) (fun z4 => ?_)
  · exact Mj.to (fin _ (by omega)) ⟨rfl, rfl, rfl, rfl, rfl, trivial⟩
  · have z4 : x4 < 0 := Int32.not_le.mp z4
    refine i_aload_n hC dL_law_72 rfl ?_
    refine i_aload_n hC dL_law_73 rfl ?_
    refine lw_seen (Y := [(b, .inl (eC v 0, 220, .inl f))]) hC (h6 z4) dL_law_74 (by exact Nat.le_of_ble_eq_true rfl) (by omega) (fun a2 => ?_)
    refine lw_alike (Y := [(a2, .inl (eC v 0, 220, .inl f)), (b, .inl (eC v 0, 220, .inl f))]) (k1 := 1) (k2 := 0) hC rfl rfl dL_law_77 (by exact Nat.le_of_ble_eq_true rfl) ?_
    refine i_if_ne hC (tgt := 85) dL_law_80 (by decide) (fun _ => ?_) (fun z9 => absurd z9 (fun z => absurd z (by decide)))
    refine Mw.re (Wd' := WE v [(b, .inl (eC v 0, 220, .inl f))]) (fun H h => WE_tail h) ?_
    exact Mj.to (fin _ (by omega)) ⟨rfl, rfl, rfl, rfl, rfl, trivial⟩
set_option maxHeartbeats 4000000 in
set_option maxRecDepth 100000 in
theorem lw_loop {v : EV} {p : Program} {l : Launch} {e : Env} {s : State} {m : MethodId} {args : Array Value} {below : List Frame} {meth : Method} {c : Code} {Q : State → Prop} {qb : Nat} (hC : Cx v p l e s m args meth c RL cL_law 6 (some .boolean)) (hLY : LY v) {sc : IY} (hsc : sc ∈ eI v) {LI : Nat → Mem → Prop} (hH : LawH sc LI) (kend : ∀ S, LI 24 S → Mw (WE v []) v p l e room_1 s m args below meth c 6 Q qb S 195 [(0, .ref sc.1), (1, .ref (eA v 198))] []) : ∀ j k S, k + j = 24 → LI k S → Mw (WE v []) v p l e room_1 s m args below meth c 6 Q (qb + 86 * j) S 20 [(0, .ref sc.1), (1, .ref (eA v 198)), (2, .int (nI k))] [] := by
  intro j
  induction j with
  | zero =>
    intro k S hk hI
    obtain rfl : k = 24 := by omega
    refine i_iload_n hC dL_law_20 rfl ?_
    refine i_bipush hC (x := (24 : Int32)) dL_law_21 (by decide) ?_
    refine i_icmp_ge hC (tgt := 195) dL_law_23 (by decide) (fun _ => ?_) (fun z9 => absurd (by decide) z9)
    exact Mj.to (kend S hI) ⟨rfl, rfl, trivial⟩
  | succ j ih =>
    intro k S hk hI
    refine lw_one hC hLY hsc hH (by omega) hI (by omega) (fun S9 h9 => ?_)
    refine i_iinc hC (y := (1 : Int32)) dL_law_189 rfl (by decide) (by decide) ?_
    refine i_goto hC (tgt := 20) dL_law_192 (by decide) ?_
    exact Mw.less (by omega) (Mj.to (ih (k + 1) S9 (by omega) h9) ⟨rfl, rfl, (by show some (Value.int (nI k + 1)) = _; rw [nI_1]), trivial⟩)
set_option maxHeartbeats 4000000 in
set_option maxRecDepth 100000 in
theorem lw_fin {v : EV} {p : Program} {l : Launch} {e : Env} {s : State} {m : MethodId} {args : Array Value} {below : List Frame} {meth : Method} {c : Code} {Q : State → Prop} {qb : Nat} {S : Mem} (hC : Cx v p l e s m args meth c RL cL_law 6 (some .boolean)) {sc : IY} (hsc : sc ∈ eI v) {LI : Nat → Mem → Prop} (hH : LawH sc LI) (hI : LI 24 S) (hq : 6 ≤ qb) (kk : ∀ Y S9 lv, Mw (WE v Y) v p l e room_1 s m args below meth c 6 Q (qb - 6) S9 304 lv [.int 1]) : Mw (WE v []) v p l e room_1 s m args below meth c 6 Q qb S 195 [(0, .ref sc.1), (1, .ref (eA v 198))] [] := by
  obtain ⟨-, hA, -, -, hE⟩ := hH
  obtain ⟨f, hs⟩ := hA 24 S (Nat.le_refl 24) hI
  obtain ⟨S1, t, S2, q, S3, c0, c1, cf, S4, b, S5, w, S6, a, S7, q1, q2_, q3, q4, q5, hs3, q6, q7, q8, q9, hs7, q10, hlast⟩ := hE S f hI hs
  refine i_aload_n hC dL_law_195 rfl ?_
  refine lw_seen (Y := []) hC hs dL_law_196 (by exact Nat.le_of_ble_eq_true rfl) (by omega) (fun t0 => ?_)
  refine i_astore_n hC dL_law_199 (by decide) ?_
  refine i_aload_n hC dL_law_200 rfl ?_
  refine x_callV (R := room_1) (Y := [(t0, .inl (eC v 0, 220, .inl f))]) (K := 0) (q2 := (qb - 2)) (S := S) (S1 := S1) (As := []) (q := 198) (rv := some (.int (t))) hC mv_L_157 (c_X8_save (stb_all _) q1) (pln rfl) lay_p198 rfl rfl rfl rfl ⟨(by exact Nat.le_of_ble_eq_true rfl), (by exact Nat.le_of_ble_eq_true rfl)⟩ (by exact Nat.le_of_ble_eq_true rfl) dL_law_201 ?_
  refine i_istore_n hC dL_law_204 (by decide) ?_
  refine i_aload_n hC dL_law_205 rfl ?_
  refine x_callV (R := room_1) (Y := [(t0, .inl (eC v 0, 220, .inl f))]) (K := 0) (q2 := (qb - 2)) (S := S1) (S1 := S2) (As := []) (q := 198) (rv := some (.int (q))) hC mv_L_160 (c_X8_quietBeats (stb_all _) q2_) (pln rfl) lay_p198 rfl rfl rfl rfl ⟨(by exact Nat.le_of_ble_eq_true rfl), (by exact Nat.le_of_ble_eq_true rfl)⟩ (by exact Nat.le_of_ble_eq_true rfl) dL_law_206 ?_
  refine i_aload_n hC dL_law_209 rfl ?_
  refine i_iconst hC (x := (0 : Int32)) dL_law_210 (by decide) ?_
  refine x_callV (R := room_1) (Y := [(t0, .inl (eC v 0, 220, .inl f))]) (K := 0) (q2 := (qb - 2)) (S := S2) (S1 := S2) (As := [.int (0 : Int32)]) (q := 198) (rv := some (.int (c0))) hC mv_L_163 (c_X8_couldLead (stb_all _) q3) (pln rfl) lay_p198 rfl rfl rfl rfl ⟨(by exact Nat.le_of_ble_eq_true rfl), (by exact Nat.le_of_ble_eq_true rfl)⟩ (by exact Nat.le_of_ble_eq_true rfl) dL_law_211 ?_
  refine i_iadd hC dL_law_214 ?_
  refine i_aload_n hC dL_law_215 rfl ?_
  refine i_iconst hC (x := (1 : Int32)) dL_law_216 (by decide) ?_
  refine x_callV (R := room_1) (Y := [(t0, .inl (eC v 0, 220, .inl f))]) (K := 0) (q2 := (qb - 2)) (S := S2) (S1 := S3) (As := [.int (1 : Int32)]) (q := 198) (rv := some (.int (c1))) hC mv_L_166 (c_X8_couldLeadAgain (stb_all _) q4) (pln rfl) lay_p198 rfl rfl rfl rfl ⟨(by exact Nat.le_of_ble_eq_true rfl), (by exact Nat.le_of_ble_eq_true rfl)⟩ (by exact Nat.le_of_ble_eq_true rfl) dL_law_217 ?_
  refine i_iadd hC dL_law_220 ?_
  refine i_aload_n hC dL_law_221 rfl ?_
  refine x_callV (R := room_1) (Y := [(t0, .inl (eC v 0, 220, .inl f))]) (K := 0) (q2 := (qb - 2)) (S := S3) (S1 := S3) (As := []) (q := 198) (rv := some (.int (cf))) hC mv_L_169 (c_X8_conflicts (stb_all _) q5) (pln rfl) lay_p198 rfl rfl rfl rfl ⟨(by exact Nat.le_of_ble_eq_true rfl), (by exact Nat.le_of_ble_eq_true rfl)⟩ (by exact Nat.le_of_ble_eq_true rfl) dL_law_222 ?_
  refine i_iadd hC dL_law_225 ?_
  refine i_istore hC dL_law_226 (by decide) ?_
  refine i_aload_n hC dL_law_228 rfl ?_
  refine i_aload_n hC dL_law_229 rfl ?_
  refine lw_seen (Y := [(t0, .inl (eC v 0, 220, .inl f))]) hC hs3 dL_law_230 (by exact Nat.le_of_ble_eq_true rfl) (by omega) (fun t1 => ?_)
  refine lw_alike (Y := [(t1, .inl (eC v 0, 220, .inl f)), (t0, .inl (eC v 0, 220, .inl f))]) (k1 := 1) (k2 := 0) hC rfl rfl dL_law_233 (by exact Nat.le_of_ble_eq_true rfl) ?_
  refine i_if_ne hC (tgt := 241) dL_law_236 (by decide) (fun _ => ?_) (fun z9 => absurd z9 (fun z => absurd z (by decide)))
  refine i_iload hC dL_law_241 rfl ?_
  refine i_aload_n hC dL_law_243 rfl ?_
  refine i_iconst hC (x := (5 : Int32)) dL_law_244 (by decide) ?_
  refine x_callV (R := room_1) (Y := [(t1, .inl (eC v 0, 220, .inl f)), (t0, .inl (eC v 0, 220, .inl f))]) (K := 0) (q2 := ((qb - 2) - 2)) (S := S3) (S1 := S4) (As := [.int (5 : Int32)]) (q := 198) (rv := some (.int (b))) hC mv_L_44 (c_X8_beats (stb_all _) q6) (pln rfl) lay_p198 rfl rfl rfl rfl ⟨(by exact Nat.le_of_ble_eq_true rfl), (by exact Nat.le_of_ble_eq_true rfl)⟩ (by exact Nat.le_of_ble_eq_true rfl) dL_law_245 ?_
  refine i_aload_n hC dL_law_248 rfl ?_
  refine i_iconst hC (x := (0 : Int32)) dL_law_249 (by decide) ?_
  refine x_callV (R := room_1) (Y := [(t1, .inl (eC v 0, 220, .inl f)), (t0, .inl (eC v 0, 220, .inl f))]) (K := 0) (q2 := ((qb - 2) - 2)) (S := S4) (S1 := S5) (As := [.int (0 : Int32)]) (q := 198) (rv := some (.int (w))) hC mv_L_63 (c_X8_wash (stb_all _) q7) (pln rfl) lay_p198 rfl rfl rfl rfl ⟨(by exact Nat.le_of_ble_eq_true rfl), (by exact Nat.le_of_ble_eq_true rfl)⟩ (by exact Nat.le_of_ble_eq_true rfl) dL_law_250 ?_
  refine i_iadd hC dL_law_253 ?_
  refine i_aload_n hC dL_law_254 rfl ?_
  refine i_iconst hC (x := (1 : Int32)) dL_law_255 (by decide) ?_
  refine x_callV (R := room_1) (Y := [(t1, .inl (eC v 0, 220, .inl f)), (t0, .inl (eC v 0, 220, .inl f))]) (K := 0) (q2 := ((qb - 2) - 2)) (S := S5) (S1 := S6) (As := [.int (1 : Int32)]) (q := 198) (rv := some (.int (a))) hC mv_L_53 (c_X8_ask (stb_all _) q8) (pln rfl) lay_p198 rfl rfl rfl rfl ⟨(by exact Nat.le_of_ble_eq_true rfl), (by exact Nat.le_of_ble_eq_true rfl)⟩ (by exact Nat.le_of_ble_eq_true rfl) dL_law_256 ?_
  refine i_iadd hC dL_law_259 ?_
  refine i_iadd hC dL_law_260 ?_
  refine i_istore hC dL_law_261 (by decide) ?_
  refine i_aload_n hC dL_law_263 rfl ?_
  refine x_callV (R := room_1) (Y := [(t1, .inl (eC v 0, 220, .inl f)), (t0, .inl (eC v 0, 220, .inl f))]) (K := 0) (q2 := ((qb - 2) - 2)) (S := S6) (S1 := S7) (As := []) (q := 198) (rv := some (.int (t))) hC mv_L_172 (c_X8_restore (stb_all _) q9) (pln rfl) lay_p198 rfl rfl rfl rfl ⟨(by exact Nat.le_of_ble_eq_true rfl), (by exact Nat.le_of_ble_eq_true rfl)⟩ (by exact Nat.le_of_ble_eq_true rfl) dL_law_264 ?_
  refine i_iload_n hC dL_law_267 rfl ?_
  refine i_icmp_ne hC (tgt := 303) dL_law_268 (by decide) (fun z9 => absurd z9 (fun z => z rfl)) (fun _ => ?_)
  refine i_aload_n hC dL_law_271 rfl ?_
  refine i_aload_n hC dL_law_272 rfl ?_
  refine lw_seen (Y := [(t1, .inl (eC v 0, 220, .inl f)), (t0, .inl (eC v 0, 220, .inl f))]) hC hs7 dL_law_273 (by exact Nat.le_of_ble_eq_true rfl) (by omega) (fun t2 => ?_)
  refine lw_alike (Y := [(t2, .inl (eC v 0, 220, .inl f)), (t1, .inl (eC v 0, 220, .inl f)), (t0, .inl (eC v 0, 220, .inl f))]) (k1 := 2) (k2 := 0) hC rfl rfl dL_law_276 (by exact Nat.le_of_ble_eq_true rfl) ?_
  refine i_if_eq hC (tgt := 303) dL_law_279 (by decide) (fun z9 => absurd z9 (by decide)) (fun _ => ?_)
  refine i_aload_n hC dL_law_282 rfl ?_
  refine i_bipush hC (x := (12 : Int32)) dL_law_283 (by decide) ?_
  refine x_callV (R := room_1) (Y := [(t2, .inl (eC v 0, 220, .inl f)), (t1, .inl (eC v 0, 220, .inl f)), (t0, .inl (eC v 0, 220, .inl f))]) (K := 0) (q2 := (((qb - 2) - 2) - 2)) (S := S7) (S1 := S7) (As := [.int (12 : Int32)]) (q := 198) (rv := some (.int ((0 : Int32)))) hC mv_L_47 (c_X8_account (stb_all _) q10) (pln rfl) lay_p198 rfl rfl rfl rfl ⟨(by exact Nat.le_of_ble_eq_true rfl), (by exact Nat.le_of_ble_eq_true rfl)⟩ (by exact Nat.le_of_ble_eq_true rfl) dL_law_285 ?_
  refine i_if_ne hC (tgt := 303) dL_law_288 (by decide) (fun z9 => absurd z9 (fun z => z rfl)) (fun _ => ?_)
  refine i_iload hC dL_law_291 rfl ?_
  refine i_sipush hC (x := (-999 : Int32)) dL_law_293 (by decide) ?_
  refine i_icmp_le hC (tgt := 303) dL_law_296 (by decide) (fun z9 => absurd z9 (hlast)) (fun _ => ?_)
  refine i_iconst hC (x := (1 : Int32)) dL_law_299 (by decide) ?_
  refine i_goto hC (tgt := 304) dL_law_300 (by decide) ?_
  exact Mw.less (by omega) (kk _ _ _)
