/-! the builder's writing leaves all else -/
theorem fr_far {S : Mem} {b j : Nat} (h1 : b ≠ 15) (h2 : b ≠ 16) : fresh S b j = S b j := by unfold fresh; rw [if_neg h1, if_neg h2]
theorem en_far {S : Mem} {b j q : Nat} (h1 : b ≠ 15) (h2 : b ≠ 16) : ens S 1 q b j = S b j := by
  unfold ens
  split
  · rfl
  · unfold grw
    rw [if_neg (by omega), if_neg (by omega)]
theorem aY_far {S : Mem} {b j k : Nat} {q : SY} (h1 : b ≠ 15) (h2 : b ≠ 16) : appY S 1 k q b j = S b j := by
  unfold appY
  rw [up_ne _ _ (by omega)]
  unfold setB
  rw [if_neg (by omega)]
  exact en_far h1 h2
theorem aI_far {S : Mem} {b j k w : Nat} (h1 : b ≠ 15) (h2 : b ≠ 16) (hw : w < 10) : appI S 1 k w b j = S b j := by
  have hd : sb_dg w = 1 := if_pos hw
  unfold appI gcs
  rw [hd, if_pos (by omega), if_pos hw, up_ne _ _ (by omega), up_ne _ _ (by omega)]
  exact en_far h1 h2
theorem tA_far {S : Mem} {b j a3 a4 : Nat} (h1 : b ≠ 15) (h2 : b ≠ 16) : tA S (1 + a3 % 4) (a4 % 6) b j = S b j := by
  unfold tA
  rw [aI_far h1 h2 (by omega), aY_far h1 h2, aI_far h1 h2 (by omega), aY_far h1 h2, fr_far h1 h2]
theorem tB_far {S : Mem} {b j a4 : Nat} (h1 : b ≠ 15) (h2 : b ≠ 16) : tB S (a4 % 3) b j = S b j := by
  unfold tB
  rw [aI_far h1 h2 (by omega), aY_far h1 h2, fr_far h1 h2]
theorem tC_far {S : Mem} {b j a4 : Nat} (h1 : b ≠ 15) (h2 : b ≠ 16) : tC S (a4 % 5) b j = S b j := by
  unfold tC
  rw [aY_far h1 h2, aI_far h1 h2 (by omega), aY_far h1 h2, fr_far h1 h2]
theorem l_last {v : EV} {W A B C : va_W} {H : Heap} (h : Lw v (W ++ (([] ++ A ++ B) ++ C)) H) : Lw v (W ++ ((A ++ C) ++ B)) H := by
  have h2 : Lw v (((W ++ A) ++ B) ++ C) H := by
    simpa only [List.append_assoc, List.nil_append] using h
  have h3 : Lw v (((W ++ A) ++ C) ++ B) H := ⟨h2.1.swap, h2.2.swap⟩
  simpa only [List.append_assoc] using h3
set_option maxHeartbeats 4000000 in
set_option maxRecDepth 100000 in
theorem d_lit {v : EV} {p : Program} {l : Launch} {e : Env} {s : State} {m : MethodId} {args : Array Value} {below : List Frame} {meth : Method} {c : Code} {Q : State → Prop} {qb : Nat} {S : Mem} (hC : Cx v p l e s m args meth c RL cL_does 8 (some .int)) (hLY : LY v) {Y : va_W} {i k mm pc : Nat} {lv : List (Nat × Value)} {st : List Value} (hi : i < 5) (H : SBk S k mm) (hcap : sb_cap (k + (yL i).2.2.1) mm ≤ 34) (hd1 : decode cL_does pc = .ok (.ldc (lIx.getD i 0), 2)) (hd2 : decode cL_does (pc + 2) = .ok (.invokevirtual 81, 3)) (hst : (st.map fun v => v.category).sum ≤ 8) (hq : 1 ≤ qb) (kk : Mw (WE v Y) v p l e (rmK 80 13 277) s m args below meth c 8 Q (qb - 1) (appY S 1 k (yL i)) (pc + 5) lv (.ref (eA v (pB 1)) :: st)) : Mw (WE v Y) v p l e (rmK 80 13 277) s m args below meth c 8 Q qb S pc lv (.ref (eA v (pB 1)) :: st) := by
  refine i_ldcS hC hi rfl hd1 ?_
  have hl : (yL i).2.2.1 ≤ 60 := (show ∀ i, i < 5 → (yL i).2.2.1 ≤ 60 by decide) i hi
  have hk9 : k ≤ 900 := by have := H.2.2.1; have := H.2.2.2.1; omega
  exact gx_callB (R := rmK 80 13 277) (ys := []) (As := [.ref (eT v (40 + i))]) (b := 1) (S1 := appY S 1 k (yL i)) (q2 := qb - 1) hC (by decide) rfl mY_L_81 (fun _ _ => no_i) (c_SB_appY (stb_all _) (by decide) (q := (eT v (40 + i), eT v (45 + i), (yL i).2.2)) (List.mem_append_left _ (hLY i hi)) (k := k) H.1 hk9 hl (sb_m H) (sb_a H (by show sb_cap (k + (yL i).2.2.1) mm ≤ 160; omega)) H.2.2.2.2.1 (yL_ok i hi).1) rfl rfl (by omega) ⟨Nat.le_of_ble_eq_true rfl, Nat.le_of_ble_eq_true rfl⟩ hst hd2 kk

set_option maxHeartbeats 4000000 in
set_option maxRecDepth 100000 in
theorem d_dig {v : EV} {p : Program} {l : Launch} {e : Env} {s : State} {m : MethodId} {args : Array Value} {below : List Frame} {meth : Method} {c : Code} {Q : State → Prop} {qb : Nat} {S : Mem} (hC : Cx v p l e s m args meth c RL cL_does 8 (some .int)) {Y : va_W} {w k mm pc : Nat} {x : Int32} {lv : List (Nat × Value)} {st : List Value} (hx : x = nI w) (hw : w < 10) (H : SBk S k mm) (hcap : k + 1 ≤ mm) (hd2 : decode cL_does pc = .ok (.invokevirtual 84, 3)) (hst : (st.map fun v => v.category).sum ≤ 8) (hq : 1 ≤ qb) (kk : Mw (WE v Y) v p l e (rmK 80 13 277) s m args below meth c 8 Q (qb - 1) (appI S 1 k w) (pc + 3) lv (.ref (eA v (pB 1)) :: st)) : Mw (WE v Y) v p l e (rmK 80 13 277) s m args below meth c 8 Q qb S pc lv (.int x :: .ref (eA v (pB 1)) :: st) := by
  subst hx
  have hk9 : k ≤ 900 := by have := H.2.2.1; have := H.2.2.2.1; omega
  have hd : sb_dg w = 1 := if_pos hw
  exact gx_callB (R := rmK 80 13 277) (ys := []) (As := [.int (nI w)]) (b := 1) (S1 := appI S 1 k w) (q2 := qb - 1) hC (by decide) rfl mY_L_84 (fun _ _ => no_i) (c_SB_appI (stb_all _) (by decide) (k := k) (w := w) (by omega) H.1 hk9 (sb_m H) (sb_a H (by rw [hd]; unfold sb_cap; rw [if_pos hcap]; have := H.2.2.2.1; omega)) H.2.2.2.2.1) rfl rfl (by omega) ⟨Nat.le_of_ble_eq_true rfl, Nat.le_of_ble_eq_true rfl⟩ hst hd2 kk

set_option maxHeartbeats 4000000 in
set_option maxRecDepth 100000 in
theorem d_new {v : EV} {p : Program} {l : Launch} {e : Env} {s : State} {m : MethodId} {args : Array Value} {below : List Frame} {meth : Method} {c : Code} {Q : State → Prop} {qb : Nat} {S : Mem} (hC : Cx v p l e s m args meth c RL cL_does 8 (some .int)) {Y : va_W} {pc : Nat} {lv : List (Nat × Value)} {st : List Value} (hd1 : decode cL_does pc = .ok (.new 76, 3)) (hd2 : decode cL_does (pc + 3) = .ok (.dup, 1)) (hd3 : decode cL_does (pc + 4) = .ok (.invokespecial 78, 3)) (hst : (st.map fun v => v.category).sum ≤ 7) (hq : 2 ≤ qb) (kk : ∀ (q : Nat) (da : Nat → Nat), Mw (WE (vB v q) (Y ++ oldB v da S)) (vB v q) p l e (rmK 80 13 277) s m args below meth c 8 Q (qb - 2) (fresh S) (pc + 7) lv (.ref (eA (vB v q) (pB 1)) :: st)) : Mw (WE v Y) v p l e (rmK 80 13 277) s m args below meth c 8 Q qb S pc lv st := by
  refine we_ex (fun da => ?_)
  refine n_new (q2 := qb - 1) hC nw_L_76 (by omega) hd1 (fun q => ?_)
  refine i_dup hC hd2 rfl ?_
  refine n_call (As := []) (q2 := qb - 2) hC (eF_X hC.2.2.2.2.2.2.1) mi_L_78 (c_J4_init (X := wsW v da S ++ Y) (a := q) hC.2.2.2.2.2.2.2.1) rfl rfl (by omega) ⟨Nat.le_of_ble_eq_true rfl, Nat.le_of_ble_eq_true rfl⟩ (by rw [List.map_cons, List.sum_cons]; show 1 + _ ≤ 8; omega) hd3 ?_
  refine n_ex (fun b => ?_)
  refine n_and (fun e1 => ?_)
  obtain ⟨b1, b2⟩ := b
  have e1 : b1 = q := e1
  subst e1
  refine Mw.re (Wd' := WE (vB v b1) (Y ++ oldB v da S)) (S' := fresh S) (fun H h => ⟨_, swap_in (X := Y) (q := b1) (d := b2) ?_⟩) (kk b1 da)
  rw [List.append_assoc] at h
  exact h

set_option maxHeartbeats 4000000 in
set_option maxRecDepth 100000 in
theorem d_txt {v : EV} {p : Program} {l : Launch} {e : Env} {s : State} {m : MethodId} {args : Array Value} {below : List Frame} {meth : Method} {c : Code} {Q : State → Prop} {qb : Nat} {S : Mem} (hC : Cx v p l e s m args meth c RL cL_does 8 (some .int)) {Y : va_W} {n mm pc : Nat} {lv : List (Nat × Value)} {st : List Value} (H : SBk S n mm) (hn : n < mm) (hd2 : decode cL_does pc = .ok (.invokevirtual 91, 3)) (hst : (st.map fun v => v.category).sum ≤ 8) (hq : 2 ≤ qb) (kk : ∀ (s1 a2 : Nat) (da : Nat → Nat), Mw (fun _ H => Lw v (wsW v da S ++ (Y ++ [(s1, .inr (8, [.ref a2, .int 0, .int 0, .int 0])), (a2, .inl (eC v 3, n, .inl (tx2 S n).2.2.2))])) H) v p l e (rmK 80 13 277) s m args below meth c 8 Q (qb - 2) S (pc + 3) lv (.ref s1 :: st)) : Mw (WE v Y) v p l e (rmK 80 13 277) s m args below meth c 8 Q qb S pc lv (.ref (eA v (pB 1)) :: st) := by
  refine we_ex (fun da => ?_)
  have e : capN S (13 + 2 * 1) = mm := H.2.1
  have hmm := H.2.2.2.1
  refine p_callB (R := rmK 80 13 277) (As := []) (b := 1) (q2 := qb - 2) hC (by decide) rfl mY_L_91 (c_SB_toString (X := Y) (n := n) (stb_all _) (by decide) H.1 (by rw [e]; exact hn) (by rw [e]; omega) H.2.2.2.2.1) rfl rfl (by omega) ⟨Nat.le_of_ble_eq_true rfl, Nat.le_of_ble_eq_true rfl⟩ hst hd2 (fun u => ?_)
  refine n_ex (fun s1 => ?_)
  refine n_ex (fun a2 => ?_)
  refine n_and (fun e1 => ?_)
  subst e1
  exact kk s1 a2 da

set_option maxHeartbeats 4000000 in
set_option maxRecDepth 100000 in
theorem d_tail {v0 : EV} {p : Program} {l : Launch} {e : Env} {s : State} {m : MethodId} {args : Array Value} {below : List Frame} {meth : Method} {c : Code} {qb : Nat} {S0 S : Mem} (hC0 : Cx v0 p l e s m args meth c RL cL_does 8 (some .int)) {q s1 a2 n : Nat} {f : Nat → Int32} {da0 : Nat → Nat} {lv : List (Nat × Value)} {r : Int32 × Mem} (H : SBk S 12 16) (hn : 5 ≤ n ∧ n ≤ 10) (hf : yfit (0, 0, n, f)) (hp : ypr (0, 0, n, f)) (hS : ∀ b j, b ≠ 15 → b ≠ 16 → S b j = S0 b j) (hq : 67 ≤ qb) (hr : g_L_reads S0 (tx2 (appY S 1 12 (0, 0, n, f)) (12 + n)) = some r) :
    Mw (WE (vB v0 q) (oldB v0 da0 S0 ++ [(s1, .inr (8, [.ref a2, .int 0, .int 0, .int 0])), (a2, .inl (eC v0 3, n, .inl f))])) (vB v0 q) p l e (rmK 80 13 277) s m args below meth c 8 (MQ below (Qc v0 (some (.int r.1)) r.2) args s 80 (160 * 80) (eG v0)) qb S 330 lv [.ref s1, .ref (eA (vB v0 q) (pB 1)), .ref (eA v0 198)] := by
  have hC : Cx (vB v0 q) p l e s m args meth c RL cL_does 8 (some .int) := hC0
  have e34 : sb_cap (12 + n) 16 = 34 := by
    unfold sb_cap
    rw [if_neg (by omega)]
    split <;> omega
  refine gx_callB (R := rmK 80 13 277) (ys := [(s1, a2, n, f)]) (As := [.ref s1]) (b := 1) (S1 := appY S 1 12 (0, 0, n, f)) (q2 := qb - 1) hC (by decide) rfl mY_L_81 (fun Hh hW z hz => ?_) (c_SB_appY (stb_all _) (by decide) (q := (s1, a2, n, f)) (List.mem_append_right _ List.mem_cons_self) (k := 12) H.1 (by decide) (show n ≤ 60 by omega) (sb_m H) (sb_a H (by show sb_cap (12 + n) 16 ≤ 160; rw [e34]; decide)) H.2.2.2.2.1 hf) rfl rfl (by omega) ⟨Nat.le_of_ble_eq_true rfl, Nat.le_of_ble_eq_true rfl⟩ (Nat.le_of_ble_eq_true rfl) dL_does_330 ?_
  · obtain ⟨da, hL⟩ := hW
    rw [List.mem_singleton.mp hz]
    exact sf_of (k1 := 2) (k2 := 3) hC hL rfl rfl
  have H2 : SBk (appY S 1 12 (0, 0, n, f)) (12 + n) 34 := by
    have := sbk_Y (q := (0, 0, n, f)) H (by show sb_cap (12 + n) 16 ≤ 34; rw [e34]; exact Nat.le_refl _) hf hp
    rw [← e34]
    exact this
  refine d_txt hC H2 (by omega) dL_does_333 (Nat.le_of_ble_eq_true rfl) (by omega) (fun t1 b2 da => ?_)
  have hS2 : ∀ b j, b ≠ 15 → b ≠ 16 → appY S 1 12 (0, 0, n, f) b j = S0 b j := by
    intro b j h1 h2
    unfold appY
    rw [up_ne _ _ (by omega)]
    unfold setB
    rw [if_neg (by omega)]
    unfold ens
    split
    · exact hS b j h1 h2
    · unfold grw
      rw [if_neg (by omega), if_neg (by omega)]
      exact hS b j h1 h2
  refine Mw.re (Wd' := WE v0 [(t1, .inr (8, [.ref b2, .int 0, .int 0, .int 0])), (b2, .inl (eC v0 3, 12 + n, .inl (tx2 (appY S 1 12 (0, 0, n, f)) (12 + n)).2.2.2))]) (S' := S0) (fun Hh h => ⟨_, swap_out (l_perm h) hS2⟩) ?_
  show Mw _ v0 p l e _ s m args below meth c 8 _ _ S0 336 lv [.ref t1, .ref (eA v0 198)]
  have hr2 : g_L_reads S0 (t1, b2, (tx2 (appY S 1 12 (0, 0, n, f)) (12 + n)).2.2) = some r := hr
  refine x_callS (R := rmK 80 13 277) (q2 := qb - 1 - 2 - 64) (As := [.ref (eA v0 198), .ref t1]) hC0 [(t1, b2, (tx2 (appY S 1 12 (0, 0, n, f)) (12 + n)).2.2)] [] mS_L_99 (fun Hh hW z hz => ?_) (fun _ _ => no_i) (c_L_reads (v := vz v0 _ [(t1, b2, (tx2 (appY S 1 12 (0, 0, n, f)) (12 + n)).2.2)] []) (d1_0 := (t1, b2, (tx2 (appY S 1 12 (0, 0, n, f)) (12 + n)).2.2)) (stb_all _) (List.mem_append_right _ List.mem_cons_self) hr2) rfl rfl (by omega) ⟨Nat.le_of_ble_eq_true rfl, Nat.le_of_ble_eq_true rfl⟩ (Nat.le_of_ble_eq_true rfl) dL_does_336 ?_
  · obtain ⟨da, hL⟩ := hW
    rw [List.mem_singleton.mp hz]
    exact sf_of (k1 := 0) (k2 := 1) hC0 hL rfl rfl
  exact r_iret (fun S9 H9 h9 => h9.elim fun da h => ⟨da, l_drop h⟩) hC0 dL_does_339

set_option maxHeartbeats 4000000 in
set_option maxRecDepth 100000 in
theorem c_d18 {v : EV} {p : Program} {l : Launch} {e : Env} {s : State} {m : MethodId} {args : Array Value} {below : List Frame} {meth : Method} {c : Code} {qb : Nat} (hC : Cx v p l e s m args meth c RL cL_does 8 (some .int)) (hLY : LY v) {S : Mem} {x3 x4 : Int32} {r : Int32 × Mem} (hq : 80 ≤ qb) (hf : g_L_d18 S x3 x4 = some r) : Mj v p l e (rmK 80 13 277) s m args below meth c 8 (MQ below (Qc v (some (.int r.1)) r.2) args s 80 (160 * 80) (eG v)) qb S 238 [(0, .ref (eA v 198)), (3, .int x3), (4, .int x4)] [] := by
  obtain ⟨hx, hf⟩ := ck_of hf
  rw [Bool.and_eq_true, decide_eq_true_eq, decide_eq_true_eq] at hx
  obtain ⟨a3, ha3, rfl⟩ := nI_of (Int32.not_lt.mpr hx.1)
  obtain ⟨a4, ha4, rfl⟩ := nI_of (Int32.not_lt.mpr hx.2)
  rw [nI_clamp ha3, nI_clamp ha4] at hf
  refine i_aload_n hC dL_does_238 rfl ?_
  refine Mw.re (Wd' := WE v []) (S' := S) (fun H h => h.elim fun da h => ⟨da, by rw [List.append_nil]; exact h⟩) ?_
  refine d_new hC dL_does_239 dL_does_242 dL_does_243 (Nat.le_of_ble_eq_true rfl) (by omega) (fun q da0 => ?_)
  have hC1 : Cx (vB v q) p l e s m args meth c RL cL_does 8 (some .int) := hC
  have hLY1 : LY (vB v q) := hLY
  have H0 : SBk (fresh S) 0 16 := sbk_0
  refine d_lit (i := 0) hC1 hLY1 (by decide) H0 (by decide) dL_does_246 dL_does_248 (Nat.le_of_ble_eq_true rfl) (by omega) ?_
  have H1 : SBk (appY (fresh S) 1 0 (yL 0)) 5 16 := sbk_Y (k := 0) H0 (by decide) (yL_ok 0 (by decide)).1 (yL_ok 0 (by decide)).2
  refine i_iconst hC1 (x := (1 : Int32)) dL_does_251 (by decide) ?_
  refine i_iload_n hC1 (x := nI a3) dL_does_252 rfl ?_
  refine i_iconst hC1 (x := (4 : Int32)) dL_does_253 (by decide) ?_
  refine i_irem hC1 dL_does_254 (by decide) ?_
  refine i_iadd hC1 dL_does_255 ?_
  refine d_dig (w := 1 + a3 % 4) hC1 (by rw [show (4 : Int32) = nI 4 from rfl, pk_rem ha3 (by decide) (by decide)]; exact nI_add 1 (a3 % 4)) (by omega) H1 (by decide) dL_does_256 (Nat.le_of_ble_eq_true rfl) (by omega) ?_
  have H2 := sbk_I (w := 1 + a3 % 4) H1 (by omega) (by decide)
  refine d_lit (i := 1) hC1 hLY1 (by decide) H2 (by decide) dL_does_259 dL_does_261 (Nat.le_of_ble_eq_true rfl) (by omega) ?_
  have H3 : SBk _ 11 16 := sbk_Y (k := 6) H2 (by decide) (yL_ok 1 (by decide)).1 (yL_ok 1 (by decide)).2
  refine i_iload hC1 (x := nI a4) dL_does_264 rfl ?_
  refine i_bipush hC1 (x := (6 : Int32)) dL_does_266 (by decide) ?_
  refine i_irem hC1 dL_does_268 (by decide) ?_
  refine d_dig (w := a4 % 6) hC1 (by rw [show (6 : Int32) = nI 6 from rfl, pk_rem ha4 (by decide) (by decide)]) (by omega) H3 (by decide) dL_does_269 (Nat.le_of_ble_eq_true rfl) (by omega) ?_
  have H4 : SBk (tA S (1 + a3 % 4) (a4 % 6)) 12 16 := tA_ok (by omega) (by omega)
  show Mw (WE (vB v q) ([] ++ oldB v da0 S)) (vB v q) p l e _ s m args below meth c 8 _ _ (tA S (1 + a3 % 4) (a4 % 6)) 272 _ _
  have hSA : ∀ b j, b ≠ 15 → b ≠ 16 → tA S (1 + a3 % 4) (a4 % 6) b j = S b j := fun b j h1 h2 => tA_far h1 h2
  generalize hA : tA S (1 + a3 % 4) (a4 % 6) = A at H4 hSA ⊢
  have hD0 := tD_ok (S := A) (a3 := a3) (a4 := a4)
  have hf2 : g_L_reads S (tx2 (appY A 1 12 (0, 0, (tD A a3 a4).2, (tx2 (tD A a3 a4).1 (tD A a3 a4).2).2.2.2)) (12 + (tD A a3 a4).2)) = some r := by rw [← hA]; exact hf
  refine i_iload_n hC1 (x := nI a3) dL_does_272 rfl ?_
  refine i_iconst hC1 (x := (3 : Int32)) dL_does_273 (by decide) ?_
  refine i_irem hC1 dL_does_274 (by decide) ?_
  rw [show nI a3 - nI a3 / (3 : Int32) * (3 : Int32) = nI (a3 % 3) from pk_rem ha3 (by decide) (by decide)]
  refine i_if_ne hC1 (tgt := 303) dL_does_275 (by decide) (fun z3 => ?_) (fun z3 => ?_)
  · have hd : tD A a3 a4 = (tC A (a4 % 5), 10) := if_neg fun z => z3 (by rw [z]; rfl)
    rw [hd] at hf2
    refine d_new hC1 dL_does_303 dL_does_306 dL_does_307 (Nat.le_of_ble_eq_true rfl) (by omega) (fun q2 da1 => ?_)
    have hC2 : Cx (vB (vB v q) q2) p l e s m args meth c RL cL_does 8 (some .int) := hC
    have hLY2 : LY (vB (vB v q) q2) := hLY
    refine d_lit (i := 3) hC2 hLY2 (by decide) (sbk_0 (S := A)) (by decide) dL_does_310 dL_does_312 (Nat.le_of_ble_eq_true rfl) (by omega) ?_
    have K1 : SBk (appY (fresh A) 1 0 (yL 3)) 7 16 := sbk_Y (k := 0) sbk_0 (by decide) (yL_ok 3 (by decide)).1 (yL_ok 3 (by decide)).2
    refine i_iload hC2 (x := nI a4) dL_does_315 rfl ?_
    refine i_iconst hC2 (x := (5 : Int32)) dL_does_317 (by decide) ?_
    refine i_irem hC2 dL_does_318 (by decide) ?_
    refine d_dig (w := a4 % 5) hC2 (by rw [show (5 : Int32) = nI 5 from rfl, pk_rem ha4 (by decide) (by decide)]) (by omega) K1 (by decide) dL_does_319 (Nat.le_of_ble_eq_true rfl) (by omega) ?_
    have K2 := sbk_I (w := a4 % 5) K1 (by omega) (by decide)
    refine d_lit (i := 4) hC2 hLY2 (by decide) K2 (by decide) dL_does_322 dL_does_324 (Nat.le_of_ble_eq_true rfl) (by omega) ?_
    have K3 : SBk (tC A (a4 % 5)) 10 16 := tC_ok (by omega)
    refine d_txt (n := 10) hC2 K3 (by decide) dL_does_327 (Nat.le_of_ble_eq_true rfl) (by omega) (fun s1 a2 da2 => ?_)
    refine Mw.re (Wd' := WE (vB v q) (oldB v da0 S ++ [(s1, .inr (8, [.ref a2, .int 0, .int 0, .int 0])), (a2, .inl (eC v 3, 10, .inl (tx2 (tC A (a4 % 5)) 10).2.2.2))])) (S' := A) (fun H h => ⟨_, swap_out (v := vB v q) (da := da1) (S := A) (l_last h) (fun b j h1 h2 => tC_far h1 h2)⟩) ?_
    have k5 := tx2_ok K3
    exact d_tail hC H4 (by decide) k5.1 k5.2 hSA (by omega) hf2
  · have z3 : a3 % 3 = 0 := (nI_eq (a := a3 % 3) (b := 0) (by omega) (by decide)).mp z3
    have hd : tD A a3 a4 = (tB A (a4 % 3), 7) := if_pos z3
    rw [hd] at hf2
    refine d_new hC1 dL_does_278 dL_does_281 dL_does_282 (Nat.le_of_ble_eq_true rfl) (by omega) (fun q2 da1 => ?_)
    have hC2 : Cx (vB (vB v q) q2) p l e s m args meth c RL cL_does 8 (some .int) := hC
    have hLY2 : LY (vB (vB v q) q2) := hLY
    refine d_lit (i := 2) hC2 hLY2 (by decide) (sbk_0 (S := A)) (by decide) dL_does_285 dL_does_287 (Nat.le_of_ble_eq_true rfl) (by omega) ?_
    have K1 : SBk (appY (fresh A) 1 0 (yL 2)) 6 16 := sbk_Y (k := 0) sbk_0 (by decide) (yL_ok 2 (by decide)).1 (yL_ok 2 (by decide)).2
    refine i_iload hC2 (x := nI a4) dL_does_290 rfl ?_
    refine i_iconst hC2 (x := (3 : Int32)) dL_does_292 (by decide) ?_
    refine i_irem hC2 dL_does_293 (by decide) ?_
    refine d_dig (w := a4 % 3) hC2 (by rw [show (3 : Int32) = nI 3 from rfl, pk_rem ha4 (by decide) (by decide)]) (by omega) K1 (by decide) dL_does_294 (Nat.le_of_ble_eq_true rfl) (by omega) ?_
    have K3 : SBk (tB A (a4 % 3)) 7 16 := tB_ok (by omega)
    refine d_txt (n := 7) hC2 K3 (by decide) dL_does_297 (Nat.le_of_ble_eq_true rfl) (by omega) (fun s1 a2 da2 => ?_)
    refine Mw.re (Wd' := WE (vB v q) (oldB v da0 S ++ [(s1, .inr (8, [.ref a2, .int 0, .int 0, .int 0])), (a2, .inl (eC v 3, 7, .inl (tx2 (tB A (a4 % 3)) 7).2.2.2))])) (S' := A) (fun H h => ⟨_, swap_out (v := vB v q) (da := da1) (S := A) (l_last h) (fun b j h1 h2 => tB_far h1 h2)⟩) ?_
    refine i_goto hC1 (tgt := 330) dL_does_300 (by decide) ?_
    have k5 := tx2_ok K3
    exact d_tail hC H4 (by decide) k5.1 k5.2 hSA (by omega) hf2

