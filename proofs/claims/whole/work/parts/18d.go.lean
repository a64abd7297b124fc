set_option maxHeartbeats 4000000 in
set_option maxRecDepth 100000 in
theorem law_sw {v : EV} {p : Program} {l : Launch} {e : Env} {s : State} {m : MethodId} {args : Array Value} {below : List Frame} {meth : Method} {c : Code} {Q : State → Prop} {qb b L J n : Nat} {xs : Nat → Int32} {S : Mem} {Inv : Nat → Mem → Prop} (hC : Cx v p l e s m args meth c RL cL_law 8 (some .boolean)) (hX : va_X b L xs s s.heap ∧ b < s.heap.size ∧ ¬ eG v b) (hP : LawP Inv) (hn : n < 512) (hI : Inv n S) (hL : L < 2 ^ 31) (hJ : J + 4 ≤ L) (hq : 50 ≤ qb) (k : ∀ S2, Inv (n + 1) S2 → Mj v p l e room_1 s m args below meth c 8 Q (qb - 50) S2 1202 [(0, .ref b), (1, .ref (eA v 198)), (2, .ref (eA v 218)), (3, .int (nI J))] []) : Mj v p l e room_1 s m args below meth c 8 Q qb S 26 [(0, .ref b), (1, .ref (eA v 198)), (2, .ref (eA v 218)), (3, .int (nI J))] [] := by
  refine i_aload_n hC dL_law_26 rfl ?_
  refine i_iload_n hC dL_law_27 rfl ?_
  refine i_sld hC hX (by omega) hL dL_law_28 ?_
  refine i_bipush hC (x := (63 : Int32)) dL_law_29 (by decide) ?_
  refine i_iand hC dL_law_31 ?_
  by_cases c0 : (xs J &&& (63 : Int32)) = (0 : Int32)
  · refine i_tabIn hC (tgt := 208) dL_law_32 c0 (show (0 : Int32).toInt = 0 by decide) (by decide) (by decide) rfl (by decide) ?_
    exact law_0 hC hX hP hn hI hL hJ hq k
  by_cases c1 : (xs J &&& (63 : Int32)) = (1 : Int32)
  · refine i_tabIn hC (tgt := 221) dL_law_32 c1 (show (1 : Int32).toInt = 1 by decide) (by decide) (by decide) rfl (by decide) ?_
    exact law_1 hC hX hP hn hI hL hJ hq k
  by_cases c2 : (xs J &&& (63 : Int32)) = (2 : Int32)
  · refine i_tabIn hC (tgt := 246) dL_law_32 c2 (show (2 : Int32).toInt = 2 by decide) (by decide) (by decide) rfl (by decide) ?_
    exact law_2 hC hX hP hn hI hL hJ hq k
  by_cases c3 : (xs J &&& (63 : Int32)) = (3 : Int32)
  · refine i_tabIn hC (tgt := 269) dL_law_32 c3 (show (3 : Int32).toInt = 3 by decide) (by decide) (by decide) rfl (by decide) ?_
    exact law_3 hC hX hP hn hI hL hJ hq k
  by_cases c4 : (xs J &&& (63 : Int32)) = (4 : Int32)
  · refine i_tabIn hC (tgt := 292) dL_law_32 c4 (show (4 : Int32).toInt = 4 by decide) (by decide) (by decide) rfl (by decide) ?_
    exact law_4 hC hX hP hn hI hL hJ hq k
  by_cases c5 : (xs J &&& (63 : Int32)) = (5 : Int32)
  · refine i_tabIn hC (tgt := 315) dL_law_32 c5 (show (5 : Int32).toInt = 5 by decide) (by decide) (by decide) rfl (by decide) ?_
    exact law_5 hC hX hP hn hI hL hJ hq k
  by_cases c6 : (xs J &&& (63 : Int32)) = (6 : Int32)
  · refine i_tabIn hC (tgt := 350) dL_law_32 c6 (show (6 : Int32).toInt = 6 by decide) (by decide) (by decide) rfl (by decide) ?_
    exact law_6 hC hX hP hn hI hL hJ hq k
  by_cases c7 : (xs J &&& (63 : Int32)) = (7 : Int32)
  · refine i_tabIn hC (tgt := 373) dL_law_32 c7 (show (7 : Int32).toInt = 7 by decide) (by decide) (by decide) rfl (by decide) ?_
    exact law_7 hC hX hP hn hI hL hJ hq k
  by_cases c8 : (xs J &&& (63 : Int32)) = (8 : Int32)
  · refine i_tabIn hC (tgt := 396) dL_law_32 c8 (show (8 : Int32).toInt = 8 by decide) (by decide) (by decide) rfl (by decide) ?_
    exact law_8 hC hX hP hn hI hL hJ hq k
  by_cases c9 : (xs J &&& (63 : Int32)) = (9 : Int32)
  · refine i_tabIn hC (tgt := 429) dL_law_32 c9 (show (9 : Int32).toInt = 9 by decide) (by decide) (by decide) rfl (by decide) ?_
    exact law_9 hC hX hP hn hI hL hJ hq k
  by_cases c10 : (xs J &&& (63 : Int32)) = (10 : Int32)
  · refine i_tabIn hC (tgt := 462) dL_law_32 c10 (show (10 : Int32).toInt = 10 by decide) (by decide) (by decide) rfl (by decide) ?_
    exact law_10 hC hX hP hn hI hL hJ hq k
  by_cases c11 : (xs J &&& (63 : Int32)) = (11 : Int32)
  · refine i_tabIn hC (tgt := 485) dL_law_32 c11 (show (11 : Int32).toInt = 11 by decide) (by decide) (by decide) rfl (by decide) ?_
    exact law_11 hC hX hP hn hI hL hJ hq k
  by_cases c12 : (xs J &&& (63 : Int32)) = (12 : Int32)
  · refine i_tabIn hC (tgt := 498) dL_law_32 c12 (show (12 : Int32).toInt = 12 by decide) (by decide) (by decide) rfl (by decide) ?_
    exact law_12 hC hX hP hn hI hL hJ hq k
  by_cases c13 : (xs J &&& (63 : Int32)) = (13 : Int32)
  · refine i_tabIn hC (tgt := 511) dL_law_32 c13 (show (13 : Int32).toInt = 13 by decide) (by decide) (by decide) rfl (by decide) ?_
    exact law_13 hC hX hP hn hI hL hJ hq k
  by_cases c14 : (xs J &&& (63 : Int32)) = (14 : Int32)
  · refine i_tabIn hC (tgt := 560) dL_law_32 c14 (show (14 : Int32).toInt = 14 by decide) (by decide) (by decide) rfl (by decide) ?_
    exact law_14 hC hX hP hn hI hL hJ hq k
  by_cases c15 : (xs J &&& (63 : Int32)) = (15 : Int32)
  · refine i_tabIn hC (tgt := 593) dL_law_32 c15 (show (15 : Int32).toInt = 15 by decide) (by decide) (by decide) rfl (by decide) ?_
    exact law_15 hC hX hP hn hI hL hJ hq k
  by_cases c16 : (xs J &&& (63 : Int32)) = (16 : Int32)
  · refine i_tabIn hC (tgt := 652) dL_law_32 c16 (show (16 : Int32).toInt = 16 by decide) (by decide) (by decide) rfl (by decide) ?_
    exact law_16 hC hX hP hn hI hL hJ hq k
  by_cases c17 : (xs J &&& (63 : Int32)) = (17 : Int32)
  · refine i_tabIn hC (tgt := 665) dL_law_32 c17 (show (17 : Int32).toInt = 17 by decide) (by decide) (by decide) rfl (by decide) ?_
    exact law_17 hC hX hP hn hI hL hJ hq k
  by_cases c18 : (xs J &&& (63 : Int32)) = (18 : Int32)
  · refine i_tabIn hC (tgt := 698) dL_law_32 c18 (show (18 : Int32).toInt = 18 by decide) (by decide) (by decide) rfl (by decide) ?_
    exact law_18 hC hX hP hn hI hL hJ hq k
  by_cases c19 : (xs J &&& (63 : Int32)) = (19 : Int32)
  · refine i_tabIn hC (tgt := 731) dL_law_32 c19 (show (19 : Int32).toInt = 19 by decide) (by decide) (by decide) rfl (by decide) ?_
    exact law_19 hC hX hP hn hI hL hJ hq k
  by_cases c20 : (xs J &&& (63 : Int32)) = (20 : Int32)
  · refine i_tabIn hC (tgt := 764) dL_law_32 c20 (show (20 : Int32).toInt = 20 by decide) (by decide) (by decide) rfl (by decide) ?_
    exact law_20 hC hX hP hn hI hL hJ hq k
  by_cases c21 : (xs J &&& (63 : Int32)) = (21 : Int32)
  · refine i_tabIn hC (tgt := 787) dL_law_32 c21 (show (21 : Int32).toInt = 21 by decide) (by decide) (by decide) rfl (by decide) ?_
    exact law_21 hC hX hP hn hI hL hJ hq k
  by_cases c22 : (xs J &&& (63 : Int32)) = (22 : Int32)
  · refine i_tabIn hC (tgt := 810) dL_law_32 c22 (show (22 : Int32).toInt = 22 by decide) (by decide) (by decide) rfl (by decide) ?_
    exact law_22 hC hX hP hn hI hL hJ hq k
  by_cases c23 : (xs J &&& (63 : Int32)) = (23 : Int32)
  · refine i_tabIn hC (tgt := 843) dL_law_32 c23 (show (23 : Int32).toInt = 23 by decide) (by decide) (by decide) rfl (by decide) ?_
    exact law_23 hC hX hP hn hI hL hJ hq k
  by_cases c24 : (xs J &&& (63 : Int32)) = (24 : Int32)
  · refine i_tabIn hC (tgt := 876) dL_law_32 c24 (show (24 : Int32).toInt = 24 by decide) (by decide) (by decide) rfl (by decide) ?_
    exact law_24 hC hX hP hn hI hL hJ hq k
  by_cases c25 : (xs J &&& (63 : Int32)) = (25 : Int32)
  · refine i_tabIn hC (tgt := 889) dL_law_32 c25 (show (25 : Int32).toInt = 25 by decide) (by decide) (by decide) rfl (by decide) ?_
    exact law_25 hC hX hP hn hI hL hJ hq k
  by_cases c26 : (xs J &&& (63 : Int32)) = (26 : Int32)
  · refine i_tabIn hC (tgt := 902) dL_law_32 c26 (show (26 : Int32).toInt = 26 by decide) (by decide) (by decide) rfl (by decide) ?_
    exact law_26 hC hX hP hn hI hL hJ hq k
  by_cases c27 : (xs J &&& (63 : Int32)) = (27 : Int32)
  · refine i_tabIn hC (tgt := 915) dL_law_32 c27 (show (27 : Int32).toInt = 27 by decide) (by decide) (by decide) rfl (by decide) ?_
    exact law_27 hC hX hP hn hI hL hJ hq k
  by_cases c28 : (xs J &&& (63 : Int32)) = (28 : Int32)
  · refine i_tabIn hC (tgt := 928) dL_law_32 c28 (show (28 : Int32).toInt = 28 by decide) (by decide) (by decide) rfl (by decide) ?_
    exact law_28 hC hX hP hn hI hL hJ hq k
  by_cases c29 : (xs J &&& (63 : Int32)) = (29 : Int32)
  · refine i_tabIn hC (tgt := 951) dL_law_32 c29 (show (29 : Int32).toInt = 29 by decide) (by decide) (by decide) rfl (by decide) ?_
    exact law_29 hC hX hP hn hI hL hJ hq k
  by_cases c30 : (xs J &&& (63 : Int32)) = (30 : Int32)
  · refine i_tabIn hC (tgt := 974) dL_law_32 c30 (show (30 : Int32).toInt = 30 by decide) (by decide) (by decide) rfl (by decide) ?_
    exact law_30 hC hX hP hn hI hL hJ hq k
  by_cases c31 : (xs J &&& (63 : Int32)) = (31 : Int32)
  · refine i_tabIn hC (tgt := 987) dL_law_32 c31 (show (31 : Int32).toInt = 31 by decide) (by decide) (by decide) rfl (by decide) ?_
    exact law_31 hC hX hP hn hI hL hJ hq k
  by_cases c32 : (xs J &&& (63 : Int32)) = (32 : Int32)
  · refine i_tabIn hC (tgt := 1010) dL_law_32 c32 (show (32 : Int32).toInt = 32 by decide) (by decide) (by decide) rfl (by decide) ?_
    exact law_32 hC hX hP hn hI hL hJ hq k
  by_cases c33 : (xs J &&& (63 : Int32)) = (33 : Int32)
  · refine i_tabIn hC (tgt := 1033) dL_law_32 c33 (show (33 : Int32).toInt = 33 by decide) (by decide) (by decide) rfl (by decide) ?_
    exact law_33 hC hX hP hn hI hL hJ hq k
  by_cases c34 : (xs J &&& (63 : Int32)) = (34 : Int32)
  · refine i_tabIn hC (tgt := 1056) dL_law_32 c34 (show (34 : Int32).toInt = 34 by decide) (by decide) (by decide) rfl (by decide) ?_
    exact law_34 hC hX hP hn hI hL hJ hq k
  by_cases c35 : (xs J &&& (63 : Int32)) = (35 : Int32)
  · refine i_tabIn hC (tgt := 1099) dL_law_32 c35 (show (35 : Int32).toInt = 35 by decide) (by decide) (by decide) rfl (by decide) ?_
    exact law_35 hC hX hP hn hI hL hJ hq k
  by_cases c36 : (xs J &&& (63 : Int32)) = (36 : Int32)
  · refine i_tabIn hC (tgt := 1140) dL_law_32 c36 (show (36 : Int32).toInt = 36 by decide) (by decide) (by decide) rfl (by decide) ?_
    exact law_36 hC hX hP hn hI hL hJ hq k
  by_cases c37 : (xs J &&& (63 : Int32)) = (37 : Int32)
  · refine i_tabIn hC (tgt := 1163) dL_law_32 c37 (show (37 : Int32).toInt = 37 by decide) (by decide) (by decide) rfl (by decide) ?_
    exact law_37 hC hX hP hn hI hL hJ hq k
  by_cases c38 : (xs J &&& (63 : Int32)) = (38 : Int32)
  · refine i_tabIn hC (tgt := 1176) dL_law_32 c38 (show (38 : Int32).toInt = 38 by decide) (by decide) (by decide) rfl (by decide) ?_
    exact law_38 hC hX hP hn hI hL hJ hq k
  by_cases c39 : (xs J &&& (63 : Int32)) = (39 : Int32)
  · refine i_tabIn hC (tgt := 1189) dL_law_32 c39 (show (39 : Int32).toInt = 39 by decide) (by decide) (by decide) rfl (by decide) ?_
    exact law_39 hC hX hP hn hI hL hJ hq k
  refine i_tabOut hC (x := (xs J &&& (63 : Int32))) (tgt := 1202) dL_law_32 (by
    have z0 := lv_neT c0 (show (0 : Int32).toInt = 0 by decide)
    have z1 := lv_neT c1 (show (1 : Int32).toInt = 1 by decide)
    have z2 := lv_neT c2 (show (2 : Int32).toInt = 2 by decide)
    have z3 := lv_neT c3 (show (3 : Int32).toInt = 3 by decide)
    have z4 := lv_neT c4 (show (4 : Int32).toInt = 4 by decide)
    have z5 := lv_neT c5 (show (5 : Int32).toInt = 5 by decide)
    have z6 := lv_neT c6 (show (6 : Int32).toInt = 6 by decide)
    have z7 := lv_neT c7 (show (7 : Int32).toInt = 7 by decide)
    have z8 := lv_neT c8 (show (8 : Int32).toInt = 8 by decide)
    have z9 := lv_neT c9 (show (9 : Int32).toInt = 9 by decide)
    have z10 := lv_neT c10 (show (10 : Int32).toInt = 10 by decide)
    have z11 := lv_neT c11 (show (11 : Int32).toInt = 11 by decide)
    have z12 := lv_neT c12 (show (12 : Int32).toInt = 12 by decide)
    have z13 := lv_neT c13 (show (13 : Int32).toInt = 13 by decide)
    have z14 := lv_neT c14 (show (14 : Int32).toInt = 14 by decide)
    have z15 := lv_neT c15 (show (15 : Int32).toInt = 15 by decide)
    have z16 := lv_neT c16 (show (16 : Int32).toInt = 16 by decide)
    have z17 := lv_neT c17 (show (17 : Int32).toInt = 17 by decide)
    have z18 := lv_neT c18 (show (18 : Int32).toInt = 18 by decide)
    have z19 := lv_neT c19 (show (19 : Int32).toInt = 19 by decide)
    have z20 := lv_neT c20 (show (20 : Int32).toInt = 20 by decide)
    have z21 := lv_neT c21 (show (21 : Int32).toInt = 21 by decide)
    have z22 := lv_neT c22 (show (22 : Int32).toInt = 22 by decide)
    have z23 := lv_neT c23 (show (23 : Int32).toInt = 23 by decide)
    have z24 := lv_neT c24 (show (24 : Int32).toInt = 24 by decide)
    have z25 := lv_neT c25 (show (25 : Int32).toInt = 25 by decide)
    have z26 := lv_neT c26 (show (26 : Int32).toInt = 26 by decide)
    have z27 := lv_neT c27 (show (27 : Int32).toInt = 27 by decide)
    have z28 := lv_neT c28 (show (28 : Int32).toInt = 28 by decide)
    have z29 := lv_neT c29 (show (29 : Int32).toInt = 29 by decide)
    have z30 := lv_neT c30 (show (30 : Int32).toInt = 30 by decide)
    have z31 := lv_neT c31 (show (31 : Int32).toInt = 31 by decide)
    have z32 := lv_neT c32 (show (32 : Int32).toInt = 32 by decide)
    have z33 := lv_neT c33 (show (33 : Int32).toInt = 33 by decide)
    have z34 := lv_neT c34 (show (34 : Int32).toInt = 34 by decide)
    have z35 := lv_neT c35 (show (35 : Int32).toInt = 35 by decide)
    have z36 := lv_neT c36 (show (36 : Int32).toInt = 36 by decide)
    have z37 := lv_neT c37 (show (37 : Int32).toInt = 37 by decide)
    have z38 := lv_neT c38 (show (38 : Int32).toInt = 38 by decide)
    have z39 := lv_neT c39 (show (39 : Int32).toInt = 39 by decide)
    omega) (by decide) ?_
  exact Mw.less (by omega) (Mj.to (k S (hP.1 n S hI)) ⟨rfl, rfl, rfl, rfl, trivial⟩)
set_option maxHeartbeats 4000000 in
theorem law_loop {v : EV} {p : Program} {l : Launch} {e : Env} {s : State} {m : MethodId} {args : Array Value} {below : List Frame} {meth : Method} {c : Code} {Q : State → Prop} {b L : Nat} {xs : Nat → Int32} {Inv : Nat → Mem → Prop} (hC : Cx v p l e s m args meth c RL cL_law 8 (some .boolean)) (hX : va_X b L xs s s.heap ∧ b < s.heap.size ∧ ¬ eG v b) (hP : LawP Inv) (hL : L ≤ 2048) (kend : ∀ (S : Mem) (J : Nat), Mj v p l e room_1 s m args below meth c 8 Q 0 S 1208 [(0, .ref b), (1, .ref (eA v 198)), (2, .ref (eA v 218)), (3, .int (nI J))] []) : ∀ (f i : Nat) (S : Mem), i + f = 513 → 4 * i ≤ L + 3 → Inv i S → Mj v p l e room_1 s m args below meth c 8 Q (50 * f) S 18 [(0, .ref b), (1, .ref (eA v 198)), (2, .ref (eA v 218)), (3, .int (nI (4 * i)))] [] := by
  intro f
  induction f with
  | zero => intro i S h1 h2 hI; omega
  | succ f ih =>
    intro i S h1 h2 hI
    refine i_iload_n hC dL_law_18 rfl ?_
    refine i_aload_n hC dL_law_19 rfl ?_
    refine i_slen hC hX dL_law_20 ?_
    refine i_iconst hC (x := nI 4) dL_law_21 (by decide) ?_
    refine i_isub hC dL_law_22 ?_
    have e1 : (nI L - nI 4).toInt = (L : Int) - 4 := pk_sub_toInt (by omega) (by omega)
    have e2 : (nI (4 * i)).toInt = ((4 * i : Nat) : Int) := nI_toInt (by omega)
    refine i_icmp_gt hC (tgt := 1208) dL_law_23 (by decide) (fun c1 => ?_) (fun c1 => ?_)
    · exact Mw.less (by omega) (Mj.to (kend S (4 * i)) ⟨rfl, rfl, rfl, rfl, trivial⟩)
    · rw [Int32.lt_iff_toInt_lt, e1, e2] at c1
      refine law_sw (J := 4 * i) (n := i) hC hX hP (by omega) hI (by omega) (by omega) (by omega) (fun S2 h9 => ?_)
      refine i_iinc hC (y := nI 4) dL_law_1202 rfl (by decide) (by decide) ?_
      rw [nI_a, show 4 * i + 4 = 4 * (i + 1) by omega]
      refine i_goto hC (tgt := 18) dL_law_1205 (by decide) ?_
      exact Mw.less (by omega) (Mj.to (ih (i + 1) S2 (by omega) (by omega) h9) ⟨rfl, rfl, rfl, rfl, trivial⟩)
set_option maxHeartbeats 4000000 in
set_option maxRecDepth 100000 in
theorem whole_go {Inv : Nat → Mem → Prop} (hP : LawP Inv) (hI0 : Inv 0 Z0) {p : Program} {e : Env} {s : State} {m : MethodId} {below : List Frame} {meth : Method} {c : Code} (l : Launch) {b L : Nat} {xs : Nat → Int32} (hL : L ≤ 2048) (C0 : lw_At p s m meth c b L xs) : W p l e room_1 s m #[Value.ref b] below meth c s.heap [] 0 0 (lw_Z below #[Value.ref b] s) (entryFrame m ([Value.ref b] : List Value).toArray 8) := by
  obtain ⟨hx, hb, hr, hml, hown, hts, hX, hbl, hlocks, hgv⟩ := id C0
  obtain ⟨T, hT⟩ := eF_start hts hgv
  obtain ⟨D, C, hK⟩ := vK_start hts
  have hl := lv_entry ([.ref b]) (n := 8) (Nat.le_of_ble_eq_true rfl)
  rw [lg_entry_eq]
  generalize (lg_sl ([.ref b]) ++ List.replicate (8 - (lg_sl ([.ref b])).length) Slot.unset).toArray = ls at hl ⊢
  have hl : lv_has ls 8 [(0, .ref b)] := hl
  have hCx : ∀ A : Nat → Nat, Cx (D, C, A, s.heap.size, T) p l e s m #[Value.ref b] meth c RL cL_law 8 (some .boolean) := fun A => ⟨hx, hb, hml, hown, tw_start hts, hK A _ T, hT D C A, stb_all _, Nat.le_refl _, hr, hlocks⟩
  have hC := hCx (fun _ => 0)
  generalize hv0 : ((D, C, (fun _ => 0), s.heap.size, T) : EV) = v0 at hC
  have hXs := eX_start hts
  have M : Mw (fun _ H => Lw v0 [] H) v0 p l e room_1 s m #[Value.ref b] below meth c 8 (lw_Z below #[Value.ref b] s) (50 * 513 + 243) Z0 0 [(0, .ref b)] [] := by
    refine n_new (q2 := 50 * 513 + 242) hC nw_L_7 rfl dL_law_0 (fun a => ?_)
    refine i_dup hC dL_law_3 rfl ?_
    refine n_call (As := []) (q2 := 50 * 513 + 23) hC hXs mi_L_9 (c_X8_init (X := []) (a := a) hC.2.2.2.2.2.2.2.1) rfl rfl rfl ⟨by decide, by decide⟩ (Nat.le_of_ble_eq_true rfl) dL_law_4 ?_
    refine n_ex (fun r => ?_)
    refine n_ex (fun pb => ?_)
    refine n_ex (fun rs => ?_)
    refine n_ex (fun tb => ?_)
    refine n_ex (fun sb => ?_)
    refine n_and (fun hlen => ?_)
    refine i_astore_n hC dL_law_7 (by decide) ?_
    refine n_new (q2 := 50 * 513 + 22) hC nw_L_10 rfl dL_law_8 (fun a2 => ?_)
    refine i_dup hC dL_law_11 rfl ?_
    refine n_call (As := []) (q2 := 50 * 513) hC hXs mi_L_12 (c_X9_init (X := [] ++ LB v0 a r pb rs tb sb) (a := a2) hC.2.2.2.2.2.2.2.1) rfl rfl rfl ⟨by decide, by decide⟩ (Nat.le_of_ble_eq_true rfl) dL_law_12 ?_
    refine n_ex (fun f => ?_)
    refine n_and (fun hf0 => ?_)
    subst hf0
    refine i_astore_n hC dL_law_15 (by decide) ?_
    refine i_iconst hC (x := nI 0) dL_law_16 (by decide) ?_
    refine i_istore_n hC dL_law_17 (by decide) ?_
    have hC2 := hCx (adA a r pb rs tb sb f)
    have hv1 : ((D, C, adA a r pb rs tb sb f, s.heap.size, T) : EV) = evA v0 (adA a r pb rs tb sb f) := by rw [← hv0]; rfl
    rw [hv1] at hC2
    have hN : eN v0 = s.heap.size := by rw [← hv0]
    have hX2 : va_X b L xs s s.heap ∧ b < s.heap.size ∧ ¬ eG (evA v0 (adA a r pb rs tb sb f)) b := ⟨hX, hbl, by show ¬ eN v0 ≤ b; rw [hN]; omega⟩
    have G := law_loop (below := below) (Q := lw_Z below #[Value.ref b] s) hC2 hX2 hP hL (fun S J H locs ls cells slots hbu hW hS hl => by
      refine lv_iconst (v := 1) hx hb dL_law_1208 (by decide) ?_
      refine va_forget (fun q hq => by have := hS.2.2 q hq; rw [← hN]; exact this) ?_
      refine W.widen (k := 600000) (n := 7302250) hbu.1 hbu.2 ?_
      exact lw_ret (d0 := s.drawn) (Drawn.sameBut.refl s.drawn lw_cs) hx hb hr hlocks dL_law_1209) 513 0 Z0 rfl (by omega) hI0
    intro H locs ls cells slots hbu hW hS hl
    refine G H locs ls cells slots hbu ⟨daA tb sb, wf_WD (v := v0) hlen.1 hlen.2.1 hlen.2.2 ?_⟩ hS (subl_has hl ⟨rfl, rfl, rfl, rfl, trivial⟩)
    rw [← wf_eq]
    exact hW
  exact M s.heap [] ls 0 0 ⟨by decide, by decide⟩ ⟨fun k q h => by simp at h, fun i j p q h => by simp at h, fun k q h => by simp at h⟩ va_S.rf hl
