theorem mw_593 : Cond.methodLink RL 40 yX8_driver ∈ TW := tw_of (i := 593) (by decide +kernel) rfl
theorem mw_594 : Cond.instanceMethod yX8_driver ∈ TW := tw_of (i := 594) (by decide +kernel) rfl
theorem mw_595 : Cond.selects RX8 yX8_driver yX8_driver ∈ TW := tw_of (i := 595) (by decide +kernel) rfl
theorem mw_596 : Cond.code yX8_driver cX8_driver 2 (some .int) ∈ TW := tw_of (i := 596) (by decide +kernel) rfl
theorem mv_L_40 : MV RL 40 yX8_driver cX8_driver 2 (some .int) 1 := ⟨gi_cons mw_593 (gi_cons mw_594 (gi_cons mw_595 (gi_cons mw_26 (gi_cons mw_596 tw_good)))), by decide +kernel⟩
def f_L_begun_22_b (ih22 : (Mem × Int32 × Int32) → Option (Int32 × Mem)) (S : Mem) (d0_0 : IY) (x2 : Int32) (x3 : Int32) (x4 : Int32) : Option (Int32 × Mem) := (if x3 ≤ x4 then bd1 (g_L_in S d0_0 (6 : Int32) (6 : Int32)) (fun r3 => bd2 (g_X8_beats S ((1 : Int32) + r3)) (fun r4 S4 => some ((x2 + r4), S4))) else bd1 (g_L_in S d0_0 ((1 : Int32) + x4) (9 : Int32)) (fun r5 => bd2 (g_X8_driver S ((1 : Int32) + r5)) (fun r6 S6 => ih22 (S6, (x2 + r6), (x4 + (1 : Int32))))))
def f_L_begun_22 (S : Mem) (d0_0 : IY) (x2 : Int32) (x3 : Int32) (x4 : Int32) : Option (Int32 × Mem) := lp (fun ih22 s9 => f_L_begun_22_b ih22 s9.1 d0_0 s9.2.1 x3 s9.2.2) 2000 (S, x2, x4)
def f_L_begun_10 (S : Mem) (d0_0 : IY) (x2 : Int32) : Option (Int32 × Mem) := bd1 (g_L_in S d0_0 (0 : Int32) (3 : Int32)) (fun r1 => f_L_begun_22 S d0_0 x2 ((3 : Int32) + r1) (0 : Int32))
set_option maxHeartbeats 4000000 in
set_option maxRecDepth 100000 in
theorem b_L_begun_22_b {v : EV} {p : Program} {l : Launch} {e : Env} {s : State} {m : MethodId} {args : Array Value} {below : List Frame} {meth : Method} {c : Code} (hC : Cx v p l e s m args meth c RL cL_begun 5 (some (.object "LogRaft"))) {S : Mem} {d0_0 : IY} {x2 : Int32} {x3 : Int32} {x4 : Int32} (h0 : d0_0 ∈ eI v) {Q : State → Prop} {qb : Nat} {r : Int32 × Mem} (hK : Mj v p l e (rmK 226 13 300) s m args below meth c 5 Q qb r.2 70 [(1, .ref (eA v (198))), (2, .int r.1)] []) {ih22 : (Mem × Int32 × Int32) → Option (Int32 × Mem)} (hih22 : ∀ s9 : (Mem × Int32 × Int32), ih22 s9 = some r → Mj v p l e (rmK 226 13 300) s m args below meth c 5 Q qb s9.1 22 [(0, .ref d0_0.1), (1, .ref (eA v (198))), (2, .int (s9.2.1)), (3, .int x3), (4, .int (s9.2.2))] []) (hf : f_L_begun_22_b ih22 S d0_0 x2 x3 x4 = some r) : Mj v p l e (rmK 226 13 300) s m args below meth c 5 Q qb S 22 [(0, .ref d0_0.1), (1, .ref (eA v (198))), (2, .int x2), (3, .int x3), (4, .int x4)] [] := by
  refine i_iload hC dL_begun_22 rfl ?_
  refine i_iload_n hC dL_begun_24 rfl ?_
  refine i_icmp_ge hC (tgt := 53) dL_begun_25 (by decide) (fun c2 => ?_) (fun c2 => ?_)
  · replace hf := (if_pos c2).symm.trans hf
    refine i_iload_n hC dL_begun_53 rfl ?_
    refine i_aload_n hC dL_begun_54 rfl ?_
    refine i_iconst hC dL_begun_55 li_1 ?_
    refine i_aload_n hC dL_begun_56 rfl ?_
    refine i_bipush hC dL_begun_57 lb_6 ?_
    refine i_bipush hC dL_begun_59 lb_6 ?_
    obtain ⟨r3, hc3, hf⟩ := bd1_of hf
    refine i_callSi hC mv_L_36 (c_L_in hC.2.2.2.2.2.2.2.1 h0 hc3) rfl rfl rfl ⟨Nat.le_of_ble_eq_true rfl, Nat.le_of_ble_eq_true rfl⟩ (Nat.le_of_ble_eq_true rfl) dL_begun_61 ?_
    refine i_iadd hC dL_begun_64 ?_
    obtain ⟨r4, S4, hc4, hf⟩ := bd2_of hf
    refine i_callVi hC mv_L_44 (c_X8_beats hC.2.2.2.2.2.2.2.1 hc4) (pln rfl) (lay_p198) rfl rfl rfl rfl ⟨Nat.le_of_ble_eq_true rfl, Nat.le_of_ble_eq_true rfl⟩ (Nat.le_of_ble_eq_true rfl) dL_begun_65 ?_
    refine i_iadd hC dL_begun_68 ?_
    refine i_istore_n hC dL_begun_69 (by decide) ?_
    obtain rfl := Option.some.inj hf
    exact Mj.to hK ⟨rfl, rfl, trivial⟩
  · replace hf := (if_neg c2).symm.trans hf
    refine i_iload_n hC dL_begun_28 rfl ?_
    refine i_aload_n hC dL_begun_29 rfl ?_
    refine i_iconst hC dL_begun_30 li_1 ?_
    refine i_aload_n hC dL_begun_31 rfl ?_
    refine i_iconst hC dL_begun_32 li_1 ?_
    refine i_iload hC dL_begun_33 rfl ?_
    refine i_iadd hC dL_begun_35 ?_
    refine i_bipush hC dL_begun_36 lb_9 ?_
    obtain ⟨r5, hc5, hf⟩ := bd1_of hf
    refine i_callSi hC mv_L_36 (c_L_in hC.2.2.2.2.2.2.2.1 h0 hc5) rfl rfl rfl ⟨Nat.le_of_ble_eq_true rfl, Nat.le_of_ble_eq_true rfl⟩ (Nat.le_of_ble_eq_true rfl) dL_begun_38 ?_
    refine i_iadd hC dL_begun_41 ?_
    obtain ⟨r6, S6, hc6, hf⟩ := bd2_of hf
    refine i_callVi hC mv_L_40 (c_X8_driver hC.2.2.2.2.2.2.2.1 hc6) (pln rfl) (lay_p198) rfl rfl rfl rfl ⟨Nat.le_of_ble_eq_true rfl, Nat.le_of_ble_eq_true rfl⟩ (Nat.le_of_ble_eq_true rfl) dL_begun_42 ?_
    refine i_iadd hC dL_begun_45 ?_
    refine i_istore_n hC dL_begun_46 (by decide) ?_
    refine i_iinc hC dL_begun_47 rfl li_1 (by decide) ?_
    refine i_goto hC (tgt := 22) dL_begun_50 (by decide) ?_
    exact Mj.to (hih22 _ hf) ⟨rfl, rfl, rfl, rfl, rfl, trivial⟩
theorem b_L_begun_22 {v : EV} {p : Program} {l : Launch} {e : Env} {s : State} {m : MethodId} {args : Array Value} {below : List Frame} {meth : Method} {c : Code} (hC : Cx v p l e s m args meth c RL cL_begun 5 (some (.object "LogRaft"))) {S : Mem} {d0_0 : IY} {x2 : Int32} {x3 : Int32} {x4 : Int32} (h0 : d0_0 ∈ eI v) {Q : State → Prop} {qb : Nat} {r : Int32 × Mem} (hK : Mj v p l e (rmK 226 13 300) s m args below meth c 5 Q qb r.2 70 [(1, .ref (eA v (198))), (2, .int r.1)] []) (hf : f_L_begun_22 S d0_0 x2 x3 x4 = some r) : Mj v p l e (rmK 226 13 300) s m args below meth c 5 Q qb S 22 [(0, .ref d0_0.1), (1, .ref (eA v (198))), (2, .int x2), (3, .int x3), (4, .int x4)] [] :=
  lp_ind (P := fun s9 : (Mem × Int32 × Int32) => Mj v p l e (rmK 226 13 300) s m args below meth c 5 Q qb s9.1 22 [(0, .ref d0_0.1), (1, .ref (eA v (198))), (2, .int (s9.2.1)), (3, .int x3), (4, .int (s9.2.2))] []) (fun ih s9 hih hf => b_L_begun_22_b (hK := hK) hC h0  hih hf) _ _ hf
set_option maxHeartbeats 4000000 in
set_option maxRecDepth 100000 in
theorem b_L_begun_10 {v : EV} {p : Program} {l : Launch} {e : Env} {s : State} {m : MethodId} {args : Array Value} {below : List Frame} {meth : Method} {c : Code} (hC : Cx v p l e s m args meth c RL cL_begun 5 (some (.object "LogRaft"))) {S : Mem} {d0_0 : IY} {x2 : Int32} (h0 : d0_0 ∈ eI v) {Q : State → Prop} {qb : Nat} {r : Int32 × Mem} (hK : Mj v p l e (rmK 226 13 300) s m args below meth c 5 Q qb r.2 70 [(1, .ref (eA v (198))), (2, .int r.1)] []) (hf : f_L_begun_10 S d0_0 x2 = some r) : Mj v p l e (rmK 226 13 300) s m args below meth c 5 Q qb S 10 [(0, .ref d0_0.1), (1, .ref (eA v (198))), (2, .int x2)] [] := by
  refine i_iconst hC dL_begun_10 li_3 ?_
  refine i_aload_n hC dL_begun_11 rfl ?_
  refine i_iconst hC dL_begun_12 li_0 ?_
  refine i_iconst hC dL_begun_13 li_3 ?_
  obtain ⟨r1, hc1, hf⟩ := bd1_of hf
  refine i_callSi hC mv_L_36 (c_L_in hC.2.2.2.2.2.2.2.1 h0 hc1) rfl rfl rfl ⟨Nat.le_of_ble_eq_true rfl, Nat.le_of_ble_eq_true rfl⟩ (Nat.le_of_ble_eq_true rfl) dL_begun_14 ?_
  refine i_iadd hC dL_begun_17 ?_
  refine i_istore_n hC dL_begun_18 (by decide) ?_
  refine i_iconst hC dL_begun_19 li_0 ?_
  refine i_istore hC dL_begun_20 (by decide) ?_
  exact Mj.to (b_L_begun_22 (hK := hK) hC h0 hf) ⟨rfl, rfl, rfl, rfl, rfl, trivial⟩
set_option maxHeartbeats 4000000 in
set_option maxRecDepth 100000 in
theorem c_L_begun {v : EV} {l : Launch} (hst : Stb v) {q : IY} (hq : q ∈ eI v) {r : Int32 × Mem} (hf : f_L_begun_10 Z0 q (0 : Int32) = some r) (hr : 0 ≤ r.1) : ConP 226 v l yL_begun cL_begun 5 (some (.object "LogRaft")) 13 300 [.ref q.1] (Lw v []) (fun u H => ∃ (A : Nat → Nat) (w : Nat), u = .ref (A 198) ∧ WD (evA v A w) r.2 H) := con_ofP (S := Z0) (by decide) hst (Nat.le_of_ble_eq_true rfl) (fun p e s m args below meth c hC => by
  refine Mj.to (lv2 := [(0, .ref q.1)]) ?_ ⟨rfl, trivial⟩
  refine n_new (q2 := 225) hC nw_L_27 rfl dL_begun_0 (fun a => ?_)
  refine i_dup hC dL_begun_3 rfl ?_
  refine n_call (As := []) (q2 := 6) hC (eF_X hC.2.2.2.2.2.2.1) mi_L_35 (c_X8_init (X := []) (a := a) hC.2.2.2.2.2.2.2.1) rfl rfl rfl ⟨Nat.le_of_ble_eq_true rfl, Nat.le_of_ble_eq_true rfl⟩ (Nat.le_of_ble_eq_true rfl) dL_begun_4 ?_
  refine n_ex (fun r0 => ?_)
  refine n_ex (fun pb => ?_)
  refine n_ex (fun rs => ?_)
  refine n_ex (fun tb => ?_)
  refine n_ex (fun sb => ?_)
  refine n_and (fun hlen => ?_)
  refine i_astore_n hC dL_begun_7 (by decide) ?_
  refine i_iconst hC (x := (0 : Int32)) dL_begun_8 (by decide) ?_
  refine i_istore_n hC dL_begun_9 (by decide) ?_
  have hC2 : Cx (evA v (adA a r0 pb rs tb sb) sb.1) p l e s m args meth c RL cL_begun 5 (some (.object "LogRaft")) := hC
  refine Mw.re (Wd' := WD (evA v (adA a r0 pb rs tb sb) sb.1)) (S' := Z0) (fun H h => ⟨daA tb sb, wf_WD (v := v) hlen.1 hlen.2.1 hlen.2.2 (by rw [← wf_eq]; exact h)⟩) ?_
  refine Mj.to (b_L_begun_10 (v := evA v (adA a r0 pb rs tb sb) sb.1) (hK := ?_) hC2 (d0_0 := q) hq hf) ⟨rfl, rfl, rfl, trivial⟩
  refine i_iload_n hC2 dL_begun_70 rfl ?_
  refine i_if_ge hC2 (tgt := 78) dL_begun_71 (by decide) (fun _ => ?_) (fun z9 => absurd hr z9)
  refine i_aload_n hC2 dL_begun_78 rfl ?_
  exact p_aret (v := v) (u := .ref (adA a r0 pb rs tb sb 198)) (fun H h => ⟨adA a r0 pb rs tb sb, sb.1, rfl, h⟩) hC (isR_r _) dL_begun_79)
