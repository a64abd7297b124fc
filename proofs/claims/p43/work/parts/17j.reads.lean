def f_L_reads_43 (S : Mem) (xt0 : Int32) : Option (Int32 × Mem) := some (xt0, S)
def f_L_reads_4_b (ih4 : (Mem × Int32 × Int32) → Option (Int32 × Mem)) (S : Mem) (d1_0 : SY) (x2 : Int32) (x3 : Int32) : Option (Int32 × Mem) := bd1 (gy_J0_length_8abf5 S d1_0) (fun r1 => (if r1 ≤ x3 then (if 0 ≤ x2 then bd2 (g_X8_read S) (fun r4 S4 => f_L_reads_43 S4 r4) else f_L_reads_43 S (-99 : Int32)) else bd1 (gy_J0_charAt_5068e S d1_0 x3) (fun r5 => bd2 (g_X8_append S r5) (fun r6 S6 => ih4 (S6, (x2 + r6), (x3 + (1 : Int32)))))))
def f_L_reads_4 (S : Mem) (d1_0 : SY) (x2 : Int32) (x3 : Int32) : Option (Int32 × Mem) := lp (fun ih4 s9 => f_L_reads_4_b ih4 s9.1 d1_0 s9.2.1 s9.2.2) 64 (S, x2, x3)
def f_L_reads_0 (S : Mem) (d1_0 : SY) : Option (Int32 × Mem) := f_L_reads_4 S d1_0 (0 : Int32) (0 : Int32)
def g_L_reads (S : Mem) (d1_0 : SY) : Option (Int32 × Mem) := f_L_reads_0 S d1_0
set_option maxHeartbeats 4000000 in
set_option maxRecDepth 100000 in
theorem b_L_reads_43 {v : EV} {p : Program} {l : Launch} {e : Env} {s : State} {m : MethodId} {args : Array Value} {below : List Frame} {meth : Method} {c : Code} (hC : Cx v p l e s m args meth c RL cL_reads 4 (some .int)) {S : Mem} {xt0 : Int32}  {qb : Nat} (hq : 0 ≤ qb) {r : Int32 × Mem} (hf : f_L_reads_43 S xt0 = some r) : Mj v p l e (rmK 64 12 254) s m args below meth c 4 (MQ below (Qc v (some (.int r.1)) r.2) args s 64 (160 * 64) (eG v)) qb S 43 [] [.int xt0] := by
  obtain rfl := Option.some.inj hf
  exact i_iret hC dL_reads_43
set_option maxHeartbeats 4000000 in
set_option maxRecDepth 100000 in
theorem b_L_reads_4_b {v : EV} {p : Program} {l : Launch} {e : Env} {s : State} {m : MethodId} {args : Array Value} {below : List Frame} {meth : Method} {c : Code} (hC : Cx v p l e s m args meth c RL cL_reads 4 (some .int)) {S : Mem} {d1_0 : SY} {x2 : Int32} {x3 : Int32} (h1 : d1_0 ∈ eY v) {n9 qb : Nat} (hq : 0 + 1 * (n9 + 1) ≤ qb) {r : Int32 × Mem} {ih4 : (Mem × Int32 × Int32) → Option (Int32 × Mem)} (hih4 : ∀ s9 : (Mem × Int32 × Int32), ih4 s9 = some r → ∀ qb9 : Nat, 0 + 1 * n9 ≤ qb9 → Mj v p l e (rmK 64 12 254) s m args below meth c 4 (MQ below (Qc v (some (.int r.1)) r.2) args s 64 (160 * 64) (eG v)) qb9 s9.1 4 [(0, .ref (eA v (198))), (1, .ref d1_0.1), (2, .int (s9.2.1)), (3, .int (s9.2.2))] []) (hf : f_L_reads_4_b ih4 S d1_0 x2 x3 = some r) : Mj v p l e (rmK 64 12 254) s m args below meth c 4 (MQ below (Qc v (some (.int r.1)) r.2) args s 64 (160 * 64) (eG v)) qb S 4 [(0, .ref (eA v (198))), (1, .ref d1_0.1), (2, .int x2), (3, .int x3)] [] := by
  refine i_iload_n hC dL_reads_4 rfl ?_
  refine i_aload_n hC dL_reads_5 rfl ?_
  obtain ⟨r1, hc1, hf⟩ := bd1_of hf
  refine i_callY hC h1 mv_L_16 (cy_J0_length_8abf5 hC.2.2.2.2.2.2.2.1 h1 hc1) rfl rfl rfl ⟨Nat.le_of_ble_eq_true rfl, Nat.le_of_ble_eq_true rfl⟩ (Nat.le_of_ble_eq_true rfl) dL_reads_6 ?_
  refine i_icmp_ge hC (tgt := 30) dL_reads_9 (by decide) (fun c2 => ?_) (fun c2 => ?_)
  · replace hf := (if_pos c2).symm.trans hf
    refine i_iload_n hC dL_reads_30 rfl ?_
    refine i_if_ge hC (tgt := 39) dL_reads_31 (by decide) (fun c3 => ?_) (fun c3 => ?_)
    · replace hf := (if_pos c3).symm.trans hf
      refine i_aload_n hC dL_reads_39 rfl ?_
      obtain ⟨r4, S4, hc4, hf⟩ := bd2_of hf
      refine i_callVi hC mv_L_32 (c_X8_read hC.2.2.2.2.2.2.2.1 hc4) (pln rfl) (lay_p198) rfl rfl rfl rfl ⟨Nat.le_of_ble_eq_true rfl, Nat.le_of_ble_eq_true rfl⟩ (Nat.le_of_ble_eq_true rfl) dL_reads_40 ?_
      exact Mj.to (b_L_reads_43 hC (by omega) hf) trivial
    · replace hf := (if_neg c3).symm.trans hf
      refine i_bipush hC dL_reads_34 lb_m99 ?_
      refine i_goto hC (tgt := 43) dL_reads_36 (by decide) ?_
      exact Mj.to (b_L_reads_43 hC (by omega) hf) trivial
  · replace hf := (if_neg c2).symm.trans hf
    refine i_iload_n hC dL_reads_12 rfl ?_
    refine i_aload_n hC dL_reads_13 rfl ?_
    refine i_aload_n hC dL_reads_14 rfl ?_
    refine i_iload_n hC dL_reads_15 rfl ?_
    obtain ⟨r5, hc5, hf⟩ := bd1_of hf
    refine i_callY hC h1 mv_L_22 (cy_J0_charAt_5068e hC.2.2.2.2.2.2.2.1 h1 hc5) rfl rfl rfl ⟨Nat.le_of_ble_eq_true rfl, Nat.le_of_ble_eq_true rfl⟩ (Nat.le_of_ble_eq_true rfl) dL_reads_16 ?_
    obtain ⟨r6, S6, hc6, hf⟩ := bd2_of hf
    obtain ⟨q7, rfl⟩ : ∃ z, qb = z + 1 := ⟨qb - 1, by omega⟩
    refine i_callVi hC mv_L_26 (c_X8_append hC.2.2.2.2.2.2.2.1 hc6) (pln rfl) (lay_p198) rfl rfl rfl rfl ⟨Nat.le_of_ble_eq_true rfl, Nat.le_of_ble_eq_true rfl⟩ (Nat.le_of_ble_eq_true rfl) dL_reads_19 ?_
    refine i_iadd hC dL_reads_22 ?_
    refine i_istore_n hC dL_reads_23 (by decide) ?_
    refine i_iinc hC dL_reads_24 rfl li_1 (by decide) ?_
    refine i_goto hC (tgt := 4) dL_reads_27 (by decide) ?_
    exact Mj.to (hih4 _ hf _ (by omega)) ⟨rfl, rfl, rfl, rfl, trivial⟩
theorem b_L_reads_4 {v : EV} {p : Program} {l : Launch} {e : Env} {s : State} {m : MethodId} {args : Array Value} {below : List Frame} {meth : Method} {c : Code} (hC : Cx v p l e s m args meth c RL cL_reads 4 (some .int)) {S : Mem} {d1_0 : SY} {x2 : Int32} {x3 : Int32} (h1 : d1_0 ∈ eY v) {qb : Nat} (hq : 64 ≤ qb) {r : Int32 × Mem} (hf : f_L_reads_4 S d1_0 x2 x3 = some r) : Mj v p l e (rmK 64 12 254) s m args below meth c 4 (MQ below (Qc v (some (.int r.1)) r.2) args s 64 (160 * 64) (eG v)) qb S 4 [(0, .ref (eA v (198))), (1, .ref d1_0.1), (2, .int x2), (3, .int x3)] [] :=
  lp_indK (P := fun n9 (s9 : (Mem × Int32 × Int32)) => ∀ qb : Nat, 0 + 1 * n9 ≤ qb → Mj v p l e (rmK 64 12 254) s m args below meth c 4 (MQ below (Qc v (some (.int r.1)) r.2) args s 64 (160 * 64) (eG v)) qb s9.1 4 [(0, .ref (eA v (198))), (1, .ref d1_0.1), (2, .int (s9.2.1)), (3, .int (s9.2.2))] []) (fun n9 ih s9 hih hf qb hq => b_L_reads_4_b hC h1 hq hih hf) 64 _ hf qb (by omega)
set_option maxHeartbeats 4000000 in
set_option maxRecDepth 100000 in
theorem b_L_reads_0 {v : EV} {p : Program} {l : Launch} {e : Env} {s : State} {m : MethodId} {args : Array Value} {below : List Frame} {meth : Method} {c : Code} (hC : Cx v p l e s m args meth c RL cL_reads 4 (some .int)) {S : Mem} {d1_0 : SY} (h1 : d1_0 ∈ eY v) {qb : Nat} (hq : 64 ≤ qb) {r : Int32 × Mem} (hf : f_L_reads_0 S d1_0 = some r) : Mj v p l e (rmK 64 12 254) s m args below meth c 4 (MQ below (Qc v (some (.int r.1)) r.2) args s 64 (160 * 64) (eG v)) qb S 0 [(0, .ref (eA v (198))), (1, .ref d1_0.1)] [] := by
  refine i_iconst hC dL_reads_0 li_0 ?_
  refine i_istore_n hC dL_reads_1 (by decide) ?_
  refine i_iconst hC dL_reads_2 li_0 ?_
  refine i_istore_n hC dL_reads_3 (by decide) ?_
  exact Mj.to (b_L_reads_4 hC h1 (by omega) hf) ⟨rfl, rfl, rfl, rfl, trivial⟩
theorem c_L_reads {v : EV} {l : Launch} (hst : Stb v) {S : Mem} {d1_0 : SY} (h1 : d1_0 ∈ eY v) {r : Int32 × Mem} (hf : g_L_reads S d1_0 = some r) : ConK 64 v l yL_reads cL_reads 4 (some .int) 12 254 [.ref (eA v (198)), .ref d1_0.1] S (some (.int r.1)) r.2 := con_ofK (by decide) hst (Nat.le_of_ble_eq_true rfl) (fun p e s m args below meth c hC => b_L_reads_0 hC h1 (Nat.le_refl _) hf)
