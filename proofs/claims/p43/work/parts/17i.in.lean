def f_L_in_0 (S : Mem) (d0_0 : IY) (x1 : Int32) (x2 : Int32) : Option (Int32) := bd1 (g_L_cell S d0_0 x1) (fun r1 => ck (nz x2) (some ((r1 &&& (2147483647 : Int32)) - (r1 &&& (2147483647 : Int32)) / x2 * x2)))
def g_L_in (S : Mem) (d0_0 : IY) (x1 : Int32) (x2 : Int32) : Option (Int32) := f_L_in_0 S d0_0 x1 x2
set_option maxHeartbeats 4000000 in
set_option maxRecDepth 100000 in
theorem b_L_in_0 {v : EV} {p : Program} {l : Launch} {e : Env} {s : State} {m : MethodId} {args : Array Value} {below : List Frame} {meth : Method} {c : Code} (hC : Cx v p l e s m args meth c RL cL_in 3 (some .int)) {S : Mem} {d0_0 : IY} {x1 : Int32} {x2 : Int32} (h0 : d0_0 ∈ eI v) {r : Int32} (hf : f_L_in_0 S d0_0 x1 x2 = some r) : Mj v p l e (rmF 2 34) s m args below meth c 3 (MQ below (Qc v (some (.int r)) S) args s 0 0 (eG v)) 0 S 0 [(0, .ref d0_0.1), (1, .int x1), (2, .int x2)] [] := by
  refine i_aload_n hC dL_in_0 rfl ?_
  refine i_iload_n hC dL_in_1 rfl ?_
  obtain ⟨r1, hc1, hf⟩ := bd1_of hf
  refine i_callSi hC mv_L_9 (c_L_cell hC.2.2.2.2.2.2.2.1 h0 hc1) rfl rfl rfl ⟨Nat.le_of_ble_eq_true rfl, Nat.le_of_ble_eq_true rfl⟩ (Nat.le_of_ble_eq_true rfl) dL_in_2 ?_
  refine i_ldc hC mw_327 dL_in_5 ?_
  refine i_iand hC dL_in_7 ?_
  refine i_iload_n hC dL_in_8 rfl ?_
  obtain ⟨k2, hf⟩ := ck_of hf
  refine i_irem hC dL_in_9 (nz_ne k2) ?_
  obtain rfl := Option.some.inj hf
  exact i_iret hC dL_in_10
theorem c_L_in {v : EV} {l : Launch} (hst : Stb v) {S : Mem} {d0_0 : IY} {x1 x2 : Int32} (h0 : d0_0 ∈ eI v) {r : Int32} (hf : g_L_in S d0_0 x1 x2 = some r) : Con v l yL_in cL_in 3 (some .int) 2 34 [.ref d0_0.1, .int x1, .int x2] S (some (.int r)) S := con_of (by decide) hst (Nat.le_of_ble_eq_true rfl) (fun p e s m args below meth c hC => b_L_in_0 hC h0 hf)
