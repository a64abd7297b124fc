def f_X8_beats_0 (S : Mem) (x1 : Int32) : Option (Int32 × Mem) := bd2 (g_X8_change S (9 : Int32) x1 (0 : Int32)) (fun r1 S1 => some (r1, S1))
def g_X8_beats (S : Mem) (x1 : Int32) : Option (Int32 × Mem) := f_X8_beats_0 S x1
set_option maxHeartbeats 4000000 in
set_option maxRecDepth 100000 in
theorem b_X8_beats_0 {v : EV} {p : Program} {l : Launch} {e : Env} {s : State} {m : MethodId} {args : Array Value} {below : List Frame} {meth : Method} {c : Code} (hC : Cx v p l e s m args meth c RX8 cX8_beats 2 (some .int)) {S : Mem} {x1 : Int32}  {r : Int32 × Mem} (hf : f_X8_beats_0 S x1 = some r) : Mj v p l e (rmF 7 163) s m args below meth c 2 (MQ below (Qc v (some (.int r.1)) r.2) args s 0 0 (eG v)) 0 S 0 [(0, .ref (eA v (198))), (1, .int x1)] [] := by
  refine i_aload_n hC dX8_beats_0 rfl ?_
  refine i_enum hC (i := 8) (by decide) mw_717 dX8_beats_1 ?_
  refine i_iload_n hC dX8_beats_4 rfl ?_
  refine i_iconst hC dX8_beats_5 li_0 ?_
  obtain ⟨r1, S1, hc1, hf⟩ := bd2_of hf
  refine i_callVi hC mv_X8_77 (c_X8_change hC.2.2.2.2.2.2.2.1 hc1) (pln rfl) (lay_p198) rfl rfl rfl rfl ⟨Nat.le_of_ble_eq_true rfl, Nat.le_of_ble_eq_true rfl⟩ (Nat.le_of_ble_eq_true rfl) dX8_beats_6 ?_
  obtain rfl := Option.some.inj hf
  exact i_iret hC dX8_beats_9
theorem c_X8_beats {v : EV} {l : Launch} (hst : Stb v) {S : Mem} {x1 : Int32}  {r : Int32 × Mem} (hf : g_X8_beats S x1 = some r) : Con v l yX8_beats cX8_beats 2 (some .int) 7 163 [.ref (eA v (198)), .int x1] S (some (.int r.1)) r.2 := con_of (by decide) hst (Nat.le_of_ble_eq_true rfl) (fun p e s m args below meth c hC => b_X8_beats_0 hC  hf)
def f_X8_driver_0 (S : Mem) (x1 : Int32) : Option (Int32 × Mem) := bd2 (g_X8_change S (1 : Int32) x1 (0 : Int32)) (fun r1 S1 => some (r1, S1))
def g_X8_driver (S : Mem) (x1 : Int32) : Option (Int32 × Mem) := f_X8_driver_0 S x1
set_option maxHeartbeats 4000000 in
set_option maxRecDepth 100000 in
theorem b_X8_driver_0 {v : EV} {p : Program} {l : Launch} {e : Env} {s : State} {m : MethodId} {args : Array Value} {below : List Frame} {meth : Method} {c : Code} (hC : Cx v p l e s m args meth c RX8 cX8_driver 2 (some .int)) {S : Mem} {x1 : Int32}  {r : Int32 × Mem} (hf : f_X8_driver_0 S x1 = some r) : Mj v p l e (rmF 7 163) s m args below meth c 2 (MQ below (Qc v (some (.int r.1)) r.2) args s 0 0 (eG v)) 0 S 0 [(0, .ref (eA v (198))), (1, .int x1)] [] := by
  refine i_aload_n hC dX8_driver_0 rfl ?_
  refine i_enum hC (i := 0) (by decide) mw_504 dX8_driver_1 ?_
  refine i_iload_n hC dX8_driver_4 rfl ?_
  refine i_iconst hC dX8_driver_5 li_0 ?_
  obtain ⟨r1, S1, hc1, hf⟩ := bd2_of hf
  refine i_callVi hC mv_X8_77 (c_X8_change hC.2.2.2.2.2.2.2.1 hc1) (pln rfl) (lay_p198) rfl rfl rfl rfl ⟨Nat.le_of_ble_eq_true rfl, Nat.le_of_ble_eq_true rfl⟩ (Nat.le_of_ble_eq_true rfl) dX8_driver_6 ?_
  obtain rfl := Option.some.inj hf
  exact i_iret hC dX8_driver_9
theorem c_X8_driver {v : EV} {l : Launch} (hst : Stb v) {S : Mem} {x1 : Int32}  {r : Int32 × Mem} (hf : g_X8_driver S x1 = some r) : Con v l yX8_driver cX8_driver 2 (some .int) 7 163 [.ref (eA v (198)), .int x1] S (some (.int r.1)) r.2 := con_of (by decide) hst (Nat.le_of_ble_eq_true rfl) (fun p e s m args below meth c hC => b_X8_driver_0 hC  hf)
