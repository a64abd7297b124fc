def f_X9_beats_0 (S : Mem) (x1 : Int32) : Option (Int32 × Mem) := bd1 (g_X9_keeps S) (fun S1 => bd2 (g_X9_beatsGo S1 x1) (fun r2 S2 => bd2 (g_X9_ends S2 r2) (fun r3 S3 => some (r3, S3))))
def g_X9_beats (S : Mem) (x1 : Int32) : Option (Int32 × Mem) := f_X9_beats_0 S x1
set_option maxHeartbeats 4000000 in
set_option maxRecDepth 100000 in
theorem b_X9_beats_0 {v : EV} {p : Program} {l : Launch} {e : Env} {s : State} {m : MethodId} {args : Array Value} {below : List Frame} {meth : Method} {c : Code} (hC : Cx v p l e s m args meth c RX9 cX9_beats 2 (some .int)) {S : Mem} {x1 : Int32}  {r : Int32 × Mem} (hf : f_X9_beats_0 S x1 = some r) : Mj v p l e (rmF 10 213) s m args below meth c 2 (MQ below (Qc v (some (.int r.1)) r.2) args s 0 0 (eG v)) S 0 [(0, .ref (eA v (218))), (1, .int x1)] [] := by
  refine i_aload_n hC dX9_beats_0 rfl ?_
  obtain ⟨S1, hc1, hf⟩ := bd1_of hf
  refine i_callVv hC mv_X9_96 (c_X9_keeps hC.2.2.2.2.2.2.2.1 hc1) (pln rfl) (lay_p218) rfl rfl rfl ⟨Nat.le_of_ble_eq_true rfl, Nat.le_of_ble_eq_true rfl⟩ (Nat.le_of_ble_eq_true rfl) dX9_beats_1 ?_
  refine i_aload_n hC dX9_beats_4 rfl ?_
  refine i_aload_n hC dX9_beats_5 rfl ?_
  refine i_iload_n hC dX9_beats_6 rfl ?_
  obtain ⟨r2, S2, hc2, hf⟩ := bd2_of hf
  refine i_callVi hC mv_X9_179 (c_X9_beatsGo hC.2.2.2.2.2.2.2.1 hc2) (pln rfl) (lay_p218) rfl rfl rfl ⟨Nat.le_of_ble_eq_true rfl, Nat.le_of_ble_eq_true rfl⟩ (Nat.le_of_ble_eq_true rfl) dX9_beats_7 ?_
  obtain ⟨r3, S3, hc3, hf⟩ := bd2_of hf
  refine i_callVi hC mv_X9_102 (c_X9_ends hC.2.2.2.2.2.2.2.1 hc3) (pln rfl) (lay_p218) rfl rfl rfl ⟨Nat.le_of_ble_eq_true rfl, Nat.le_of_ble_eq_true rfl⟩ (Nat.le_of_ble_eq_true rfl) dX9_beats_10 ?_
  obtain rfl := Option.some.inj hf
  exact i_iret hC dX9_beats_13
theorem c_X9_beats {v : EV} {l : Launch} (hst : Stb v) {S : Mem} {x1 : Int32}  {r : Int32 × Mem} (hf : g_X9_beats S x1 = some r) : Con v l yX9_beats cX9_beats 2 (some .int) 10 213 [.ref (eA v (218)), .int x1] S (some (.int r.1)) r.2 := con_of (by decide) hst (Nat.le_of_ble_eq_true rfl) (fun p e s m args below meth c hC => b_X9_beats_0 hC  hf)
