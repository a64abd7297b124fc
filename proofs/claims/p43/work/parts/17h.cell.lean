def f_L_cell_15 (S : Mem) (x1 : Int32) (xt0 : Int32) (xt1 : Int32) : Option (Int32) := some (((((xt1 * (xt0 + ((1009 : Int32) * x1))) + (12345 : Int32)) ^^^ (ushr ((xt1 * (xt0 + ((1009 : Int32) * x1))) + (12345 : Int32)) (13 : Int32))) * (1103515245 : Int32)) ^^^ (ushr ((((xt1 * (xt0 + ((1009 : Int32) * x1))) + (12345 : Int32)) ^^^ (ushr ((xt1 * (xt0 + ((1009 : Int32) * x1))) + (12345 : Int32)) (13 : Int32))) * (1103515245 : Int32)) (16 : Int32)))
def f_L_cell_0 (S : Mem) (d0_0 : IY) (x1 : Int32) : Option (Int32) := (if (Int32.ofNat d0_0.2.1) ≤ x1 then f_L_cell_15 S x1 (0 : Int32) (69069 : Int32) else ck (inb x1 d0_0.2.1) (f_L_cell_15 S x1 (d0_0.2.2 (x1).toNatClampNeg) (69069 : Int32)))
def g_L_cell (S : Mem) (d0_0 : IY) (x1 : Int32) : Option (Int32) := f_L_cell_0 S d0_0 x1
set_option maxHeartbeats 4000000 in
set_option maxRecDepth 100000 in
theorem b_L_cell_15 {v : EV} {p : Program} {l : Launch} {e : Env} {s : State} {m : MethodId} {args : Array Value} {below : List Frame} {meth : Method} {c : Code} (hC : Cx v p l e s m args meth c RL cL_cell 3 (some .int)) {S : Mem} {x1 : Int32} {xt0 : Int32} {xt1 : Int32}  {r : Int32} (hf : f_L_cell_15 S x1 xt0 xt1 = some r) : Mj v p l e (rmF 1 12) s m args below meth c 3 (MQ below (Qc v (some (.int r)) S) args s 0 0 (eG v)) 0 S 15 [(1, .int x1)] [.int xt0, .int xt1] := by
  refine i_sipush hC dL_cell_15 lh_1009 ?_
  refine i_iload_n hC dL_cell_18 rfl ?_
  refine i_imul hC dL_cell_19 ?_
  refine i_iadd hC dL_cell_20 ?_
  refine i_imul hC dL_cell_21 ?_
  refine i_sipush hC dL_cell_22 lh_12345 ?_
  refine i_iadd hC dL_cell_25 ?_
  refine i_istore_n hC dL_cell_26 (by decide) ?_
  refine i_iload_n hC dL_cell_27 rfl ?_
  refine i_iload_n hC dL_cell_28 rfl ?_
  refine i_bipush hC dL_cell_29 lb_13 ?_
  refine i_iushr hC dL_cell_31 ?_
  refine i_ixor hC dL_cell_32 ?_
  refine i_ldc hC mw_326 dL_cell_33 ?_
  refine i_imul hC dL_cell_35 ?_
  refine i_istore_n hC dL_cell_36 (by decide) ?_
  refine i_iload_n hC dL_cell_37 rfl ?_
  refine i_iload_n hC dL_cell_38 rfl ?_
  refine i_bipush hC dL_cell_39 lb_16 ?_
  refine i_iushr hC dL_cell_41 ?_
  refine i_ixor hC dL_cell_42 ?_
  obtain rfl := Option.some.inj hf
  exact i_iret hC dL_cell_43
set_option maxHeartbeats 4000000 in
set_option maxRecDepth 100000 in
theorem b_L_cell_0 {v : EV} {p : Program} {l : Launch} {e : Env} {s : State} {m : MethodId} {args : Array Value} {below : List Frame} {meth : Method} {c : Code} (hC : Cx v p l e s m args meth c RL cL_cell 3 (some .int)) {S : Mem} {d0_0 : IY} {x1 : Int32} (h0 : d0_0 ∈ eI v) {r : Int32} (hf : f_L_cell_0 S d0_0 x1 = some r) : Mj v p l e (rmF 1 12) s m args below meth c 3 (MQ below (Qc v (some (.int r)) S) args s 0 0 (eG v)) 0 S 0 [(0, .ref d0_0.1), (1, .int x1)] [] := by
  refine i_ldc hC mw_325 dL_cell_0 ?_
  refine i_iload_n hC dL_cell_2 rfl ?_
  refine i_aload_n hC dL_cell_3 rfl ?_
  refine i_isLen hC h0 dL_cell_4 ?_
  refine i_icmp_ge hC (tgt := 14) dL_cell_5 (by decide) (fun c1 => ?_) (fun c1 => ?_)
  · replace hf := (if_pos c1).symm.trans hf
    refine i_iconst hC dL_cell_14 li_0 ?_
    exact Mj.to (b_L_cell_15 hC  hf) ⟨rfl, trivial⟩
  · replace hf := (if_neg c1).symm.trans hf
    refine i_aload_n hC dL_cell_8 rfl ?_
    refine i_iload_n hC dL_cell_9 rfl ?_
    obtain ⟨k2, hf⟩ := ck_of hf
    refine i_isLd hC h0 (inb_in k2) dL_cell_10 ?_
    refine i_goto hC (tgt := 15) dL_cell_11 (by decide) ?_
    exact Mj.to (b_L_cell_15 hC  hf) ⟨rfl, trivial⟩
theorem c_L_cell {v : EV} {l : Launch} (hst : Stb v) {S : Mem} {d0_0 : IY} {x1 : Int32} (h0 : d0_0 ∈ eI v) {r : Int32} (hf : g_L_cell S d0_0 x1 = some r) : Con v l yL_cell cL_cell 3 (some .int) 1 12 [.ref d0_0.1, .int x1] S (some (.int r)) S := con_of (by decide) hst (Nat.le_of_ble_eq_true rfl) (fun p e s m args below meth c hC => b_L_cell_0 hC h0 hf)
