def f_X8_refuseCommand_29 (S : Mem)  : Option (Int32 × Mem) := some ((-3 : Int32), S)
def f_X8_refuseCommand_0 (S : Mem) (x1 : Int32) (x2 : Int32) : Option (Int32 × Mem) := (if x2 = (-3 : Int32) then bd1 (g_X5_putAhead S (8 : Int32) x1) (fun S3 => f_X8_refuseCommand_29 S3) else bd1 (g_X5_put S (9 : Int32) x1) (fun S2 => f_X8_refuseCommand_29 S2))
def g_X8_refuseCommand (S : Mem) (x1 : Int32) (x2 : Int32) : Option (Int32 × Mem) := f_X8_refuseCommand_0 S x1 x2
set_option maxHeartbeats 4000000 in
set_option maxRecDepth 100000 in
theorem b_X8_refuseCommand_29 {v : EV} {p : Program} {l : Launch} {e : Env} {s : State} {m : MethodId} {args : Array Value} {below : List Frame} {meth : Method} {c : Code} (hC : Cx v p l e s m args meth c RX8 cX8_refuseCommand 3 (some .int)) {S : Mem}  {r : Int32 × Mem} (hf : f_X8_refuseCommand_29 S = some r) : Mj v p l e (rmF 2 34) s m args below meth c 3 (MQ below (Qc v (some (.int r.1)) r.2) args s 0 0 (eG v)) 0 S 29 [] [] := by
  refine i_bipush hC dX8_refuseCommand_29 lb_m3 ?_
  obtain rfl := Option.some.inj hf
  exact i_iret hC dX8_refuseCommand_31
set_option maxHeartbeats 4000000 in
set_option maxRecDepth 100000 in
theorem b_X8_refuseCommand_0 {v : EV} {p : Program} {l : Launch} {e : Env} {s : State} {m : MethodId} {args : Array Value} {below : List Frame} {meth : Method} {c : Code} (hC : Cx v p l e s m args meth c RX8 cX8_refuseCommand 3 (some .int)) {S : Mem} {x1 : Int32} {x2 : Int32}  {r : Int32 × Mem} (hf : f_X8_refuseCommand_0 S x1 x2 = some r) : Mj v p l e (rmF 2 34) s m args below meth c 3 (MQ below (Qc v (some (.int r.1)) r.2) args s 0 0 (eG v)) 0 S 0 [(0, .ref (eA v (198))), (1, .int x1), (2, .int x2)] [] := by
  refine i_iload_n hC dX8_refuseCommand_0 rfl ?_
  refine i_bipush hC dX8_refuseCommand_1 lb_m3 ?_
  refine i_icmp_ne hC (tgt := 19) dX8_refuseCommand_3 (by decide) (fun c1 => ?_) (fun c1 => ?_)
  · replace hf := (if_neg c1).symm.trans hf
    refine i_aload_n hC dX8_refuseCommand_19 rfl ?_
    refine i_getR hC fl_X8_32 (pln rfl) (lay_p198) rfl dX8_refuseCommand_20 ?_
    refine i_bipush hC dX8_refuseCommand_23 lb_9 ?_
    refine i_iload_n hC dX8_refuseCommand_25 rfl ?_
    obtain ⟨S2, hc2, hf⟩ := bd1_of hf
    refine i_callVv hC mv_X8_245 (c_X5_put hC.2.2.2.2.2.2.2.1 hc2) (pln rfl) (lay_p201) rfl rfl rfl rfl ⟨Nat.le_of_ble_eq_true rfl, Nat.le_of_ble_eq_true rfl⟩ (Nat.le_of_ble_eq_true rfl) dX8_refuseCommand_26 ?_
    exact Mj.to (b_X8_refuseCommand_29 hC  hf) trivial
  · replace hf := (if_pos c1).symm.trans hf
    refine i_aload_n hC dX8_refuseCommand_6 rfl ?_
    refine i_getR hC fl_X8_32 (pln rfl) (lay_p198) rfl dX8_refuseCommand_7 ?_
    refine i_bipush hC dX8_refuseCommand_10 lb_8 ?_
    refine i_iload_n hC dX8_refuseCommand_12 rfl ?_
    obtain ⟨S3, hc3, hf⟩ := bd1_of hf
    refine i_callVv hC mv_X8_249 (c_X5_putAhead hC.2.2.2.2.2.2.2.1 hc3) (pln rfl) (lay_p201) rfl rfl rfl rfl ⟨Nat.le_of_ble_eq_true rfl, Nat.le_of_ble_eq_true rfl⟩ (Nat.le_of_ble_eq_true rfl) dX8_refuseCommand_13 ?_
    refine i_goto hC (tgt := 29) dX8_refuseCommand_16 (by decide) ?_
    exact Mj.to (b_X8_refuseCommand_29 hC  hf) trivial
theorem c_X8_refuseCommand {v : EV} {l : Launch} (hst : Stb v) {S : Mem} {x1 x2 : Int32}  {r : Int32 × Mem} (hf : g_X8_refuseCommand S x1 x2 = some r) : Con v l yX8_refuseCommand cX8_refuseCommand 3 (some .int) 2 34 [.ref (eA v (198)), .int x1, .int x2] S (some (.int r.1)) r.2 := con_of (by decide) hst (Nat.le_of_ble_eq_true rfl) (fun p e s m args below meth c hC => b_X8_refuseCommand_0 hC  hf)
def f_X8_fault_0 (S : Mem)  : Option (Int32) := some (S 11 1)
def g_X8_fault (S : Mem)  : Option (Int32) := f_X8_fault_0 S
set_option maxHeartbeats 4000000 in
set_option maxRecDepth 100000 in
theorem b_X8_fault_0 {v : EV} {p : Program} {l : Launch} {e : Env} {s : State} {m : MethodId} {args : Array Value} {below : List Frame} {meth : Method} {c : Code} (hC : Cx v p l e s m args meth c RX8 cX8_fault 1 (some .int)) {S : Mem}  {r : Int32} (hf : f_X8_fault_0 S = some r) : Mj v p l e (rmF 1 12) s m args below meth c 1 (MQ below (Qc v (some (.int r)) S) args s 0 0 (eG v)) 0 S 0 [(0, .ref (eA v (198)))] [] := by
  refine i_aload_n hC dX8_fault_0 rfl ?_
  refine i_getI hC fl_X8_50 (pln rfl) (lay_p198) rfl dX8_fault_1 ?_
  obtain rfl := Option.some.inj hf
  exact i_iret hC dX8_fault_4
theorem c_X8_fault {v : EV} {l : Launch} (hst : Stb v) {S : Mem}  {r : Int32} (hf : g_X8_fault S = some r) : Con v l yX8_fault cX8_fault 1 (some .int) 1 12 [.ref (eA v (198))] S (some (.int r)) S := con_of (by decide) hst (Nat.le_of_ble_eq_true rfl) (fun p e s m args below meth c hC => b_X8_fault_0 hC  hf)
def f_X8_reason_9 (S : Mem)  : Option (Int32) := some (-2 : Int32)
def f_X8_reason_68 (S : Mem) (xt0 : Int32) : Option (Int32) := some xt0
def f_X8_reason_33 (S : Mem) (x1 : Int32) (x2 : Int32) (xt0 : Int32) : Option (Int32) := (if xt0 = 0 then some (-4 : Int32) else (if x2 = 0 then some xt0 else (if x1 = 0 then f_X8_reason_68 S (S 11 5) else f_X8_reason_68 S (S 11 7))))
def f_X8_reason_0 (S : Mem) (x1 : Int32) (x2 : Int32) : Option (Int32) := (if x1 < 0 then f_X8_reason_9 S else (if x1 ≤ (1 : Int32) then (if x1 = 0 then f_X8_reason_33 S x1 x2 (S 11 4) else f_X8_reason_33 S x1 x2 (S 11 6)) else f_X8_reason_9 S))
def g_X8_reason (S : Mem) (x1 : Int32) (x2 : Int32) : Option (Int32) := f_X8_reason_0 S x1 x2
set_option maxHeartbeats 4000000 in
set_option maxRecDepth 100000 in
theorem b_X8_reason_9 {v : EV} {p : Program} {l : Launch} {e : Env} {s : State} {m : MethodId} {args : Array Value} {below : List Frame} {meth : Method} {c : Code} (hC : Cx v p l e s m args meth c RX8 cX8_reason 4 (some .int)) {S : Mem}  {r : Int32} (hf : f_X8_reason_9 S = some r) : Mj v p l e (rmF 1 12) s m args below meth c 4 (MQ below (Qc v (some (.int r)) S) args s 0 0 (eG v)) 0 S 9 [] [] := by
  refine i_bipush hC dX8_reason_9 lb_m2 ?_
  obtain rfl := Option.some.inj hf
  exact i_iret hC dX8_reason_11
set_option maxHeartbeats 4000000 in
set_option maxRecDepth 100000 in
theorem b_X8_reason_68 {v : EV} {p : Program} {l : Launch} {e : Env} {s : State} {m : MethodId} {args : Array Value} {below : List Frame} {meth : Method} {c : Code} (hC : Cx v p l e s m args meth c RX8 cX8_reason 4 (some .int)) {S : Mem} {xt0 : Int32}  {r : Int32} (hf : f_X8_reason_68 S xt0 = some r) : Mj v p l e (rmF 1 12) s m args below meth c 4 (MQ below (Qc v (some (.int r)) S) args s 0 0 (eG v)) 0 S 68 [] [.int xt0] := by
  obtain rfl := Option.some.inj hf
  exact i_iret hC dX8_reason_68
set_option maxHeartbeats 4000000 in
set_option maxRecDepth 100000 in
theorem b_X8_reason_33 {v : EV} {p : Program} {l : Launch} {e : Env} {s : State} {m : MethodId} {args : Array Value} {below : List Frame} {meth : Method} {c : Code} (hC : Cx v p l e s m args meth c RX8 cX8_reason 4 (some .int)) {S : Mem} {x1 : Int32} {x2 : Int32} {xt0 : Int32}  {r : Int32} (hf : f_X8_reason_33 S x1 x2 xt0 = some r) : Mj v p l e (rmF 1 12) s m args below meth c 4 (MQ below (Qc v (some (.int r)) S) args s 0 0 (eG v)) 0 S 33 [(0, .ref (eA v (198))), (1, .int x1), (2, .int x2)] [.int xt0] := by
  refine i_istore_n hC dX8_reason_33 (by decide) ?_
  refine i_iload_n hC dX8_reason_34 rfl ?_
  refine i_if_ne hC (tgt := 41) dX8_reason_35 (by decide) (fun c4 => ?_) (fun c4 => ?_)
  · replace hf := (if_neg c4).symm.trans hf
    refine i_iload_n hC dX8_reason_41 rfl ?_
    refine i_if_ne hC (tgt := 47) dX8_reason_42 (by decide) (fun c5 => ?_) (fun c5 => ?_)
    · replace hf := (if_neg c5).symm.trans hf
      refine i_iload_n hC dX8_reason_47 rfl ?_
      refine i_if_ne hC (tgt := 61) dX8_reason_48 (by decide) (fun c6 => ?_) (fun c6 => ?_)
      · replace hf := (if_neg c6).symm.trans hf
        refine i_aload_n hC dX8_reason_61 rfl ?_
        refine i_getR hC fl_X8_32 (pln rfl) (lay_p198) rfl dX8_reason_62 ?_
        refine i_getI hC fl_X8_261 (pln rfl) (lay_p201) rfl dX8_reason_65 ?_
        exact Mj.to (b_X8_reason_68 hC  hf) trivial
      · replace hf := (if_pos c6).symm.trans hf
        refine i_aload_n hC dX8_reason_51 rfl ?_
        refine i_getR hC fl_X8_32 (pln rfl) (lay_p198) rfl dX8_reason_52 ?_
        refine i_getI hC fl_X8_258 (pln rfl) (lay_p201) rfl dX8_reason_55 ?_
        refine i_goto hC (tgt := 68) dX8_reason_58 (by decide) ?_
        exact Mj.to (b_X8_reason_68 hC  hf) trivial
    · replace hf := (if_pos c5).symm.trans hf
      refine i_iload_n hC dX8_reason_45 rfl ?_
      obtain rfl := Option.some.inj hf
      exact i_iret hC dX8_reason_46
  · replace hf := (if_pos c4).symm.trans hf
    refine i_bipush hC dX8_reason_38 lb_m4 ?_
    obtain rfl := Option.some.inj hf
    exact i_iret hC dX8_reason_40
set_option maxHeartbeats 4000000 in
set_option maxRecDepth 100000 in
theorem b_X8_reason_0 {v : EV} {p : Program} {l : Launch} {e : Env} {s : State} {m : MethodId} {args : Array Value} {below : List Frame} {meth : Method} {c : Code} (hC : Cx v p l e s m args meth c RX8 cX8_reason 4 (some .int)) {S : Mem} {x1 : Int32} {x2 : Int32}  {r : Int32} (hf : f_X8_reason_0 S x1 x2 = some r) : Mj v p l e (rmF 1 12) s m args below meth c 4 (MQ below (Qc v (some (.int r)) S) args s 0 0 (eG v)) 0 S 0 [(0, .ref (eA v (198))), (1, .int x1), (2, .int x2)] [] := by
  refine i_iload_n hC dX8_reason_0 rfl ?_
  refine i_if_lt hC (tgt := 9) dX8_reason_1 (by decide) (fun c1 => ?_) (fun c1 => ?_)
  · replace hf := (if_pos c1).symm.trans hf
    exact Mj.to (b_X8_reason_9 hC  hf) trivial
  · replace hf := (if_neg c1).symm.trans hf
    refine i_iload_n hC dX8_reason_4 rfl ?_
    refine i_iconst hC dX8_reason_5 li_1 ?_
    refine i_icmp_le hC (tgt := 12) dX8_reason_6 (by decide) (fun c2 => ?_) (fun c2 => ?_)
    · replace hf := (if_pos c2).symm.trans hf
      refine i_iload_n hC dX8_reason_12 rfl ?_
      refine i_if_ne hC (tgt := 26) dX8_reason_13 (by decide) (fun c3 => ?_) (fun c3 => ?_)
      · replace hf := (if_neg c3).symm.trans hf
        refine i_aload_n hC dX8_reason_26 rfl ?_
        refine i_getR hC fl_X8_32 (pln rfl) (lay_p198) rfl dX8_reason_27 ?_
        refine i_getI hC fl_X8_255 (pln rfl) (lay_p201) rfl dX8_reason_30 ?_
        exact Mj.to (b_X8_reason_33 hC  hf) ⟨rfl, rfl, rfl, trivial⟩
      · replace hf := (if_pos c3).symm.trans hf
        refine i_aload_n hC dX8_reason_16 rfl ?_
        refine i_getR hC fl_X8_32 (pln rfl) (lay_p198) rfl dX8_reason_17 ?_
        refine i_getI hC fl_X8_252 (pln rfl) (lay_p201) rfl dX8_reason_20 ?_
        refine i_goto hC (tgt := 33) dX8_reason_23 (by decide) ?_
        exact Mj.to (b_X8_reason_33 hC  hf) ⟨rfl, rfl, rfl, trivial⟩
    · replace hf := (if_neg c2).symm.trans hf
      exact Mj.to (b_X8_reason_9 hC  hf) trivial
theorem c_X8_reason {v : EV} {l : Launch} (hst : Stb v) {S : Mem} {x1 x2 : Int32}  {r : Int32} (hf : g_X8_reason S x1 x2 = some r) : Con v l yX8_reason cX8_reason 4 (some .int) 1 12 [.ref (eA v (198)), .int x1, .int x2] S (some (.int r)) S := con_of (by decide) hst (Nat.le_of_ble_eq_true rfl) (fun p e s m args below meth c hC => b_X8_reason_0 hC  hf)
def f_X8_lineOf_50 (S : Mem) (xt0 : Int32) : Option (Int32) := some xt0
def f_X8_lineOf_0 (S : Mem) (x1 : Int32) (x2 : Int32) (x3 : Int32) : Option (Int32) := bd1 (g_X4_hasLine S 0 x1 x2) (fun r1 => (if r1 = 0 then some (-1 : Int32) else ck (inb x1 5) ((if x3 = 0 then ck (inb (x2 - (1 : Int32)) 12) (f_X8_lineOf_50 S (S 0 (33 + 34 * (x1).toNatClampNeg + 10 + ((x2 - (1 : Int32))).toNatClampNeg))) else ck (inb (x2 - (1 : Int32)) 12) (f_X8_lineOf_50 S (S 0 (33 + 34 * (x1).toNatClampNeg + 22 + ((x2 - (1 : Int32))).toNatClampNeg)))))))
def g_X8_lineOf (S : Mem) (x1 : Int32) (x2 : Int32) (x3 : Int32) : Option (Int32) := f_X8_lineOf_0 S x1 x2 x3
set_option maxHeartbeats 4000000 in
set_option maxRecDepth 100000 in
theorem b_X8_lineOf_50 {v : EV} {p : Program} {l : Launch} {e : Env} {s : State} {m : MethodId} {args : Array Value} {below : List Frame} {meth : Method} {c : Code} (hC : Cx v p l e s m args meth c RX8 cX8_lineOf 5 (some .int)) {S : Mem} {xt0 : Int32}  {r : Int32} (hf : f_X8_lineOf_50 S xt0 = some r) : Mj v p l e (rmF 3 55) s m args below meth c 5 (MQ below (Qc v (some (.int r)) S) args s 0 0 (eG v)) 0 S 50 [] [.int xt0] := by
  obtain rfl := Option.some.inj hf
  exact i_iret hC dX8_lineOf_50
set_option maxHeartbeats 4000000 in
set_option maxRecDepth 100000 in
theorem b_X8_lineOf_0 {v : EV} {p : Program} {l : Launch} {e : Env} {s : State} {m : MethodId} {args : Array Value} {below : List Frame} {meth : Method} {c : Code} (hC : Cx v p l e s m args meth c RX8 cX8_lineOf 5 (some .int)) {S : Mem} {x1 : Int32} {x2 : Int32} {x3 : Int32}  {r : Int32} (hf : f_X8_lineOf_0 S x1 x2 x3 = some r) : Mj v p l e (rmF 3 55) s m args below meth c 5 (MQ below (Qc v (some (.int r)) S) args s 0 0 (eG v)) 0 S 0 [(0, .ref (eA v (198))), (1, .int x1), (2, .int x2), (3, .int x3)] [] := by
  refine i_aload_n hC dX8_lineOf_0 rfl ?_
  refine i_getR (x := pR 0) hC fl_X8_12 (pln rfl) (lay_p198) rfl dX8_lineOf_1 ?_
  refine i_iload_n hC dX8_lineOf_4 rfl ?_
  refine i_iload_n hC dX8_lineOf_5 rfl ?_
  obtain ⟨r1, hc1, hf⟩ := bd1_of hf
  refine i_callVi hC mv_X8_282 (c_X4_hasLine hC.2.2.2.2.2.2.2.1 (by decide) hc1) (pl_R (by decide)) (lay_R (by decide)) rfl rfl rfl rfl ⟨Nat.le_of_ble_eq_true rfl, Nat.le_of_ble_eq_true rfl⟩ (Nat.le_of_ble_eq_true rfl) dX8_lineOf_6 ?_
  refine i_if_ne hC (tgt := 14) dX8_lineOf_9 (by decide) (fun c2 => ?_) (fun c2 => ?_)
  · replace hf := (if_neg c2).symm.trans hf
    refine i_aload_n hC dX8_lineOf_14 rfl ?_
    refine i_getR (x := pR 0) hC fl_X8_12 (pln rfl) (lay_p198) rfl dX8_lineOf_15 ?_
    refine i_getR hC fl_X8_191 (pl_R (by decide)) (lay_R (by decide)) rfl dX8_lineOf_18 ?_
    refine i_iload_n hC dX8_lineOf_21 rfl ?_
    obtain ⟨k3, hf⟩ := ck_of hf
    refine i_aald hC (pl_AD (by decide)) (lay_AD (by decide)) (by decide) (inb_in k3) dX8_lineOf_22 ?_
    refine i_astore hC dX8_lineOf_23 (by decide) ?_
    refine i_iload_n hC dX8_lineOf_25 rfl ?_
    refine i_if_eq hC (tgt := 41) dX8_lineOf_26 (by decide) (fun c4 => ?_) (fun c4 => ?_)
    · replace hf := (if_pos c4).symm.trans hf
      refine i_aload hC dX8_lineOf_41 rfl ?_
      refine i_getR hC fl_X8_289 (pl_D ⟨(by decide), inb_lt k3⟩) (lay_D ⟨(by decide), inb_lt k3⟩) rfl dX8_lineOf_43 ?_
      refine i_iload_n hC dX8_lineOf_46 rfl ?_
      refine i_iconst hC dX8_lineOf_47 li_1 ?_
      refine i_isub hC dX8_lineOf_48 ?_
      obtain ⟨k5, hf⟩ := ck_of hf
      refine i_iald hC (j0 := (33 + 34 * (x1).toNatClampNeg + 10 + ((x2 - (1 : Int32))).toNatClampNeg)) (pl_AT ⟨(by decide), inb_lt k3⟩) (lay_AT ⟨(by decide), inb_lt k3⟩) (inb_in k5) rfl dX8_lineOf_49 ?_
      exact Mj.to (b_X8_lineOf_50 hC  hf) trivial
    · replace hf := (if_neg c4).symm.trans hf
      refine i_aload hC dX8_lineOf_29 rfl ?_
      refine i_getR hC fl_X8_285 (pl_D ⟨(by decide), inb_lt k3⟩) (lay_D ⟨(by decide), inb_lt k3⟩) rfl dX8_lineOf_31 ?_
      refine i_iload_n hC dX8_lineOf_34 rfl ?_
      refine i_iconst hC dX8_lineOf_35 li_1 ?_
      refine i_isub hC dX8_lineOf_36 ?_
      obtain ⟨k6, hf⟩ := ck_of hf
      refine i_cald hC (j0 := (33 + 34 * (x1).toNatClampNeg + 22 + ((x2 - (1 : Int32))).toNatClampNeg)) (pl_AL ⟨(by decide), inb_lt k3⟩) (lay_AL ⟨(by decide), inb_lt k3⟩) (inb_in k6) rfl dX8_lineOf_37 ?_
      refine i_goto hC (tgt := 50) dX8_lineOf_38 (by decide) ?_
      exact Mj.to (b_X8_lineOf_50 hC  hf) trivial
  · replace hf := (if_pos c2).symm.trans hf
    refine i_iconst hC dX8_lineOf_12 li_m1 ?_
    obtain rfl := Option.some.inj hf
    exact i_iret hC dX8_lineOf_13
theorem c_X8_lineOf {v : EV} {l : Launch} (hst : Stb v) {S : Mem} {x1 x2 x3 : Int32}  {r : Int32} (hf : g_X8_lineOf S x1 x2 x3 = some r) : Con v l yX8_lineOf cX8_lineOf 5 (some .int) 3 55 [.ref (eA v (198)), .int x1, .int x2, .int x3] S (some (.int r)) S := con_of (by decide) hst (Nat.le_of_ble_eq_true rfl) (fun p e s m args below meth c hC => b_X8_lineOf_0 hC  hf)
def f_X8_leader_60 (ih7 : (Int32 × Int32 × Int32) → Option (Int32)) (S : Mem) (x1 : Int32) (x2 : Int32) (x3 : Int32) : Option (Int32) := ih7 (x1, x2, (x3 + (1 : Int32)))
def f_X8_leader_52 (ih7 : (Int32 × Int32 × Int32) → Option (Int32)) (S : Mem) (x3 : Int32) (d4_0 : Nat) (d4_1 : Nat) : Option (Int32) := f_X8_leader_60 ih7 S x3 (S d4_0 (33 + 34 * d4_1 + 1)) x3
def f_X8_leader_7_b (ih7 : (Int32 × Int32 × Int32) → Option (Int32)) (S : Mem) (x1 : Int32) (x2 : Int32) (x3 : Int32) : Option (Int32) := (if (S 0 1) ≤ x3 then some x1 else ck (inb x3 5) (bd1 (g_X2_isLeading S 0 (x3).toNatClampNeg) (fun r3 => (if r3 = 0 then f_X8_leader_60 ih7 S x1 x2 x3 else (if x1 = (-4 : Int32) then f_X8_leader_52 ih7 S x3 0 (x3).toNatClampNeg else (if (S 0 (33 + 34 * (x3).toNatClampNeg + 1)) ≤ x2 then f_X8_leader_60 ih7 S x1 x2 x3 else f_X8_leader_52 ih7 S x3 0 (x3).toNatClampNeg))))))
def f_X8_leader_7 (S : Mem) (x1 : Int32) (x2 : Int32) (x3 : Int32) : Option (Int32) := lp (fun ih7 s9 => f_X8_leader_7_b ih7 S s9.1 s9.2.1 s9.2.2) 2000 (x1, x2, x3)
def f_X8_leader_0 (S : Mem)  : Option (Int32) := f_X8_leader_7 S (-4 : Int32) (0 : Int32) (0 : Int32)
def g_X8_leader (S : Mem)  : Option (Int32) := f_X8_leader_0 S
set_option maxHeartbeats 4000000 in
set_option maxRecDepth 100000 in
theorem b_X8_leader_60 {v : EV} {p : Program} {l : Launch} {e : Env} {s : State} {m : MethodId} {args : Array Value} {below : List Frame} {meth : Method} {c : Code} (hC : Cx v p l e s m args meth c RX8 cX8_leader 5 (some .int)) {S : Mem} {x1 : Int32} {x2 : Int32} {x3 : Int32}  {r : Int32} {ih7 : (Int32 × Int32 × Int32) → Option (Int32)} (hih7 : ∀ s9 : (Int32 × Int32 × Int32), ih7 s9 = some r → Mj v p l e (rmF 2 32) s m args below meth c 5 (MQ below (Qc v (some (.int r)) S) args s 0 0 (eG v)) 0 S 7 [(0, .ref (eA v (198))), (1, .int (s9.1)), (2, .int (s9.2.1)), (3, .int (s9.2.2))] []) (hf : f_X8_leader_60 ih7 S x1 x2 x3 = some r) : Mj v p l e (rmF 2 32) s m args below meth c 5 (MQ below (Qc v (some (.int r)) S) args s 0 0 (eG v)) 0 S 60 [(0, .ref (eA v (198))), (1, .int x1), (2, .int x2), (3, .int x3)] [] := by
  refine i_iinc hC dX8_leader_60 rfl li_1 (by decide) ?_
  refine i_goto hC (tgt := 7) dX8_leader_63 (by decide) ?_
  exact Mj.to (hih7 _ hf) ⟨rfl, rfl, rfl, rfl, trivial⟩
set_option maxHeartbeats 4000000 in
set_option maxRecDepth 100000 in
theorem b_X8_leader_52 {v : EV} {p : Program} {l : Launch} {e : Env} {s : State} {m : MethodId} {args : Array Value} {below : List Frame} {meth : Method} {c : Code} (hC : Cx v p l e s m args meth c RX8 cX8_leader 5 (some .int)) {S : Mem} {x3 : Int32} {d4_0 : Nat} {d4_1 : Nat} (h4 : d4_0 < 11 ∧ d4_1 < 5) {r : Int32} {ih7 : (Int32 × Int32 × Int32) → Option (Int32)} (hih7 : ∀ s9 : (Int32 × Int32 × Int32), ih7 s9 = some r → Mj v p l e (rmF 2 32) s m args below meth c 5 (MQ below (Qc v (some (.int r)) S) args s 0 0 (eG v)) 0 S 7 [(0, .ref (eA v (198))), (1, .int (s9.1)), (2, .int (s9.2.1)), (3, .int (s9.2.2))] []) (hf : f_X8_leader_52 ih7 S x3 d4_0 d4_1 = some r) : Mj v p l e (rmF 2 32) s m args below meth c 5 (MQ below (Qc v (some (.int r)) S) args s 0 0 (eG v)) 0 S 52 [(0, .ref (eA v (198))), (3, .int x3), (4, .ref (eA v (pD d4_0 d4_1)))] [] := by
  refine i_iload_n hC dX8_leader_52 rfl ?_
  refine i_istore_n hC dX8_leader_53 (by decide) ?_
  refine i_aload hC dX8_leader_54 rfl ?_
  refine i_getI hC fl_X8_204 (pl_D h4) (lay_D h4) rfl dX8_leader_56 ?_
  refine i_istore_n hC dX8_leader_59 (by decide) ?_
  exact Mj.to (b_X8_leader_60 hC hih7 hf) ⟨rfl, rfl, rfl, rfl, trivial⟩
set_option maxHeartbeats 4000000 in
set_option maxRecDepth 100000 in
theorem b_X8_leader_7_b {v : EV} {p : Program} {l : Launch} {e : Env} {s : State} {m : MethodId} {args : Array Value} {below : List Frame} {meth : Method} {c : Code} (hC : Cx v p l e s m args meth c RX8 cX8_leader 5 (some .int)) {S : Mem} {x1 : Int32} {x2 : Int32} {x3 : Int32}  {r : Int32} {ih7 : (Int32 × Int32 × Int32) → Option (Int32)} (hih7 : ∀ s9 : (Int32 × Int32 × Int32), ih7 s9 = some r → Mj v p l e (rmF 2 32) s m args below meth c 5 (MQ below (Qc v (some (.int r)) S) args s 0 0 (eG v)) 0 S 7 [(0, .ref (eA v (198))), (1, .int (s9.1)), (2, .int (s9.2.1)), (3, .int (s9.2.2))] []) (hf : f_X8_leader_7_b ih7 S x1 x2 x3 = some r) : Mj v p l e (rmF 2 32) s m args below meth c 5 (MQ below (Qc v (some (.int r)) S) args s 0 0 (eG v)) 0 S 7 [(0, .ref (eA v (198))), (1, .int x1), (2, .int x2), (3, .int x3)] [] := by
  refine i_iload_n hC dX8_leader_7 rfl ?_
  refine i_aload_n hC dX8_leader_8 rfl ?_
  refine i_getR (x := pR 0) hC fl_X8_12 (pln rfl) (lay_p198) rfl dX8_leader_9 ?_
  refine i_getI hC fl_X8_54 (pl_R (by decide)) (lay_R (by decide)) rfl dX8_leader_12 ?_
  refine i_icmp_ge hC (tgt := 66) dX8_leader_15 (by decide) (fun c1 => ?_) (fun c1 => ?_)
  · replace hf := (if_pos c1).symm.trans hf
    refine i_iload_n hC dX8_leader_66 rfl ?_
    obtain rfl := Option.some.inj hf
    exact i_iret hC dX8_leader_67
  · replace hf := (if_neg c1).symm.trans hf
    refine i_aload_n hC dX8_leader_18 rfl ?_
    refine i_getR (x := pR 0) hC fl_X8_12 (pln rfl) (lay_p198) rfl dX8_leader_19 ?_
    refine i_getR hC fl_X8_191 (pl_R (by decide)) (lay_R (by decide)) rfl dX8_leader_22 ?_
    refine i_iload_n hC dX8_leader_25 rfl ?_
    obtain ⟨k2, hf⟩ := ck_of hf
    refine i_aald hC (pl_AD (by decide)) (lay_AD (by decide)) (by decide) (inb_in k2) dX8_leader_26 ?_
    refine i_astore hC dX8_leader_27 (by decide) ?_
    refine i_aload hC dX8_leader_29 rfl ?_
    obtain ⟨r3, hc3, hf⟩ := bd1_of hf
    refine i_callVi hC mv_X8_292 (c_X2_isLeading hC.2.2.2.2.2.2.2.1 ⟨(by decide), inb_lt k2⟩ hc3) (pl_D ⟨(by decide), inb_lt k2⟩) (lay_D ⟨(by decide), inb_lt k2⟩) rfl rfl rfl rfl ⟨Nat.le_of_ble_eq_true rfl, Nat.le_of_ble_eq_true rfl⟩ (Nat.le_of_ble_eq_true rfl) dX8_leader_31 ?_
    refine i_if_eq hC (tgt := 60) dX8_leader_34 (by decide) (fun c4 => ?_) (fun c4 => ?_)
    · replace hf := (if_pos c4).symm.trans hf
      exact Mj.to (b_X8_leader_60 hC hih7 hf) ⟨rfl, rfl, rfl, rfl, trivial⟩
    · replace hf := (if_neg c4).symm.trans hf
      refine i_iload_n hC dX8_leader_37 rfl ?_
      refine i_bipush hC dX8_leader_38 lb_m4 ?_
      refine i_icmp_eq hC (tgt := 52) dX8_leader_40 (by decide) (fun c5 => ?_) (fun c5 => ?_)
      · replace hf := (if_pos c5).symm.trans hf
        exact Mj.to (b_X8_leader_52 hC ⟨(by decide), inb_lt k2⟩ hih7 hf) ⟨rfl, rfl, rfl, trivial⟩
      · replace hf := (if_neg c5).symm.trans hf
        refine i_aload hC dX8_leader_43 rfl ?_
        refine i_getI hC fl_X8_204 (pl_D ⟨(by decide), inb_lt k2⟩) (lay_D ⟨(by decide), inb_lt k2⟩) rfl dX8_leader_45 ?_
        refine i_iload_n hC dX8_leader_48 rfl ?_
        refine i_icmp_le hC (tgt := 60) dX8_leader_49 (by decide) (fun c6 => ?_) (fun c6 => ?_)
        · replace hf := (if_pos c6).symm.trans hf
          exact Mj.to (b_X8_leader_60 hC hih7 hf) ⟨rfl, rfl, rfl, rfl, trivial⟩
        · replace hf := (if_neg c6).symm.trans hf
          exact Mj.to (b_X8_leader_52 hC ⟨(by decide), inb_lt k2⟩ hih7 hf) ⟨rfl, rfl, rfl, trivial⟩
theorem b_X8_leader_7 {v : EV} {p : Program} {l : Launch} {e : Env} {s : State} {m : MethodId} {args : Array Value} {below : List Frame} {meth : Method} {c : Code} (hC : Cx v p l e s m args meth c RX8 cX8_leader 5 (some .int)) {S : Mem} {x1 : Int32} {x2 : Int32} {x3 : Int32}  {r : Int32} (hf : f_X8_leader_7 S x1 x2 x3 = some r) : Mj v p l e (rmF 2 32) s m args below meth c 5 (MQ below (Qc v (some (.int r)) S) args s 0 0 (eG v)) 0 S 7 [(0, .ref (eA v (198))), (1, .int x1), (2, .int x2), (3, .int x3)] [] :=
  lp_ind (P := fun s9 : (Int32 × Int32 × Int32) => Mj v p l e (rmF 2 32) s m args below meth c 5 (MQ below (Qc v (some (.int r)) S) args s 0 0 (eG v)) 0 S 7 [(0, .ref (eA v (198))), (1, .int (s9.1)), (2, .int (s9.2.1)), (3, .int (s9.2.2))] []) (fun ih s9 hih hf => b_X8_leader_7_b hC   hih hf) _ _ hf
set_option maxHeartbeats 4000000 in
set_option maxRecDepth 100000 in
theorem b_X8_leader_0 {v : EV} {p : Program} {l : Launch} {e : Env} {s : State} {m : MethodId} {args : Array Value} {below : List Frame} {meth : Method} {c : Code} (hC : Cx v p l e s m args meth c RX8 cX8_leader 5 (some .int)) {S : Mem}  {r : Int32} (hf : f_X8_leader_0 S = some r) : Mj v p l e (rmF 2 32) s m args below meth c 5 (MQ below (Qc v (some (.int r)) S) args s 0 0 (eG v)) 0 S 0 [(0, .ref (eA v (198)))] [] := by
  refine i_bipush hC dX8_leader_0 lb_m4 ?_
  refine i_istore_n hC dX8_leader_2 (by decide) ?_
  refine i_iconst hC dX8_leader_3 li_0 ?_
  refine i_istore_n hC dX8_leader_4 (by decide) ?_
  refine i_iconst hC dX8_leader_5 li_0 ?_
  refine i_istore_n hC dX8_leader_6 (by decide) ?_
  exact Mj.to (b_X8_leader_7 hC  hf) ⟨rfl, rfl, rfl, rfl, trivial⟩
theorem c_X8_leader {v : EV} {l : Launch} (hst : Stb v) {S : Mem}  {r : Int32} (hf : g_X8_leader S = some r) : Con v l yX8_leader cX8_leader 5 (some .int) 2 32 [.ref (eA v (198))] S (some (.int r)) S := con_of (by decide) hst (Nat.le_of_ble_eq_true rfl) (fun p e s m args below meth c hC => b_X8_leader_0 hC  hf)
def f_X8_wouldVote_22 (S : Mem)  : Option (Int32) := some (0 : Int32)
def f_X8_wouldVote_46 (S : Mem) (xt0 : Int32) : Option (Int32) := ck (isb xt0) (some xt0)
def f_X8_wouldVote_41 (S : Mem)  : Option (Int32) := f_X8_wouldVote_46 S (1 : Int32)
def f_X8_wouldVote_0 (S : Mem) (x1 : Int32) (x2 : Int32) : Option (Int32) := bd1 (g_X4_has S 0 x1) (fun r1 => (if r1 = 0 then f_X8_wouldVote_22 S else bd1 (g_X4_has S 0 x2) (fun r3 => (if r3 = 0 then f_X8_wouldVote_22 S else (if x1 = x2 then f_X8_wouldVote_41 S else bd1 (g_X4_wouldGrantVote S 0 x1 x2) (fun r7 => (if r7 = 0 then f_X8_wouldVote_46 S (0 : Int32) else f_X8_wouldVote_41 S)))))))
def g_X8_wouldVote (S : Mem) (x1 : Int32) (x2 : Int32) : Option (Int32) := f_X8_wouldVote_0 S x1 x2
set_option maxHeartbeats 4000000 in
set_option maxRecDepth 100000 in
theorem b_X8_wouldVote_22 {v : EV} {p : Program} {l : Launch} {e : Env} {s : State} {m : MethodId} {args : Array Value} {below : List Frame} {meth : Method} {c : Code} (hC : Cx v p l e s m args meth c RX8 cX8_wouldVote 3 (some .boolean)) {S : Mem}  {r : Int32} (hf : f_X8_wouldVote_22 S = some r) : Mj v p l e (rmF 3 60) s m args below meth c 3 (MQ below (Qc v (some (.int r)) S) args s 0 0 (eG v)) 0 S 22 [] [] := by
  refine i_iconst hC dX8_wouldVote_22 li_0 ?_
  obtain rfl := Option.some.inj hf
  exact i_zret hC dX8_wouldVote_23 (isb_z (x := (0 : Int32)) (by decide)).1
set_option maxHeartbeats 4000000 in
set_option maxRecDepth 100000 in
theorem b_X8_wouldVote_46 {v : EV} {p : Program} {l : Launch} {e : Env} {s : State} {m : MethodId} {args : Array Value} {below : List Frame} {meth : Method} {c : Code} (hC : Cx v p l e s m args meth c RX8 cX8_wouldVote 3 (some .boolean)) {S : Mem} {xt0 : Int32}  {r : Int32} (hf : f_X8_wouldVote_46 S xt0 = some r) : Mj v p l e (rmF 3 60) s m args below meth c 3 (MQ below (Qc v (some (.int r)) S) args s 0 0 (eG v)) 0 S 46 [] [.int xt0] := by
  obtain ⟨k6, hf⟩ := ck_of hf
  obtain rfl := Option.some.inj hf
  exact i_zret hC dX8_wouldVote_46 (isb_z k6).1
set_option maxHeartbeats 4000000 in
set_option maxRecDepth 100000 in
theorem b_X8_wouldVote_41 {v : EV} {p : Program} {l : Launch} {e : Env} {s : State} {m : MethodId} {args : Array Value} {below : List Frame} {meth : Method} {c : Code} (hC : Cx v p l e s m args meth c RX8 cX8_wouldVote 3 (some .boolean)) {S : Mem}  {r : Int32} (hf : f_X8_wouldVote_41 S = some r) : Mj v p l e (rmF 3 60) s m args below meth c 3 (MQ below (Qc v (some (.int r)) S) args s 0 0 (eG v)) 0 S 41 [] [] := by
  refine i_iconst hC dX8_wouldVote_41 li_1 ?_
  refine i_goto hC (tgt := 46) dX8_wouldVote_42 (by decide) ?_
  exact Mj.to (b_X8_wouldVote_46 hC  hf) trivial
set_option maxHeartbeats 4000000 in
set_option maxRecDepth 100000 in
theorem b_X8_wouldVote_0 {v : EV} {p : Program} {l : Launch} {e : Env} {s : State} {m : MethodId} {args : Array Value} {below : List Frame} {meth : Method} {c : Code} (hC : Cx v p l e s m args meth c RX8 cX8_wouldVote 3 (some .boolean)) {S : Mem} {x1 : Int32} {x2 : Int32}  {r : Int32} (hf : f_X8_wouldVote_0 S x1 x2 = some r) : Mj v p l e (rmF 3 60) s m args below meth c 3 (MQ below (Qc v (some (.int r)) S) args s 0 0 (eG v)) 0 S 0 [(0, .ref (eA v (198))), (1, .int x1), (2, .int x2)] [] := by
  refine i_aload_n hC dX8_wouldVote_0 rfl ?_
  refine i_getR (x := pR 0) hC fl_X8_12 (pln rfl) (lay_p198) rfl dX8_wouldVote_1 ?_
  refine i_iload_n hC dX8_wouldVote_4 rfl ?_
  obtain ⟨r1, hc1, hf⟩ := bd1_of hf
  refine i_callVi hC mv_X8_187 (c_X4_has hC.2.2.2.2.2.2.2.1 (by decide) hc1) (pl_R (by decide)) (lay_R (by decide)) rfl rfl rfl rfl ⟨Nat.le_of_ble_eq_true rfl, Nat.le_of_ble_eq_true rfl⟩ (Nat.le_of_ble_eq_true rfl) dX8_wouldVote_5 ?_
  refine i_if_eq hC (tgt := 22) dX8_wouldVote_8 (by decide) (fun c2 => ?_) (fun c2 => ?_)
  · replace hf := (if_pos c2).symm.trans hf
    exact Mj.to (b_X8_wouldVote_22 hC  hf) trivial
  · replace hf := (if_neg c2).symm.trans hf
    refine i_aload_n hC dX8_wouldVote_11 rfl ?_
    refine i_getR (x := pR 0) hC fl_X8_12 (pln rfl) (lay_p198) rfl dX8_wouldVote_12 ?_
    refine i_iload_n hC dX8_wouldVote_15 rfl ?_
    obtain ⟨r3, hc3, hf⟩ := bd1_of hf
    refine i_callVi hC mv_X8_187 (c_X4_has hC.2.2.2.2.2.2.2.1 (by decide) hc3) (pl_R (by decide)) (lay_R (by decide)) rfl rfl rfl rfl ⟨Nat.le_of_ble_eq_true rfl, Nat.le_of_ble_eq_true rfl⟩ (Nat.le_of_ble_eq_true rfl) dX8_wouldVote_16 ?_
    refine i_if_ne hC (tgt := 24) dX8_wouldVote_19 (by decide) (fun c4 => ?_) (fun c4 => ?_)
    · replace hf := (if_neg c4).symm.trans hf
      refine i_iload_n hC dX8_wouldVote_24 rfl ?_
      refine i_iload_n hC dX8_wouldVote_25 rfl ?_
      refine i_icmp_eq hC (tgt := 41) dX8_wouldVote_26 (by decide) (fun c5 => ?_) (fun c5 => ?_)
      · replace hf := (if_pos c5).symm.trans hf
        exact Mj.to (b_X8_wouldVote_41 hC  hf) trivial
      · replace hf := (if_neg c5).symm.trans hf
        refine i_aload_n hC dX8_wouldVote_29 rfl ?_
        refine i_getR (x := pR 0) hC fl_X8_12 (pln rfl) (lay_p198) rfl dX8_wouldVote_30 ?_
        refine i_iload_n hC dX8_wouldVote_33 rfl ?_
        refine i_iload_n hC dX8_wouldVote_34 rfl ?_
        obtain ⟨r7, hc7, hf⟩ := bd1_of hf
        refine i_callVi hC mv_X8_298 (c_X4_wouldGrantVote hC.2.2.2.2.2.2.2.1 (by decide) hc7) (pl_R (by decide)) (lay_R (by decide)) rfl rfl rfl rfl ⟨Nat.le_of_ble_eq_true rfl, Nat.le_of_ble_eq_true rfl⟩ (Nat.le_of_ble_eq_true rfl) dX8_wouldVote_35 ?_
        refine i_if_eq hC (tgt := 45) dX8_wouldVote_38 (by decide) (fun c8 => ?_) (fun c8 => ?_)
        · replace hf := (if_pos c8).symm.trans hf
          refine i_iconst hC dX8_wouldVote_45 li_0 ?_
          exact Mj.to (b_X8_wouldVote_46 hC  hf) trivial
        · replace hf := (if_neg c8).symm.trans hf
          exact Mj.to (b_X8_wouldVote_41 hC  hf) trivial
    · replace hf := (if_pos c4).symm.trans hf
      exact Mj.to (b_X8_wouldVote_22 hC  hf) trivial
theorem c_X8_wouldVote {v : EV} {l : Launch} (hst : Stb v) {S : Mem} {x1 x2 : Int32}  {r : Int32} (hf : g_X8_wouldVote S x1 x2 = some r) : Con v l yX8_wouldVote cX8_wouldVote 3 (some .boolean) 3 60 [.ref (eA v (198)), .int x1, .int x2] S (some (.int r)) S := con_of (by decide) hst (Nat.le_of_ble_eq_true rfl) (fun p e s m args below meth c hC => b_X8_wouldVote_0 hC  hf)
def f_X8_codeOfAsking_44 (S : Mem) (xt0 : Int32) : Option (Int32) := some xt0
def f_X8_codeOfAsking_42 (S : Mem)  : Option (Int32) := f_X8_codeOfAsking_44 S (-4 : Int32)
def f_X8_codeOfAsking_0 (S : Mem) (x1 : Int32) : Option (Int32) := bd1 (g_X4_has S 0 x1) (fun r1 => (if r1 = 0 then some (-1 : Int32) else ck (inb x1 5) ((if (S 0 (33 + 34 * (x1).toNatClampNeg + 7)) = 0 then f_X8_codeOfAsking_42 S else (if (S 0 (33 + 34 * (x1).toNatClampNeg)) = (2 : Int32) then f_X8_codeOfAsking_42 S else f_X8_codeOfAsking_44 S (0 : Int32))))))
def g_X8_codeOfAsking (S : Mem) (x1 : Int32) : Option (Int32) := f_X8_codeOfAsking_0 S x1
set_option maxHeartbeats 4000000 in
set_option maxRecDepth 100000 in
theorem b_X8_codeOfAsking_44 {v : EV} {p : Program} {l : Launch} {e : Env} {s : State} {m : MethodId} {args : Array Value} {below : List Frame} {meth : Method} {c : Code} (hC : Cx v p l e s m args meth c RX8 cX8_codeOfAsking 3 (some .int)) {S : Mem} {xt0 : Int32}  {r : Int32} (hf : f_X8_codeOfAsking_44 S xt0 = some r) : Mj v p l e (rmF 2 33) s m args below meth c 3 (MQ below (Qc v (some (.int r)) S) args s 0 0 (eG v)) 0 S 44 [] [.int xt0] := by
  obtain rfl := Option.some.inj hf
  exact i_iret hC dX8_codeOfAsking_44
set_option maxHeartbeats 4000000 in
set_option maxRecDepth 100000 in
theorem b_X8_codeOfAsking_42 {v : EV} {p : Program} {l : Launch} {e : Env} {s : State} {m : MethodId} {args : Array Value} {below : List Frame} {meth : Method} {c : Code} (hC : Cx v p l e s m args meth c RX8 cX8_codeOfAsking 3 (some .int)) {S : Mem}  {r : Int32} (hf : f_X8_codeOfAsking_42 S = some r) : Mj v p l e (rmF 2 33) s m args below meth c 3 (MQ below (Qc v (some (.int r)) S) args s 0 0 (eG v)) 0 S 42 [] [] := by
  refine i_bipush hC dX8_codeOfAsking_42 lb_m4 ?_
  exact Mj.to (b_X8_codeOfAsking_44 hC  hf) trivial
set_option maxHeartbeats 4000000 in
set_option maxRecDepth 100000 in
theorem b_X8_codeOfAsking_0 {v : EV} {p : Program} {l : Launch} {e : Env} {s : State} {m : MethodId} {args : Array Value} {below : List Frame} {meth : Method} {c : Code} (hC : Cx v p l e s m args meth c RX8 cX8_codeOfAsking 3 (some .int)) {S : Mem} {x1 : Int32}  {r : Int32} (hf : f_X8_codeOfAsking_0 S x1 = some r) : Mj v p l e (rmF 2 33) s m args below meth c 3 (MQ below (Qc v (some (.int r)) S) args s 0 0 (eG v)) 0 S 0 [(0, .ref (eA v (198))), (1, .int x1)] [] := by
  refine i_aload_n hC dX8_codeOfAsking_0 rfl ?_
  refine i_getR (x := pR 0) hC fl_X8_12 (pln rfl) (lay_p198) rfl dX8_codeOfAsking_1 ?_
  refine i_iload_n hC dX8_codeOfAsking_4 rfl ?_
  obtain ⟨r1, hc1, hf⟩ := bd1_of hf
  refine i_callVi hC mv_X8_187 (c_X4_has hC.2.2.2.2.2.2.2.1 (by decide) hc1) (pl_R (by decide)) (lay_R (by decide)) rfl rfl rfl rfl ⟨Nat.le_of_ble_eq_true rfl, Nat.le_of_ble_eq_true rfl⟩ (Nat.le_of_ble_eq_true rfl) dX8_codeOfAsking_5 ?_
  refine i_if_ne hC (tgt := 13) dX8_codeOfAsking_8 (by decide) (fun c2 => ?_) (fun c2 => ?_)
  · replace hf := (if_neg c2).symm.trans hf
    refine i_aload_n hC dX8_codeOfAsking_13 rfl ?_
    refine i_getR (x := pR 0) hC fl_X8_12 (pln rfl) (lay_p198) rfl dX8_codeOfAsking_14 ?_
    refine i_getR hC fl_X8_191 (pl_R (by decide)) (lay_R (by decide)) rfl dX8_codeOfAsking_17 ?_
    refine i_iload_n hC dX8_codeOfAsking_20 rfl ?_
    obtain ⟨k3, hf⟩ := ck_of hf
    refine i_aald hC (pl_AD (by decide)) (lay_AD (by decide)) (by decide) (inb_in k3) dX8_codeOfAsking_21 ?_
    refine i_astore_n hC dX8_codeOfAsking_22 (by decide) ?_
    refine i_aload_n hC dX8_codeOfAsking_23 rfl ?_
    refine i_getI hC fl_X8_195 (pl_D ⟨(by decide), inb_lt k3⟩) (lay_D ⟨(by decide), inb_lt k3⟩) rfl dX8_codeOfAsking_24 ?_
    refine i_if_eq hC (tgt := 42) dX8_codeOfAsking_27 (by decide) (fun c4 => ?_) (fun c4 => ?_)
    · replace hf := (if_pos c4).symm.trans hf
      exact Mj.to (b_X8_codeOfAsking_42 hC  hf) trivial
    · replace hf := (if_neg c4).symm.trans hf
      refine i_aload_n hC dX8_codeOfAsking_30 rfl ?_
      refine i_getI hC fl_X8_201 (pl_D ⟨(by decide), inb_lt k3⟩) (lay_D ⟨(by decide), inb_lt k3⟩) rfl dX8_codeOfAsking_31 ?_
      refine i_iconst hC dX8_codeOfAsking_34 li_2 ?_
      refine i_icmp_eq hC (tgt := 42) dX8_codeOfAsking_35 (by decide) (fun c5 => ?_) (fun c5 => ?_)
      · replace hf := (if_pos c5).symm.trans hf
        exact Mj.to (b_X8_codeOfAsking_42 hC  hf) trivial
      · replace hf := (if_neg c5).symm.trans hf
        refine i_iconst hC dX8_codeOfAsking_38 li_0 ?_
        refine i_goto hC (tgt := 44) dX8_codeOfAsking_39 (by decide) ?_
        exact Mj.to (b_X8_codeOfAsking_44 hC  hf) trivial
  · replace hf := (if_pos c2).symm.trans hf
    refine i_iconst hC dX8_codeOfAsking_11 li_m1 ?_
    obtain rfl := Option.some.inj hf
    exact i_iret hC dX8_codeOfAsking_12
theorem c_X8_codeOfAsking {v : EV} {l : Launch} (hst : Stb v) {S : Mem} {x1 : Int32}  {r : Int32} (hf : g_X8_codeOfAsking S x1 = some r) : Con v l yX8_codeOfAsking cX8_codeOfAsking 3 (some .int) 2 33 [.ref (eA v (198)), .int x1] S (some (.int r)) S := con_of (by decide) hst (Nat.le_of_ble_eq_true rfl) (fun p e s m args below meth c hC => b_X8_codeOfAsking_0 hC  hf)
def f_X8_longer_22 (S : Mem)  : Option (Int32) := some (-4 : Int32)
def f_X8_longer_80 (S : Mem) (xt0 : Int32) : Option (Int32) := some xt0
def f_X8_longer_0 (S : Mem) (x1 : Int32) (x2 : Int32) : Option (Int32) := bd1 (g_X4_has S 0 x1) (fun r1 => (if r1 = 0 then f_X8_longer_22 S else bd1 (g_X4_has S 0 x2) (fun r3 => (if r3 = 0 then f_X8_longer_22 S else ck (inb x1 5) (ck (inb x2 5) (bd1 (g_X2_hasLongerTaleThan S 0 (x1).toNatClampNeg 0 (x2).toNatClampNeg) (fun r7 => (if r7 = 0 then ck (inb x2 5) (ck (inb x1 5) (bd1 (g_X2_hasLongerTaleThan S 0 (x2).toNatClampNeg 0 (x1).toNatClampNeg) (fun r11 => (if r11 = 0 then f_X8_longer_80 S (0 : Int32) else f_X8_longer_80 S (-1 : Int32))))) else some (1 : Int32)))))))))
def g_X8_longer (S : Mem) (x1 : Int32) (x2 : Int32) : Option (Int32) := f_X8_longer_0 S x1 x2
set_option maxHeartbeats 4000000 in
set_option maxRecDepth 100000 in
theorem b_X8_longer_22 {v : EV} {p : Program} {l : Launch} {e : Env} {s : State} {m : MethodId} {args : Array Value} {below : List Frame} {meth : Method} {c : Code} (hC : Cx v p l e s m args meth c RX8 cX8_longer 3 (some .int)) {S : Mem}  {r : Int32} (hf : f_X8_longer_22 S = some r) : Mj v p l e (rmF 2 35) s m args below meth c 3 (MQ below (Qc v (some (.int r)) S) args s 0 0 (eG v)) 0 S 22 [] [] := by
  refine i_bipush hC dX8_longer_22 lb_m4 ?_
  obtain rfl := Option.some.inj hf
  exact i_iret hC dX8_longer_24
set_option maxHeartbeats 4000000 in
set_option maxRecDepth 100000 in
theorem b_X8_longer_80 {v : EV} {p : Program} {l : Launch} {e : Env} {s : State} {m : MethodId} {args : Array Value} {below : List Frame} {meth : Method} {c : Code} (hC : Cx v p l e s m args meth c RX8 cX8_longer 3 (some .int)) {S : Mem} {xt0 : Int32}  {r : Int32} (hf : f_X8_longer_80 S xt0 = some r) : Mj v p l e (rmF 2 35) s m args below meth c 3 (MQ below (Qc v (some (.int r)) S) args s 0 0 (eG v)) 0 S 80 [] [.int xt0] := by
  obtain rfl := Option.some.inj hf
  exact i_iret hC dX8_longer_80
set_option maxHeartbeats 4000000 in
set_option maxRecDepth 100000 in
theorem b_X8_longer_0 {v : EV} {p : Program} {l : Launch} {e : Env} {s : State} {m : MethodId} {args : Array Value} {below : List Frame} {meth : Method} {c : Code} (hC : Cx v p l e s m args meth c RX8 cX8_longer 3 (some .int)) {S : Mem} {x1 : Int32} {x2 : Int32}  {r : Int32} (hf : f_X8_longer_0 S x1 x2 = some r) : Mj v p l e (rmF 2 35) s m args below meth c 3 (MQ below (Qc v (some (.int r)) S) args s 0 0 (eG v)) 0 S 0 [(0, .ref (eA v (198))), (1, .int x1), (2, .int x2)] [] := by
  refine i_aload_n hC dX8_longer_0 rfl ?_
  refine i_getR (x := pR 0) hC fl_X8_12 (pln rfl) (lay_p198) rfl dX8_longer_1 ?_
  refine i_iload_n hC dX8_longer_4 rfl ?_
  obtain ⟨r1, hc1, hf⟩ := bd1_of hf
  refine i_callVi hC mv_X8_187 (c_X4_has hC.2.2.2.2.2.2.2.1 (by decide) hc1) (pl_R (by decide)) (lay_R (by decide)) rfl rfl rfl rfl ⟨Nat.le_of_ble_eq_true rfl, Nat.le_of_ble_eq_true rfl⟩ (Nat.le_of_ble_eq_true rfl) dX8_longer_5 ?_
  refine i_if_eq hC (tgt := 22) dX8_longer_8 (by decide) (fun c2 => ?_) (fun c2 => ?_)
  · replace hf := (if_pos c2).symm.trans hf
    exact Mj.to (b_X8_longer_22 hC  hf) trivial
  · replace hf := (if_neg c2).symm.trans hf
    refine i_aload_n hC dX8_longer_11 rfl ?_
    refine i_getR (x := pR 0) hC fl_X8_12 (pln rfl) (lay_p198) rfl dX8_longer_12 ?_
    refine i_iload_n hC dX8_longer_15 rfl ?_
    obtain ⟨r3, hc3, hf⟩ := bd1_of hf
    refine i_callVi hC mv_X8_187 (c_X4_has hC.2.2.2.2.2.2.2.1 (by decide) hc3) (pl_R (by decide)) (lay_R (by decide)) rfl rfl rfl rfl ⟨Nat.le_of_ble_eq_true rfl, Nat.le_of_ble_eq_true rfl⟩ (Nat.le_of_ble_eq_true rfl) dX8_longer_16 ?_
    refine i_if_ne hC (tgt := 25) dX8_longer_19 (by decide) (fun c4 => ?_) (fun c4 => ?_)
    · replace hf := (if_neg c4).symm.trans hf
      refine i_aload_n hC dX8_longer_25 rfl ?_
      refine i_getR (x := pR 0) hC fl_X8_12 (pln rfl) (lay_p198) rfl dX8_longer_26 ?_
      refine i_getR hC fl_X8_191 (pl_R (by decide)) (lay_R (by decide)) rfl dX8_longer_29 ?_
      refine i_iload_n hC dX8_longer_32 rfl ?_
      obtain ⟨k5, hf⟩ := ck_of hf
      refine i_aald hC (pl_AD (by decide)) (lay_AD (by decide)) (by decide) (inb_in k5) dX8_longer_33 ?_
      refine i_aload_n hC dX8_longer_34 rfl ?_
      refine i_getR (x := pR 0) hC fl_X8_12 (pln rfl) (lay_p198) rfl dX8_longer_35 ?_
      refine i_getR hC fl_X8_191 (pl_R (by decide)) (lay_R (by decide)) rfl dX8_longer_38 ?_
      refine i_iload_n hC dX8_longer_41 rfl ?_
      obtain ⟨k6, hf⟩ := ck_of hf
      refine i_aald hC (pl_AD (by decide)) (lay_AD (by decide)) (by decide) (inb_in k6) dX8_longer_42 ?_
      obtain ⟨r7, hc7, hf⟩ := bd1_of hf
      refine i_callVi hC mv_X8_307 (c_X2_hasLongerTaleThan hC.2.2.2.2.2.2.2.1 ⟨(by decide), inb_lt k5⟩ ⟨(by decide), inb_lt k6⟩ hc7) (pl_D ⟨(by decide), inb_lt k5⟩) (lay_D ⟨(by decide), inb_lt k5⟩) rfl rfl rfl rfl ⟨Nat.le_of_ble_eq_true rfl, Nat.le_of_ble_eq_true rfl⟩ (Nat.le_of_ble_eq_true rfl) dX8_longer_43 ?_
      refine i_if_eq hC (tgt := 51) dX8_longer_46 (by decide) (fun c8 => ?_) (fun c8 => ?_)
      · replace hf := (if_pos c8).symm.trans hf
        refine i_aload_n hC dX8_longer_51 rfl ?_
        refine i_getR (x := pR 0) hC fl_X8_12 (pln rfl) (lay_p198) rfl dX8_longer_52 ?_
        refine i_getR hC fl_X8_191 (pl_R (by decide)) (lay_R (by decide)) rfl dX8_longer_55 ?_
        refine i_iload_n hC dX8_longer_58 rfl ?_
        obtain ⟨k9, hf⟩ := ck_of hf
        refine i_aald hC (pl_AD (by decide)) (lay_AD (by decide)) (by decide) (inb_in k9) dX8_longer_59 ?_
        refine i_aload_n hC dX8_longer_60 rfl ?_
        refine i_getR (x := pR 0) hC fl_X8_12 (pln rfl) (lay_p198) rfl dX8_longer_61 ?_
        refine i_getR hC fl_X8_191 (pl_R (by decide)) (lay_R (by decide)) rfl dX8_longer_64 ?_
        refine i_iload_n hC dX8_longer_67 rfl ?_
        obtain ⟨k10, hf⟩ := ck_of hf
        refine i_aald hC (pl_AD (by decide)) (lay_AD (by decide)) (by decide) (inb_in k10) dX8_longer_68 ?_
        obtain ⟨r11, hc11, hf⟩ := bd1_of hf
        refine i_callVi hC mv_X8_307 (c_X2_hasLongerTaleThan hC.2.2.2.2.2.2.2.1 ⟨(by decide), inb_lt k9⟩ ⟨(by decide), inb_lt k10⟩ hc11) (pl_D ⟨(by decide), inb_lt k9⟩) (lay_D ⟨(by decide), inb_lt k9⟩) rfl rfl rfl rfl ⟨Nat.le_of_ble_eq_true rfl, Nat.le_of_ble_eq_true rfl⟩ (Nat.le_of_ble_eq_true rfl) dX8_longer_69 ?_
        refine i_if_eq hC (tgt := 79) dX8_longer_72 (by decide) (fun c12 => ?_) (fun c12 => ?_)
        · replace hf := (if_pos c12).symm.trans hf
          refine i_iconst hC dX8_longer_79 li_0 ?_
          exact Mj.to (b_X8_longer_80 hC  hf) trivial
        · replace hf := (if_neg c12).symm.trans hf
          refine i_iconst hC dX8_longer_75 li_m1 ?_
          refine i_goto hC (tgt := 80) dX8_longer_76 (by decide) ?_
          exact Mj.to (b_X8_longer_80 hC  hf) trivial
      · replace hf := (if_neg c8).symm.trans hf
        refine i_iconst hC dX8_longer_49 li_1 ?_
        obtain rfl := Option.some.inj hf
        exact i_iret hC dX8_longer_50
    · replace hf := (if_pos c4).symm.trans hf
      exact Mj.to (b_X8_longer_22 hC  hf) trivial
theorem c_X8_longer {v : EV} {l : Launch} (hst : Stb v) {S : Mem} {x1 x2 : Int32}  {r : Int32} (hf : g_X8_longer S x1 x2 = some r) : Con v l yX8_longer cX8_longer 3 (some .int) 2 35 [.ref (eA v (198)), .int x1, .int x2] S (some (.int r)) S := con_of (by decide) hst (Nat.le_of_ble_eq_true rfl) (fun p e s m args below meth c hC => b_X8_longer_0 hC  hf)
def f_X8_alike_22 (S : Mem)  : Option (Int32) := some (-1 : Int32)
def f_X8_alike_0 (S : Mem) (x1 : Int32) (x2 : Int32) : Option (Int32) := bd1 (g_X4_has S 0 x1) (fun r1 => (if r1 = 0 then f_X8_alike_22 S else bd1 (g_X4_has S 0 x2) (fun r3 => (if r3 = 0 then f_X8_alike_22 S else ck (inb x1 5) (ck (inb x2 5) (bd1 (g_X2_countSameLines S 0 (x1).toNatClampNeg 0 (x2).toNatClampNeg) (fun r7 => some r7)))))))
def g_X8_alike (S : Mem) (x1 : Int32) (x2 : Int32) : Option (Int32) := f_X8_alike_0 S x1 x2
set_option maxHeartbeats 4000000 in
set_option maxRecDepth 100000 in
theorem b_X8_alike_22 {v : EV} {p : Program} {l : Launch} {e : Env} {s : State} {m : MethodId} {args : Array Value} {below : List Frame} {meth : Method} {c : Code} (hC : Cx v p l e s m args meth c RX8 cX8_alike 3 (some .int)) {S : Mem}  {r : Int32} (hf : f_X8_alike_22 S = some r) : Mj v p l e (rmF 2 44) s m args below meth c 3 (MQ below (Qc v (some (.int r)) S) args s 0 0 (eG v)) 0 S 22 [] [] := by
  refine i_iconst hC dX8_alike_22 li_m1 ?_
  obtain rfl := Option.some.inj hf
  exact i_iret hC dX8_alike_23
set_option maxHeartbeats 4000000 in
set_option maxRecDepth 100000 in
theorem b_X8_alike_0 {v : EV} {p : Program} {l : Launch} {e : Env} {s : State} {m : MethodId} {args : Array Value} {below : List Frame} {meth : Method} {c : Code} (hC : Cx v p l e s m args meth c RX8 cX8_alike 3 (some .int)) {S : Mem} {x1 : Int32} {x2 : Int32}  {r : Int32} (hf : f_X8_alike_0 S x1 x2 = some r) : Mj v p l e (rmF 2 44) s m args below meth c 3 (MQ below (Qc v (some (.int r)) S) args s 0 0 (eG v)) 0 S 0 [(0, .ref (eA v (198))), (1, .int x1), (2, .int x2)] [] := by
  refine i_aload_n hC dX8_alike_0 rfl ?_
  refine i_getR (x := pR 0) hC fl_X8_12 (pln rfl) (lay_p198) rfl dX8_alike_1 ?_
  refine i_iload_n hC dX8_alike_4 rfl ?_
  obtain ⟨r1, hc1, hf⟩ := bd1_of hf
  refine i_callVi hC mv_X8_187 (c_X4_has hC.2.2.2.2.2.2.2.1 (by decide) hc1) (pl_R (by decide)) (lay_R (by decide)) rfl rfl rfl rfl ⟨Nat.le_of_ble_eq_true rfl, Nat.le_of_ble_eq_true rfl⟩ (Nat.le_of_ble_eq_true rfl) dX8_alike_5 ?_
  refine i_if_eq hC (tgt := 22) dX8_alike_8 (by decide) (fun c2 => ?_) (fun c2 => ?_)
  · replace hf := (if_pos c2).symm.trans hf
    exact Mj.to (b_X8_alike_22 hC  hf) trivial
  · replace hf := (if_neg c2).symm.trans hf
    refine i_aload_n hC dX8_alike_11 rfl ?_
    refine i_getR (x := pR 0) hC fl_X8_12 (pln rfl) (lay_p198) rfl dX8_alike_12 ?_
    refine i_iload_n hC dX8_alike_15 rfl ?_
    obtain ⟨r3, hc3, hf⟩ := bd1_of hf
    refine i_callVi hC mv_X8_187 (c_X4_has hC.2.2.2.2.2.2.2.1 (by decide) hc3) (pl_R (by decide)) (lay_R (by decide)) rfl rfl rfl rfl ⟨Nat.le_of_ble_eq_true rfl, Nat.le_of_ble_eq_true rfl⟩ (Nat.le_of_ble_eq_true rfl) dX8_alike_16 ?_
    refine i_if_ne hC (tgt := 24) dX8_alike_19 (by decide) (fun c4 => ?_) (fun c4 => ?_)
    · replace hf := (if_neg c4).symm.trans hf
      refine i_aload_n hC dX8_alike_24 rfl ?_
      refine i_getR (x := pR 0) hC fl_X8_12 (pln rfl) (lay_p198) rfl dX8_alike_25 ?_
      refine i_getR hC fl_X8_191 (pl_R (by decide)) (lay_R (by decide)) rfl dX8_alike_28 ?_
      refine i_iload_n hC dX8_alike_31 rfl ?_
      obtain ⟨k5, hf⟩ := ck_of hf
      refine i_aald hC (pl_AD (by decide)) (lay_AD (by decide)) (by decide) (inb_in k5) dX8_alike_32 ?_
      refine i_aload_n hC dX8_alike_33 rfl ?_
      refine i_getR (x := pR 0) hC fl_X8_12 (pln rfl) (lay_p198) rfl dX8_alike_34 ?_
      refine i_getR hC fl_X8_191 (pl_R (by decide)) (lay_R (by decide)) rfl dX8_alike_37 ?_
      refine i_iload_n hC dX8_alike_40 rfl ?_
      obtain ⟨k6, hf⟩ := ck_of hf
      refine i_aald hC (pl_AD (by decide)) (lay_AD (by decide)) (by decide) (inb_in k6) dX8_alike_41 ?_
      obtain ⟨r7, hc7, hf⟩ := bd1_of hf
      refine i_callVi hC mv_X8_311 (c_X2_countSameLines hC.2.2.2.2.2.2.2.1 ⟨(by decide), inb_lt k5⟩ ⟨(by decide), inb_lt k6⟩ hc7) (pl_D ⟨(by decide), inb_lt k5⟩) (lay_D ⟨(by decide), inb_lt k5⟩) rfl rfl rfl rfl ⟨Nat.le_of_ble_eq_true rfl, Nat.le_of_ble_eq_true rfl⟩ (Nat.le_of_ble_eq_true rfl) dX8_alike_42 ?_
      obtain rfl := Option.some.inj hf
      exact i_iret hC dX8_alike_45
    · replace hf := (if_pos c4).symm.trans hf
      exact Mj.to (b_X8_alike_22 hC  hf) trivial
theorem c_X8_alike {v : EV} {l : Launch} (hst : Stb v) {S : Mem} {x1 x2 : Int32}  {r : Int32} (hf : g_X8_alike S x1 x2 = some r) : Con v l yX8_alike cX8_alike 3 (some .int) 2 44 [.ref (eA v (198)), .int x1, .int x2] S (some (.int r)) S := con_of (by decide) hst (Nat.le_of_ble_eq_true rfl) (fun p e s m args below meth c hC => b_X8_alike_0 hC  hf)
def f_X8_holders_60 (ih19 : (Int32 × Int32) → Option (Int32)) (S : Mem) (x1 : Int32) (x2 : Int32) (x3 : Int32) (x4 : Int32) : Option (Int32) := ih19 (x3, (x4 + (1 : Int32)))
def f_X8_holders_19_b (ih19 : (Int32 × Int32) → Option (Int32)) (S : Mem) (x1 : Int32) (x2 : Int32) (x3 : Int32) (x4 : Int32) : Option (Int32) := (if (S 0 1) ≤ x4 then some x3 else ck (inb x4 5) (ck (inb x1 5) (bd1 (g_X2_countSameLines S 0 (x4).toNatClampNeg 0 (x1).toNatClampNeg) (fun r6 => (if r6 < x2 then f_X8_holders_60 ih19 S x1 x2 x3 x4 else f_X8_holders_60 ih19 S x1 x2 (x3 + (1 : Int32)) x4)))))
def f_X8_holders_19 (S : Mem) (x1 : Int32) (x2 : Int32) (x3 : Int32) (x4 : Int32) : Option (Int32) := lp (fun ih19 s9 => f_X8_holders_19_b ih19 S x1 x2 s9.1 s9.2) 2000 (x3, x4)
def f_X8_holders_0 (S : Mem) (x1 : Int32) (x2 : Int32) : Option (Int32) := bd1 (g_X4_hasLine S 0 x1 x2) (fun r1 => (if r1 = 0 then some (-1 : Int32) else f_X8_holders_19 S x1 x2 (0 : Int32) (0 : Int32)))
def g_X8_holders (S : Mem) (x1 : Int32) (x2 : Int32) : Option (Int32) := f_X8_holders_0 S x1 x2
set_option maxHeartbeats 4000000 in
set_option maxRecDepth 100000 in
theorem b_X8_holders_60 {v : EV} {p : Program} {l : Launch} {e : Env} {s : State} {m : MethodId} {args : Array Value} {below : List Frame} {meth : Method} {c : Code} (hC : Cx v p l e s m args meth c RX8 cX8_holders 5 (some .int)) {S : Mem} {x1 : Int32} {x2 : Int32} {x3 : Int32} {x4 : Int32}  {r : Int32} {ih19 : (Int32 × Int32) → Option (Int32)} (hih19 : ∀ s9 : (Int32 × Int32), ih19 s9 = some r → Mj v p l e (rmF 3 55) s m args below meth c 5 (MQ below (Qc v (some (.int r)) S) args s 0 0 (eG v)) 0 S 19 [(0, .ref (eA v (198))), (1, .int x1), (2, .int x2), (3, .int (s9.1)), (4, .int (s9.2))] []) (hf : f_X8_holders_60 ih19 S x1 x2 x3 x4 = some r) : Mj v p l e (rmF 3 55) s m args below meth c 5 (MQ below (Qc v (some (.int r)) S) args s 0 0 (eG v)) 0 S 60 [(0, .ref (eA v (198))), (1, .int x1), (2, .int x2), (3, .int x3), (4, .int x4)] [] := by
  refine i_iinc hC dX8_holders_60 rfl li_1 (by decide) ?_
  refine i_goto hC (tgt := 19) dX8_holders_63 (by decide) ?_
  exact Mj.to (hih19 _ hf) ⟨rfl, rfl, rfl, rfl, rfl, trivial⟩
set_option maxHeartbeats 4000000 in
set_option maxRecDepth 100000 in
theorem b_X8_holders_19_b {v : EV} {p : Program} {l : Launch} {e : Env} {s : State} {m : MethodId} {args : Array Value} {below : List Frame} {meth : Method} {c : Code} (hC : Cx v p l e s m args meth c RX8 cX8_holders 5 (some .int)) {S : Mem} {x1 : Int32} {x2 : Int32} {x3 : Int32} {x4 : Int32}  {r : Int32} {ih19 : (Int32 × Int32) → Option (Int32)} (hih19 : ∀ s9 : (Int32 × Int32), ih19 s9 = some r → Mj v p l e (rmF 3 55) s m args below meth c 5 (MQ below (Qc v (some (.int r)) S) args s 0 0 (eG v)) 0 S 19 [(0, .ref (eA v (198))), (1, .int x1), (2, .int x2), (3, .int (s9.1)), (4, .int (s9.2))] []) (hf : f_X8_holders_19_b ih19 S x1 x2 x3 x4 = some r) : Mj v p l e (rmF 3 55) s m args below meth c 5 (MQ below (Qc v (some (.int r)) S) args s 0 0 (eG v)) 0 S 19 [(0, .ref (eA v (198))), (1, .int x1), (2, .int x2), (3, .int x3), (4, .int x4)] [] := by
  refine i_iload hC dX8_holders_19 rfl ?_
  refine i_aload_n hC dX8_holders_21 rfl ?_
  refine i_getR (x := pR 0) hC fl_X8_12 (pln rfl) (lay_p198) rfl dX8_holders_22 ?_
  refine i_getI hC fl_X8_54 (pl_R (by decide)) (lay_R (by decide)) rfl dX8_holders_25 ?_
  refine i_icmp_ge hC (tgt := 66) dX8_holders_28 (by decide) (fun c3 => ?_) (fun c3 => ?_)
  · replace hf := (if_pos c3).symm.trans hf
    refine i_iload_n hC dX8_holders_66 rfl ?_
    obtain rfl := Option.some.inj hf
    exact i_iret hC dX8_holders_67
  · replace hf := (if_neg c3).symm.trans hf
    refine i_aload_n hC dX8_holders_31 rfl ?_
    refine i_getR (x := pR 0) hC fl_X8_12 (pln rfl) (lay_p198) rfl dX8_holders_32 ?_
    refine i_getR hC fl_X8_191 (pl_R (by decide)) (lay_R (by decide)) rfl dX8_holders_35 ?_
    refine i_iload hC dX8_holders_38 rfl ?_
    obtain ⟨k4, hf⟩ := ck_of hf
    refine i_aald hC (pl_AD (by decide)) (lay_AD (by decide)) (by decide) (inb_in k4) dX8_holders_40 ?_
    refine i_aload_n hC dX8_holders_41 rfl ?_
    refine i_getR (x := pR 0) hC fl_X8_12 (pln rfl) (lay_p198) rfl dX8_holders_42 ?_
    refine i_getR hC fl_X8_191 (pl_R (by decide)) (lay_R (by decide)) rfl dX8_holders_45 ?_
    refine i_iload_n hC dX8_holders_48 rfl ?_
    obtain ⟨k5, hf⟩ := ck_of hf
    refine i_aald hC (pl_AD (by decide)) (lay_AD (by decide)) (by decide) (inb_in k5) dX8_holders_49 ?_
    obtain ⟨r6, hc6, hf⟩ := bd1_of hf
    refine i_callVi hC mv_X8_311 (c_X2_countSameLines hC.2.2.2.2.2.2.2.1 ⟨(by decide), inb_lt k4⟩ ⟨(by decide), inb_lt k5⟩ hc6) (pl_D ⟨(by decide), inb_lt k4⟩) (lay_D ⟨(by decide), inb_lt k4⟩) rfl rfl rfl rfl ⟨Nat.le_of_ble_eq_true rfl, Nat.le_of_ble_eq_true rfl⟩ (Nat.le_of_ble_eq_true rfl) dX8_holders_50 ?_
    refine i_iload_n hC dX8_holders_53 rfl ?_
    refine i_icmp_lt hC (tgt := 60) dX8_holders_54 (by decide) (fun c7 => ?_) (fun c7 => ?_)
    · replace hf := (if_pos c7).symm.trans hf
      exact Mj.to (b_X8_holders_60 hC hih19 hf) ⟨rfl, rfl, rfl, rfl, rfl, trivial⟩
    · replace hf := (if_neg c7).symm.trans hf
      refine i_iinc hC dX8_holders_57 rfl li_1 (by decide) ?_
      exact Mj.to (b_X8_holders_60 hC hih19 hf) ⟨rfl, rfl, rfl, rfl, rfl, trivial⟩
theorem b_X8_holders_19 {v : EV} {p : Program} {l : Launch} {e : Env} {s : State} {m : MethodId} {args : Array Value} {below : List Frame} {meth : Method} {c : Code} (hC : Cx v p l e s m args meth c RX8 cX8_holders 5 (some .int)) {S : Mem} {x1 : Int32} {x2 : Int32} {x3 : Int32} {x4 : Int32}  {r : Int32} (hf : f_X8_holders_19 S x1 x2 x3 x4 = some r) : Mj v p l e (rmF 3 55) s m args below meth c 5 (MQ below (Qc v (some (.int r)) S) args s 0 0 (eG v)) 0 S 19 [(0, .ref (eA v (198))), (1, .int x1), (2, .int x2), (3, .int x3), (4, .int x4)] [] :=
  lp_ind (P := fun s9 : (Int32 × Int32) => Mj v p l e (rmF 3 55) s m args below meth c 5 (MQ below (Qc v (some (.int r)) S) args s 0 0 (eG v)) 0 S 19 [(0, .ref (eA v (198))), (1, .int x1), (2, .int x2), (3, .int (s9.1)), (4, .int (s9.2))] []) (fun ih s9 hih hf => b_X8_holders_19_b hC   hih hf) _ _ hf
set_option maxHeartbeats 4000000 in
set_option maxRecDepth 100000 in
theorem b_X8_holders_0 {v : EV} {p : Program} {l : Launch} {e : Env} {s : State} {m : MethodId} {args : Array Value} {below : List Frame} {meth : Method} {c : Code} (hC : Cx v p l e s m args meth c RX8 cX8_holders 5 (some .int)) {S : Mem} {x1 : Int32} {x2 : Int32}  {r : Int32} (hf : f_X8_holders_0 S x1 x2 = some r) : Mj v p l e (rmF 3 55) s m args below meth c 5 (MQ below (Qc v (some (.int r)) S) args s 0 0 (eG v)) 0 S 0 [(0, .ref (eA v (198))), (1, .int x1), (2, .int x2)] [] := by
  refine i_aload_n hC dX8_holders_0 rfl ?_
  refine i_getR (x := pR 0) hC fl_X8_12 (pln rfl) (lay_p198) rfl dX8_holders_1 ?_
  refine i_iload_n hC dX8_holders_4 rfl ?_
  refine i_iload_n hC dX8_holders_5 rfl ?_
  obtain ⟨r1, hc1, hf⟩ := bd1_of hf
  refine i_callVi hC mv_X8_282 (c_X4_hasLine hC.2.2.2.2.2.2.2.1 (by decide) hc1) (pl_R (by decide)) (lay_R (by decide)) rfl rfl rfl rfl ⟨Nat.le_of_ble_eq_true rfl, Nat.le_of_ble_eq_true rfl⟩ (Nat.le_of_ble_eq_true rfl) dX8_holders_6 ?_
  refine i_if_ne hC (tgt := 14) dX8_holders_9 (by decide) (fun c2 => ?_) (fun c2 => ?_)
  · replace hf := (if_neg c2).symm.trans hf
    refine i_iconst hC dX8_holders_14 li_0 ?_
    refine i_istore_n hC dX8_holders_15 (by decide) ?_
    refine i_iconst hC dX8_holders_16 li_0 ?_
    refine i_istore hC dX8_holders_17 (by decide) ?_
    exact Mj.to (b_X8_holders_19 hC  hf) ⟨rfl, rfl, rfl, rfl, rfl, trivial⟩
  · replace hf := (if_pos c2).symm.trans hf
    refine i_iconst hC dX8_holders_12 li_m1 ?_
    obtain rfl := Option.some.inj hf
    exact i_iret hC dX8_holders_13
theorem c_X8_holders {v : EV} {l : Launch} (hst : Stb v) {S : Mem} {x1 x2 : Int32}  {r : Int32} (hf : g_X8_holders S x1 x2 = some r) : Con v l yX8_holders cX8_holders 5 (some .int) 3 55 [.ref (eA v (198)), .int x1, .int x2] S (some (.int r)) S := con_of (by decide) hst (Nat.le_of_ble_eq_true rfl) (fun p e s m args below meth c hC => b_X8_holders_0 hC  hf)
def f_X8_agreed_4_b (ih4 : (Int32 × Int32) → Option (Int32)) (S : Mem) (x1 : Int32) (x2 : Int32) : Option (Int32) := (if (S 0 1) ≤ x2 then some x1 else ck (inb x2 5) (ih4 ((mx x1 (S 0 (33 + 34 * (x2).toNatClampNeg + 6))), (x2 + (1 : Int32)))))
def f_X8_agreed_4 (S : Mem) (x1 : Int32) (x2 : Int32) : Option (Int32) := lp (fun ih4 s9 => f_X8_agreed_4_b ih4 S s9.1 s9.2) 2000 (x1, x2)
def f_X8_agreed_0 (S : Mem)  : Option (Int32) := f_X8_agreed_4 S (0 : Int32) (0 : Int32)
def g_X8_agreed (S : Mem)  : Option (Int32) := f_X8_agreed_0 S
set_option maxHeartbeats 4000000 in
set_option maxRecDepth 100000 in
theorem b_X8_agreed_4_b {v : EV} {p : Program} {l : Launch} {e : Env} {s : State} {m : MethodId} {args : Array Value} {below : List Frame} {meth : Method} {c : Code} (hC : Cx v p l e s m args meth c RX8 cX8_agreed 3 (some .int)) {S : Mem} {x1 : Int32} {x2 : Int32}  {r : Int32} {ih4 : (Int32 × Int32) → Option (Int32)} (hih4 : ∀ s9 : (Int32 × Int32), ih4 s9 = some r → Mj v p l e (rmF 1 21) s m args below meth c 3 (MQ below (Qc v (some (.int r)) S) args s 0 0 (eG v)) 0 S 4 [(0, .ref (eA v (198))), (1, .int (s9.1)), (2, .int (s9.2))] []) (hf : f_X8_agreed_4_b ih4 S x1 x2 = some r) : Mj v p l e (rmF 1 21) s m args below meth c 3 (MQ below (Qc v (some (.int r)) S) args s 0 0 (eG v)) 0 S 4 [(0, .ref (eA v (198))), (1, .int x1), (2, .int x2)] [] := by
  refine i_iload_n hC dX8_agreed_4 rfl ?_
  refine i_aload_n hC dX8_agreed_5 rfl ?_
  refine i_getR (x := pR 0) hC fl_X8_12 (pln rfl) (lay_p198) rfl dX8_agreed_6 ?_
  refine i_getI hC fl_X8_54 (pl_R (by decide)) (lay_R (by decide)) rfl dX8_agreed_9 ?_
  refine i_icmp_ge hC (tgt := 38) dX8_agreed_12 (by decide) (fun c1 => ?_) (fun c1 => ?_)
  · replace hf := (if_pos c1).symm.trans hf
    refine i_iload_n hC dX8_agreed_38 rfl ?_
    obtain rfl := Option.some.inj hf
    exact i_iret hC dX8_agreed_39
  · replace hf := (if_neg c1).symm.trans hf
    refine i_iload_n hC dX8_agreed_15 rfl ?_
    refine i_aload_n hC dX8_agreed_16 rfl ?_
    refine i_getR (x := pR 0) hC fl_X8_12 (pln rfl) (lay_p198) rfl dX8_agreed_17 ?_
    refine i_getR hC fl_X8_191 (pl_R (by decide)) (lay_R (by decide)) rfl dX8_agreed_20 ?_
    refine i_iload_n hC dX8_agreed_23 rfl ?_
    obtain ⟨k2, hf⟩ := ck_of hf
    refine i_aald hC (pl_AD (by decide)) (lay_AD (by decide)) (by decide) (inb_in k2) dX8_agreed_24 ?_
    refine i_getI hC fl_X8_270 (pl_D ⟨(by decide), inb_lt k2⟩) (lay_D ⟨(by decide), inb_lt k2⟩) rfl dX8_agreed_25 ?_
    refine i_mmax hC mw_642 mw_420 mw_96 mw_421 ⟨Nat.le_of_ble_eq_true rfl, Nat.le_of_ble_eq_true rfl⟩ dX8_agreed_28 ?_
    refine i_istore_n hC dX8_agreed_31 (by decide) ?_
    refine i_iinc hC dX8_agreed_32 rfl li_1 (by decide) ?_
    refine i_goto hC (tgt := 4) dX8_agreed_35 (by decide) ?_
    exact Mj.to (hih4 _ hf) ⟨rfl, rfl, rfl, trivial⟩
theorem b_X8_agreed_4 {v : EV} {p : Program} {l : Launch} {e : Env} {s : State} {m : MethodId} {args : Array Value} {below : List Frame} {meth : Method} {c : Code} (hC : Cx v p l e s m args meth c RX8 cX8_agreed 3 (some .int)) {S : Mem} {x1 : Int32} {x2 : Int32}  {r : Int32} (hf : f_X8_agreed_4 S x1 x2 = some r) : Mj v p l e (rmF 1 21) s m args below meth c 3 (MQ below (Qc v (some (.int r)) S) args s 0 0 (eG v)) 0 S 4 [(0, .ref (eA v (198))), (1, .int x1), (2, .int x2)] [] :=
  lp_ind (P := fun s9 : (Int32 × Int32) => Mj v p l e (rmF 1 21) s m args below meth c 3 (MQ below (Qc v (some (.int r)) S) args s 0 0 (eG v)) 0 S 4 [(0, .ref (eA v (198))), (1, .int (s9.1)), (2, .int (s9.2))] []) (fun ih s9 hih hf => b_X8_agreed_4_b hC   hih hf) _ _ hf
set_option maxHeartbeats 4000000 in
set_option maxRecDepth 100000 in
theorem b_X8_agreed_0 {v : EV} {p : Program} {l : Launch} {e : Env} {s : State} {m : MethodId} {args : Array Value} {below : List Frame} {meth : Method} {c : Code} (hC : Cx v p l e s m args meth c RX8 cX8_agreed 3 (some .int)) {S : Mem}  {r : Int32} (hf : f_X8_agreed_0 S = some r) : Mj v p l e (rmF 1 21) s m args below meth c 3 (MQ below (Qc v (some (.int r)) S) args s 0 0 (eG v)) 0 S 0 [(0, .ref (eA v (198)))] [] := by
  refine i_iconst hC dX8_agreed_0 li_0 ?_
  refine i_istore_n hC dX8_agreed_1 (by decide) ?_
  refine i_iconst hC dX8_agreed_2 li_0 ?_
  refine i_istore_n hC dX8_agreed_3 (by decide) ?_
  exact Mj.to (b_X8_agreed_4 hC  hf) ⟨rfl, rfl, rfl, trivial⟩
theorem c_X8_agreed {v : EV} {l : Launch} (hst : Stb v) {S : Mem}  {r : Int32} (hf : g_X8_agreed S = some r) : Con v l yX8_agreed cX8_agreed 3 (some .int) 1 21 [.ref (eA v (198))] S (some (.int r)) S := con_of (by decide) hst (Nat.le_of_ble_eq_true rfl) (fun p e s m args below meth c hC => b_X8_agreed_0 hC  hf)
