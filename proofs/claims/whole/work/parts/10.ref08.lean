def f_X9_driverOf_76 (S : Mem) (xt0 : Int32) : Option (Int32) := some xt0
def f_X9_driverOf_0 (S : Mem) (x1 : Int32) (x2 : Int32) : Option (Int32) := bd1 (g_X9_isDriver S x1) (fun r1 => (if r1 = 0 then some (-1 : Int32) else (if x2 = (8 : Int32) then bd1 (g_X9_reachedBy S x1) (fun r3 => some r3) else if x2 = (9 : Int32) then bd1 (g_X9_of S x1 ((x2 - (9 : Int32)) + (8 : Int32))) (fun r5 => some r5) else if x2 = (10 : Int32) then bd1 (g_X9_of S x1 ((x2 - (9 : Int32)) + (8 : Int32))) (fun r7 => some r7) else bd1 (g_X9_isIn x2 (0 : Int32) (7 : Int32)) (fun r9 => (if r9 = 0 then f_X9_driverOf_76 S (-2 : Int32) else bd1 (g_X9_of S x1 x2) (fun r11 => f_X9_driverOf_76 S r11))))))
def g_X9_driverOf (S : Mem) (x1 : Int32) (x2 : Int32) : Option (Int32) := f_X9_driverOf_0 S x1 x2
set_option maxHeartbeats 4000000 in
set_option maxRecDepth 100000 in
theorem b_X9_driverOf_76 {v : EV} {p : Program} {l : Launch} {e : Env} {s : State} {m : MethodId} {args : Array Value} {below : List Frame} {meth : Method} {c : Code} (hC : Cx v p l e s m args meth c RX9 cX9_driverOf 3 (some .int)) {S : Mem} {xt0 : Int32}  {r : Int32} (hf : f_X9_driverOf_76 S xt0 = some r) : Mj v p l e (rmF 6 121) s m args below meth c 3 (MQ below (Qc v (some (.int r)) S) args s 0 0 (eG v)) 0 S 76 [] [.int xt0] := by
  obtain rfl := Option.some.inj hf
  exact i_iret hC dX9_driverOf_76
set_option maxHeartbeats 4000000 in
set_option maxRecDepth 100000 in
theorem b_X9_driverOf_0 {v : EV} {p : Program} {l : Launch} {e : Env} {s : State} {m : MethodId} {args : Array Value} {below : List Frame} {meth : Method} {c : Code} (hC : Cx v p l e s m args meth c RX9 cX9_driverOf 3 (some .int)) {S : Mem} {x1 : Int32} {x2 : Int32}  {r : Int32} (hf : f_X9_driverOf_0 S x1 x2 = some r) : Mj v p l e (rmF 6 121) s m args below meth c 3 (MQ below (Qc v (some (.int r)) S) args s 0 0 (eG v)) 0 S 0 [(0, .ref (eA v (218))), (1, .int x1), (2, .int x2)] [] := by
  refine i_aload_n hC dX9_driverOf_0 rfl ?_
  refine i_iload_n hC dX9_driverOf_1 rfl ?_
  obtain ⟨r1, hc1, hf⟩ := bd1_of hf
  refine i_callVi hC mv_X9_65 (c_X9_isDriver hC.2.2.2.2.2.2.2.1 hc1) (pln rfl) (lay_p218) rfl rfl rfl rfl ⟨Nat.le_of_ble_eq_true rfl, Nat.le_of_ble_eq_true rfl⟩ (Nat.le_of_ble_eq_true rfl) dX9_driverOf_2 ?_
  refine i_if_ne hC (tgt := 10) dX9_driverOf_5 (by decide) (fun c2 => ?_) (fun c2 => ?_)
  · replace hf := (if_neg c2).symm.trans hf
    refine i_iload_n hC dX9_driverOf_10 rfl ?_
    by_cases c4 : x2 = (8 : Int32)
    · replace hf := (if_pos c4).symm.trans hf
      refine i_tabIn hC (tgt := 36) dX9_driverOf_11 c4 (show ((8 : Int32)).toInt = 8 by decide) (by decide) (by decide) rfl (by decide) ?_
      refine i_aload_n hC dX9_driverOf_36 rfl ?_
      refine i_iload_n hC dX9_driverOf_37 rfl ?_
      obtain ⟨r3, hc3, hf⟩ := bd1_of hf
      refine i_callVi hC mv_X9_261 (c_X9_reachedBy hC.2.2.2.2.2.2.2.1 hc3) (pln rfl) (lay_p218) rfl rfl rfl rfl ⟨Nat.le_of_ble_eq_true rfl, Nat.le_of_ble_eq_true rfl⟩ (Nat.le_of_ble_eq_true rfl) dX9_driverOf_38 ?_
      obtain rfl := Option.some.inj hf
      exact i_iret hC dX9_driverOf_41
    replace hf := (if_neg c4).symm.trans hf
    by_cases c6 : x2 = (9 : Int32)
    · replace hf := (if_pos c6).symm.trans hf
      refine i_tabIn hC (tgt := 42) dX9_driverOf_11 c6 (show ((9 : Int32)).toInt = 9 by decide) (by decide) (by decide) rfl (by decide) ?_
      refine i_aload_n hC dX9_driverOf_42 rfl ?_
      refine i_iload_n hC dX9_driverOf_43 rfl ?_
      refine i_iload_n hC dX9_driverOf_44 rfl ?_
      refine i_bipush hC dX9_driverOf_45 lb_9 ?_
      refine i_isub hC dX9_driverOf_47 ?_
      refine i_bipush hC dX9_driverOf_48 lb_8 ?_
      refine i_iadd hC dX9_driverOf_50 ?_
      obtain ⟨r5, hc5, hf⟩ := bd1_of hf
      refine i_callVi hC mv_X9_69 (c_X9_of hC.2.2.2.2.2.2.2.1 hc5) (pln rfl) (lay_p218) rfl rfl rfl rfl ⟨Nat.le_of_ble_eq_true rfl, Nat.le_of_ble_eq_true rfl⟩ (Nat.le_of_ble_eq_true rfl) dX9_driverOf_51 ?_
      obtain rfl := Option.some.inj hf
      exact i_iret hC dX9_driverOf_54
    replace hf := (if_neg c6).symm.trans hf
    by_cases c8 : x2 = (10 : Int32)
    · replace hf := (if_pos c8).symm.trans hf
      refine i_tabIn hC (tgt := 42) dX9_driverOf_11 c8 (show ((10 : Int32)).toInt = 10 by decide) (by decide) (by decide) rfl (by decide) ?_
      refine i_aload_n hC dX9_driverOf_42 rfl ?_
      refine i_iload_n hC dX9_driverOf_43 rfl ?_
      refine i_iload_n hC dX9_driverOf_44 rfl ?_
      refine i_bipush hC dX9_driverOf_45 lb_9 ?_
      refine i_isub hC dX9_driverOf_47 ?_
      refine i_bipush hC dX9_driverOf_48 lb_8 ?_
      refine i_iadd hC dX9_driverOf_50 ?_
      obtain ⟨r7, hc7, hf⟩ := bd1_of hf
      refine i_callVi hC mv_X9_69 (c_X9_of hC.2.2.2.2.2.2.2.1 hc7) (pln rfl) (lay_p218) rfl rfl rfl rfl ⟨Nat.le_of_ble_eq_true rfl, Nat.le_of_ble_eq_true rfl⟩ (Nat.le_of_ble_eq_true rfl) dX9_driverOf_51 ?_
      obtain rfl := Option.some.inj hf
      exact i_iret hC dX9_driverOf_54
    replace hf := (if_neg c8).symm.trans hf
    refine i_tabOut hC (x := x2) (tgt := 55) dX9_driverOf_11 (by
        have z4 := lv_neT c4 (show ((8 : Int32)).toInt = 8 by decide)
        have z6 := lv_neT c6 (show ((9 : Int32)).toInt = 9 by decide)
        have z8 := lv_neT c8 (show ((10 : Int32)).toInt = 10 by decide)
        omega) (by decide) ?_
    refine i_iload_n hC dX9_driverOf_55 rfl ?_
    refine i_iconst hC dX9_driverOf_56 li_0 ?_
    refine i_bipush hC dX9_driverOf_57 lb_7 ?_
    obtain ⟨r9, hc9, hf⟩ := bd1_of hf
    refine i_callSi hC mv_X9_61 (c_X9_isIn hC.2.2.2.2.2.2.2.1 hc9) rfl rfl rfl ⟨Nat.le_of_ble_eq_true rfl, Nat.le_of_ble_eq_true rfl⟩ (Nat.le_of_ble_eq_true rfl) dX9_driverOf_59 ?_
    refine i_if_eq hC (tgt := 74) dX9_driverOf_62 (by decide) (fun c10 => ?_) (fun c10 => ?_)
    · replace hf := (if_pos c10).symm.trans hf
      refine i_bipush hC dX9_driverOf_74 lb_m2 ?_
      exact Mj.to (b_X9_driverOf_76 hC  hf) trivial
    · replace hf := (if_neg c10).symm.trans hf
      refine i_aload_n hC dX9_driverOf_65 rfl ?_
      refine i_iload_n hC dX9_driverOf_66 rfl ?_
      refine i_iload_n hC dX9_driverOf_67 rfl ?_
      obtain ⟨r11, hc11, hf⟩ := bd1_of hf
      refine i_callVi hC mv_X9_69 (c_X9_of hC.2.2.2.2.2.2.2.1 hc11) (pln rfl) (lay_p218) rfl rfl rfl rfl ⟨Nat.le_of_ble_eq_true rfl, Nat.le_of_ble_eq_true rfl⟩ (Nat.le_of_ble_eq_true rfl) dX9_driverOf_68 ?_
      refine i_goto hC (tgt := 76) dX9_driverOf_71 (by decide) ?_
      exact Mj.to (b_X9_driverOf_76 hC  hf) trivial
  · replace hf := (if_pos c2).symm.trans hf
    refine i_iconst hC dX9_driverOf_8 li_m1 ?_
    obtain rfl := Option.some.inj hf
    exact i_iret hC dX9_driverOf_9
theorem c_X9_driverOf {v : EV} {l : Launch} (hst : Stb v) {S : Mem} {x1 x2 : Int32}  {r : Int32} (hf : g_X9_driverOf S x1 x2 = some r) : Con v l yX9_driverOf cX9_driverOf 3 (some .int) 6 121 [.ref (eA v (218)), .int x1, .int x2] S (some (.int r)) S := con_of (by decide) hst (Nat.le_of_ble_eq_true rfl) (fun p e s m args below meth c hC => b_X9_driverOf_0 hC  hf)
def f_X9_couldLeadAgain_0 (S : Mem) (x1 : Int32) : Option (Int32 × Mem) := bd1 (g_X9_codeOfAsking S x1) (fun r1 => (if r1 = 0 then bd1 (g_X9_copies S 20 (0 : Int32) 22 (0 : Int32)) (fun S3 => bd2 (g_X9_asksNow S3 x1) (fun r4 S4 => bd1 (g_X9_copies S4 22 (0 : Int32) 20 (0 : Int32)) (fun S5 => some (r4, S5)))) else some (r1, S)))
def g_X9_couldLeadAgain (S : Mem) (x1 : Int32) : Option (Int32 × Mem) := f_X9_couldLeadAgain_0 S x1
set_option maxHeartbeats 4000000 in
set_option maxRecDepth 100000 in
theorem b_X9_couldLeadAgain_0 {v : EV} {p : Program} {l : Launch} {e : Env} {s : State} {m : MethodId} {args : Array Value} {below : List Frame} {meth : Method} {c : Code} (hC : Cx v p l e s m args meth c RX9 cX9_couldLeadAgain 4 (some .int)) {S : Mem} {x1 : Int32}  {r : Int32 × Mem} (hf : f_X9_couldLeadAgain_0 S x1 = some r) : Mj v p l e (rmF 7 146) s m args below meth c 4 (MQ below (Qc v (some (.int r.1)) r.2) args s 0 0 (eG v)) 0 S 0 [(0, .ref (eA v (218))), (1, .int x1)] [] := by
  refine i_aload_n hC dX9_couldLeadAgain_0 rfl ?_
  refine i_iload_n hC dX9_couldLeadAgain_1 rfl ?_
  obtain ⟨r1, hc1, hf⟩ := bd1_of hf
  refine i_callVi hC mv_X9_270 (c_X9_codeOfAsking hC.2.2.2.2.2.2.2.1 hc1) (pln rfl) (lay_p218) rfl rfl rfl rfl ⟨Nat.le_of_ble_eq_true rfl, Nat.le_of_ble_eq_true rfl⟩ (Nat.le_of_ble_eq_true rfl) dX9_couldLeadAgain_2 ?_
  refine i_istore_n hC dX9_couldLeadAgain_5 (by decide) ?_
  refine i_iload_n hC dX9_couldLeadAgain_6 rfl ?_
  refine i_if_eq hC (tgt := 12) dX9_couldLeadAgain_7 (by decide) (fun c2 => ?_) (fun c2 => ?_)
  · replace hf := (if_pos c2).symm.trans hf
    refine i_aload_n hC dX9_couldLeadAgain_12 rfl ?_
    refine i_getR hC fl_X9_9 (pln rfl) (lay_p218) rfl dX9_couldLeadAgain_13 ?_
    refine i_iconst hC dX9_couldLeadAgain_16 li_0 ?_
    refine i_aload_n hC dX9_couldLeadAgain_17 rfl ?_
    refine i_getR hC fl_X9_16 (pln rfl) (lay_p218) rfl dX9_couldLeadAgain_18 ?_
    refine i_iconst hC dX9_couldLeadAgain_21 li_0 ?_
    obtain ⟨S3, hc3, hf⟩ := bd1_of hf
    refine i_callSv hC mv_X9_38 (c_X9_copies hC.2.2.2.2.2.2.2.1 (by decide) (by decide) hc3) rfl rfl rfl ⟨Nat.le_of_ble_eq_true rfl, Nat.le_of_ble_eq_true rfl⟩ (Nat.le_of_ble_eq_true rfl) dX9_couldLeadAgain_22 ?_
    refine i_aload_n hC dX9_couldLeadAgain_25 rfl ?_
    refine i_iload_n hC dX9_couldLeadAgain_26 rfl ?_
    obtain ⟨r4, S4, hc4, hf⟩ := bd2_of hf
    refine i_callVi hC mv_X9_125 (c_X9_asksNow hC.2.2.2.2.2.2.2.1 hc4) (pln rfl) (lay_p218) rfl rfl rfl rfl ⟨Nat.le_of_ble_eq_true rfl, Nat.le_of_ble_eq_true rfl⟩ (Nat.le_of_ble_eq_true rfl) dX9_couldLeadAgain_27 ?_
    refine i_istore_n hC dX9_couldLeadAgain_30 (by decide) ?_
    refine i_aload_n hC dX9_couldLeadAgain_31 rfl ?_
    refine i_getR hC fl_X9_16 (pln rfl) (lay_p218) rfl dX9_couldLeadAgain_32 ?_
    refine i_iconst hC dX9_couldLeadAgain_35 li_0 ?_
    refine i_aload_n hC dX9_couldLeadAgain_36 rfl ?_
    refine i_getR hC fl_X9_9 (pln rfl) (lay_p218) rfl dX9_couldLeadAgain_37 ?_
    refine i_iconst hC dX9_couldLeadAgain_40 li_0 ?_
    obtain ⟨S5, hc5, hf⟩ := bd1_of hf
    refine i_callSv hC mv_X9_38 (c_X9_copies hC.2.2.2.2.2.2.2.1 (by decide) (by decide) hc5) rfl rfl rfl ⟨Nat.le_of_ble_eq_true rfl, Nat.le_of_ble_eq_true rfl⟩ (Nat.le_of_ble_eq_true rfl) dX9_couldLeadAgain_41 ?_
    refine i_iload_n hC dX9_couldLeadAgain_44 rfl ?_
    obtain rfl := Option.some.inj hf
    exact i_iret hC dX9_couldLeadAgain_45
  · replace hf := (if_neg c2).symm.trans hf
    refine i_iload_n hC dX9_couldLeadAgain_10 rfl ?_
    obtain rfl := Option.some.inj hf
    exact i_iret hC dX9_couldLeadAgain_11
theorem c_X9_couldLeadAgain {v : EV} {l : Launch} (hst : Stb v) {S : Mem} {x1 : Int32}  {r : Int32 × Mem} (hf : g_X9_couldLeadAgain S x1 = some r) : Con v l yX9_couldLeadAgain cX9_couldLeadAgain 4 (some .int) 7 146 [.ref (eA v (218)), .int x1] S (some (.int r.1)) r.2 := con_of (by decide) hst (Nat.le_of_ble_eq_true rfl) (fun p e s m args below meth c hC => b_X9_couldLeadAgain_0 hC  hf)
def f_X9_asks_47 (S : Mem)  : Option (Int32 × Mem) := some ((-3 : Int32), S)
def f_X9_asks_34 (S : Mem) (x1 : Int32) (xt0 : Int32) : Option (Int32 × Mem) := bd1 (g_X9_of S x1 (1 : Int32)) (fun r7 => bd2 (g_X9_isRefused S xt0 (3 : Int32) r7) (fun r8 S8 => (if r8 = 0 then bd2 (g_X9_asksNow S8 x1) (fun r10 S10 => some (r10, S10)) else f_X9_asks_47 S8)))
def f_X9_asks_0 (S : Mem) (x1 : Int32) : Option (Int32 × Mem) := bd1 (g_X9_isDriver S x1) (fun r1 => (if r1 = 0 then some ((-1 : Int32), S) else bd2 (g_X9_isWashed S x1) (fun r3 S3 => (if r3 = 0 then bd1 (g_X9_of S3 x1 (0 : Int32)) (fun r5 => (if r5 = (2 : Int32) then f_X9_asks_34 S3 x1 (1 : Int32) else f_X9_asks_34 S3 x1 (0 : Int32))) else f_X9_asks_47 S3))))
def g_X9_asks (S : Mem) (x1 : Int32) : Option (Int32 × Mem) := f_X9_asks_0 S x1
set_option maxHeartbeats 4000000 in
set_option maxRecDepth 100000 in
theorem b_X9_asks_47 {v : EV} {p : Program} {l : Launch} {e : Env} {s : State} {m : MethodId} {args : Array Value} {below : List Frame} {meth : Method} {c : Code} (hC : Cx v p l e s m args meth c RX9 cX9_asks 2 (some .int)) {S : Mem}  {r : Int32 × Mem} (hf : f_X9_asks_47 S = some r) : Mj v p l e (rmF 7 146) s m args below meth c 2 (MQ below (Qc v (some (.int r.1)) r.2) args s 0 0 (eG v)) 0 S 47 [] [] := by
  refine i_bipush hC dX9_asks_47 lb_m3 ?_
  obtain rfl := Option.some.inj hf
  exact i_iret hC dX9_asks_49
set_option maxHeartbeats 4000000 in
set_option maxRecDepth 100000 in
theorem b_X9_asks_34 {v : EV} {p : Program} {l : Launch} {e : Env} {s : State} {m : MethodId} {args : Array Value} {below : List Frame} {meth : Method} {c : Code} (hC : Cx v p l e s m args meth c RX9 cX9_asks 2 (some .int)) {S : Mem} {x1 : Int32} {xt0 : Int32}  {r : Int32 × Mem} (hf : f_X9_asks_34 S x1 xt0 = some r) : Mj v p l e (rmF 7 146) s m args below meth c 2 (MQ below (Qc v (some (.int r.1)) r.2) args s 0 0 (eG v)) 0 S 34 [(0, .ref (eA v (218))), (1, .int x1)] [.int xt0, .ref (eA v (218))] := by
  refine i_iconst hC dX9_asks_34 li_3 ?_
  refine i_aload_n hC dX9_asks_35 rfl ?_
  refine i_iload_n hC dX9_asks_36 rfl ?_
  refine i_iconst hC dX9_asks_37 li_1 ?_
  obtain ⟨r7, hc7, hf⟩ := bd1_of hf
  refine i_callVi hC mv_X9_69 (c_X9_of hC.2.2.2.2.2.2.2.1 hc7) (pln rfl) (lay_p218) rfl rfl rfl rfl ⟨Nat.le_of_ble_eq_true rfl, Nat.le_of_ble_eq_true rfl⟩ (Nat.le_of_ble_eq_true rfl) dX9_asks_38 ?_
  obtain ⟨r8, S8, hc8, hf⟩ := bd2_of hf
  refine i_callVi hC mv_X9_88 (c_X9_isRefused hC.2.2.2.2.2.2.2.1 hc8) (pln rfl) (lay_p218) rfl rfl rfl rfl ⟨Nat.le_of_ble_eq_true rfl, Nat.le_of_ble_eq_true rfl⟩ (Nat.le_of_ble_eq_true rfl) dX9_asks_41 ?_
  refine i_if_eq hC (tgt := 50) dX9_asks_44 (by decide) (fun c9 => ?_) (fun c9 => ?_)
  · replace hf := (if_pos c9).symm.trans hf
    refine i_aload_n hC dX9_asks_50 rfl ?_
    refine i_iload_n hC dX9_asks_51 rfl ?_
    obtain ⟨r10, S10, hc10, hf⟩ := bd2_of hf
    refine i_callVi hC mv_X9_125 (c_X9_asksNow hC.2.2.2.2.2.2.2.1 hc10) (pln rfl) (lay_p218) rfl rfl rfl rfl ⟨Nat.le_of_ble_eq_true rfl, Nat.le_of_ble_eq_true rfl⟩ (Nat.le_of_ble_eq_true rfl) dX9_asks_52 ?_
    obtain rfl := Option.some.inj hf
    exact i_iret hC dX9_asks_55
  · replace hf := (if_neg c9).symm.trans hf
    exact Mj.to (b_X9_asks_47 hC  hf) trivial
set_option maxHeartbeats 4000000 in
set_option maxRecDepth 100000 in
theorem b_X9_asks_0 {v : EV} {p : Program} {l : Launch} {e : Env} {s : State} {m : MethodId} {args : Array Value} {below : List Frame} {meth : Method} {c : Code} (hC : Cx v p l e s m args meth c RX9 cX9_asks 2 (some .int)) {S : Mem} {x1 : Int32}  {r : Int32 × Mem} (hf : f_X9_asks_0 S x1 = some r) : Mj v p l e (rmF 7 146) s m args below meth c 2 (MQ below (Qc v (some (.int r.1)) r.2) args s 0 0 (eG v)) 0 S 0 [(0, .ref (eA v (218))), (1, .int x1)] [] := by
  refine i_aload_n hC dX9_asks_0 rfl ?_
  refine i_iload_n hC dX9_asks_1 rfl ?_
  obtain ⟨r1, hc1, hf⟩ := bd1_of hf
  refine i_callVi hC mv_X9_65 (c_X9_isDriver hC.2.2.2.2.2.2.2.1 hc1) (pln rfl) (lay_p218) rfl rfl rfl rfl ⟨Nat.le_of_ble_eq_true rfl, Nat.le_of_ble_eq_true rfl⟩ (Nat.le_of_ble_eq_true rfl) dX9_asks_2 ?_
  refine i_if_ne hC (tgt := 10) dX9_asks_5 (by decide) (fun c2 => ?_) (fun c2 => ?_)
  · replace hf := (if_neg c2).symm.trans hf
    refine i_aload_n hC dX9_asks_10 rfl ?_
    refine i_iload_n hC dX9_asks_11 rfl ?_
    obtain ⟨r3, S3, hc3, hf⟩ := bd2_of hf
    refine i_callVi hC mv_X9_122 (c_X9_isWashed hC.2.2.2.2.2.2.2.1 hc3) (pln rfl) (lay_p218) rfl rfl rfl rfl ⟨Nat.le_of_ble_eq_true rfl, Nat.le_of_ble_eq_true rfl⟩ (Nat.le_of_ble_eq_true rfl) dX9_asks_12 ?_
    refine i_if_ne hC (tgt := 47) dX9_asks_15 (by decide) (fun c4 => ?_) (fun c4 => ?_)
    · replace hf := (if_neg c4).symm.trans hf
      exact Mj.to (b_X9_asks_47 hC  hf) trivial
    · replace hf := (if_pos c4).symm.trans hf
      refine i_aload_n hC dX9_asks_18 rfl ?_
      refine i_aload_n hC dX9_asks_19 rfl ?_
      refine i_iload_n hC dX9_asks_20 rfl ?_
      refine i_iconst hC dX9_asks_21 li_0 ?_
      obtain ⟨r5, hc5, hf⟩ := bd1_of hf
      refine i_callVi hC mv_X9_69 (c_X9_of hC.2.2.2.2.2.2.2.1 hc5) (pln rfl) (lay_p218) rfl rfl rfl rfl ⟨Nat.le_of_ble_eq_true rfl, Nat.le_of_ble_eq_true rfl⟩ (Nat.le_of_ble_eq_true rfl) dX9_asks_22 ?_
      refine i_iconst hC dX9_asks_25 li_2 ?_
      refine i_icmp_ne hC (tgt := 33) dX9_asks_26 (by decide) (fun c6 => ?_) (fun c6 => ?_)
      · replace hf := (if_neg c6).symm.trans hf
        refine i_iconst hC dX9_asks_33 li_0 ?_
        exact Mj.to (b_X9_asks_34 hC  hf) ⟨rfl, rfl, trivial⟩
      · replace hf := (if_pos c6).symm.trans hf
        refine i_iconst hC dX9_asks_29 li_1 ?_
        refine i_goto hC (tgt := 34) dX9_asks_30 (by decide) ?_
        exact Mj.to (b_X9_asks_34 hC  hf) ⟨rfl, rfl, trivial⟩
  · replace hf := (if_pos c2).symm.trans hf
    refine i_iconst hC dX9_asks_8 li_m1 ?_
    obtain rfl := Option.some.inj hf
    exact i_iret hC dX9_asks_9
theorem c_X9_asks {v : EV} {l : Launch} (hst : Stb v) {S : Mem} {x1 : Int32}  {r : Int32 × Mem} (hf : g_X9_asks S x1 = some r) : Con v l yX9_asks cX9_asks 2 (some .int) 7 146 [.ref (eA v (218)), .int x1] S (some (.int r.1)) r.2 := con_of (by decide) hst (Nat.le_of_ble_eq_true rfl) (fun p e s m args below meth c hC => b_X9_asks_0 hC  hf)
def f_X9_send_0 (S : Mem) (x1 : Int32) : Option (Int32 × Mem) := bd1 (g_X9_keeps S) (fun S1 => bd2 (g_X9_sends S1 x1) (fun r2 S2 => bd2 (g_X9_ends S2 r2) (fun r3 S3 => some (r3, S3))))
def g_X9_send (S : Mem) (x1 : Int32) : Option (Int32 × Mem) := f_X9_send_0 S x1
set_option maxHeartbeats 4000000 in
set_option maxRecDepth 100000 in
theorem b_X9_send_0 {v : EV} {p : Program} {l : Launch} {e : Env} {s : State} {m : MethodId} {args : Array Value} {below : List Frame} {meth : Method} {c : Code} (hC : Cx v p l e s m args meth c RX9 cX9_send 2 (some .int)) {S : Mem} {x1 : Int32}  {r : Int32 × Mem} (hf : f_X9_send_0 S x1 = some r) : Mj v p l e (rmF 7 148) s m args below meth c 2 (MQ below (Qc v (some (.int r.1)) r.2) args s 0 0 (eG v)) 0 S 0 [(0, .ref (eA v (218))), (1, .int x1)] [] := by
  refine i_aload_n hC dX9_send_0 rfl ?_
  obtain ⟨S1, hc1, hf⟩ := bd1_of hf
  refine i_callVv hC mv_X9_96 (c_X9_keeps hC.2.2.2.2.2.2.2.1 hc1) (pln rfl) (lay_p218) rfl rfl rfl rfl ⟨Nat.le_of_ble_eq_true rfl, Nat.le_of_ble_eq_true rfl⟩ (Nat.le_of_ble_eq_true rfl) dX9_send_1 ?_
  refine i_aload_n hC dX9_send_4 rfl ?_
  refine i_aload_n hC dX9_send_5 rfl ?_
  refine i_iload_n hC dX9_send_6 rfl ?_
  obtain ⟨r2, S2, hc2, hf⟩ := bd2_of hf
  refine i_callVi hC mv_X9_146 (c_X9_sends hC.2.2.2.2.2.2.2.1 hc2) (pln rfl) (lay_p218) rfl rfl rfl rfl ⟨Nat.le_of_ble_eq_true rfl, Nat.le_of_ble_eq_true rfl⟩ (Nat.le_of_ble_eq_true rfl) dX9_send_7 ?_
  obtain ⟨r3, S3, hc3, hf⟩ := bd2_of hf
  refine i_callVi hC mv_X9_102 (c_X9_ends hC.2.2.2.2.2.2.2.1 hc3) (pln rfl) (lay_p218) rfl rfl rfl rfl ⟨Nat.le_of_ble_eq_true rfl, Nat.le_of_ble_eq_true rfl⟩ (Nat.le_of_ble_eq_true rfl) dX9_send_10 ?_
  obtain rfl := Option.some.inj hf
  exact i_iret hC dX9_send_13
theorem c_X9_send {v : EV} {l : Launch} (hst : Stb v) {S : Mem} {x1 : Int32}  {r : Int32 × Mem} (hf : g_X9_send S x1 = some r) : Con v l yX9_send cX9_send 2 (some .int) 7 148 [.ref (eA v (218)), .int x1] S (some (.int r.1)) r.2 := con_of (by decide) hst (Nat.le_of_ble_eq_true rfl) (fun p e s m args below meth c hC => b_X9_send_0 hC  hf)
def f_X9_beatGoes_65 (ih2 : (Mem × Int32) → Option (Mem)) (S : Mem) (x1 : Int32) : Option (Mem) := ih2 (S, (x1 + (1 : Int32)))
def f_X9_beatGoes_55 (ih2 : (Mem × Int32) → Option (Mem)) (S : Mem) (x1 : Int32) (xt0 : Int32) (xt1 : Int32) (xt2 : Int32) : Option (Mem) := ck (inb xt2 203) (f_X9_beatGoes_65 ih2 (up S 20 ((xt2).toNatClampNeg) (xt1 + xt0)) x1)
def f_X9_beatGoes_2_b (ih2 : (Mem × Int32) → Option (Mem)) (S : Mem) (x1 : Int32) : Option (Mem) := (if (S 20 1) ≤ x1 then some (up S 20 0 ((S 20 0) + (1 : Int32))) else bd1 (g_X9_isAboard S x1) (fun r2 => (if r2 = 0 then f_X9_beatGoes_65 ih2 S x1 else bd1 (g_X9_of S x1 (0 : Int32)) (fun r4 => (if r4 = (2 : Int32) then bd2 (g_X9_sendsNow S x1) (fun r7 S7 => (if 0 ≤ r7 then f_X9_beatGoes_55 ih2 S7 x1 (0 : Int32) (S7 20 0) (0 : Int32) else f_X9_beatGoes_55 ih2 S7 x1 r7 (S7 20 0) (0 : Int32))) else bd1 (g_X9_waits S x1) (fun S6 => f_X9_beatGoes_65 ih2 S6 x1))))))
def f_X9_beatGoes_2 (S : Mem) (x1 : Int32) : Option (Mem) := lp (fun ih2 s9 => f_X9_beatGoes_2_b ih2 s9.1 s9.2) 2000 (S, x1)
def f_X9_beatGoes_0 (S : Mem)  : Option (Mem) := f_X9_beatGoes_2 S (0 : Int32)
def g_X9_beatGoes (S : Mem)  : Option (Mem) := f_X9_beatGoes_0 S
set_option maxHeartbeats 4000000 in
set_option maxRecDepth 100000 in
theorem b_X9_beatGoes_65 {v : EV} {p : Program} {l : Launch} {e : Env} {s : State} {m : MethodId} {args : Array Value} {below : List Frame} {meth : Method} {c : Code} (hC : Cx v p l e s m args meth c RX9 cX9_beatGoes 3 none) {S : Mem} {x1 : Int32}  {r : Mem} {ih2 : (Mem × Int32) → Option (Mem)} (hih2 : ∀ s9 : (Mem × Int32), ih2 s9 = some r → Mj v p l e (rmF 8 168) s m args below meth c 3 (MQ below (Qc v (none) r) args s 0 0 (eG v)) 0 s9.1 2 [(0, .ref (eA v (218))), (1, .int (s9.2))] []) (hf : f_X9_beatGoes_65 ih2 S x1 = some r) : Mj v p l e (rmF 8 168) s m args below meth c 3 (MQ below (Qc v (none) r) args s 0 0 (eG v)) 0 S 65 [(0, .ref (eA v (218))), (1, .int x1)] [] := by
  refine i_iinc hC dX9_beatGoes_65 rfl li_1 (by decide) ?_
  refine i_goto hC (tgt := 2) dX9_beatGoes_68 (by decide) ?_
  exact Mj.to (hih2 _ hf) ⟨rfl, rfl, trivial⟩
set_option maxHeartbeats 4000000 in
set_option maxRecDepth 100000 in
theorem b_X9_beatGoes_55 {v : EV} {p : Program} {l : Launch} {e : Env} {s : State} {m : MethodId} {args : Array Value} {below : List Frame} {meth : Method} {c : Code} (hC : Cx v p l e s m args meth c RX9 cX9_beatGoes 3 none) {S : Mem} {x1 : Int32} {xt0 : Int32} {xt1 : Int32} {xt2 : Int32}  {r : Mem} {ih2 : (Mem × Int32) → Option (Mem)} (hih2 : ∀ s9 : (Mem × Int32), ih2 s9 = some r → Mj v p l e (rmF 8 168) s m args below meth c 3 (MQ below (Qc v (none) r) args s 0 0 (eG v)) 0 s9.1 2 [(0, .ref (eA v (218))), (1, .int (s9.2))] []) (hf : f_X9_beatGoes_55 ih2 S x1 xt0 xt1 xt2 = some r) : Mj v p l e (rmF 8 168) s m args below meth c 3 (MQ below (Qc v (none) r) args s 0 0 (eG v)) 0 S 55 [(0, .ref (eA v (218))), (1, .int x1)] [.int xt0, .int xt1, .int xt2, .ref (eA v (219))] := by
  refine i_iadd hC dX9_beatGoes_55 ?_
  obtain ⟨k9, hf⟩ := ck_of hf
  refine i_iast hC (j0 := ((xt2).toNatClampNeg)) (pln rfl) (lay_p219) (bk_l ⟨rfl, rfl, rfl, rfl⟩) (inb_in k9) (Nat.zero_add _) dX9_beatGoes_56 ?_
  refine i_goto hC (tgt := 65) dX9_beatGoes_57 (by decide) ?_
  exact Mj.to (b_X9_beatGoes_65 hC hih2 hf) ⟨rfl, rfl, trivial⟩
set_option maxHeartbeats 4000000 in
set_option maxRecDepth 100000 in
theorem b_X9_beatGoes_2_b {v : EV} {p : Program} {l : Launch} {e : Env} {s : State} {m : MethodId} {args : Array Value} {below : List Frame} {meth : Method} {c : Code} (hC : Cx v p l e s m args meth c RX9 cX9_beatGoes 3 none) {S : Mem} {x1 : Int32}  {r : Mem} {ih2 : (Mem × Int32) → Option (Mem)} (hih2 : ∀ s9 : (Mem × Int32), ih2 s9 = some r → Mj v p l e (rmF 8 168) s m args below meth c 3 (MQ below (Qc v (none) r) args s 0 0 (eG v)) 0 s9.1 2 [(0, .ref (eA v (218))), (1, .int (s9.2))] []) (hf : f_X9_beatGoes_2_b ih2 S x1 = some r) : Mj v p l e (rmF 8 168) s m args below meth c 3 (MQ below (Qc v (none) r) args s 0 0 (eG v)) 0 S 2 [(0, .ref (eA v (218))), (1, .int x1)] [] := by
  refine i_iload_n hC dX9_beatGoes_2 rfl ?_
  refine i_aload_n hC dX9_beatGoes_3 rfl ?_
  refine i_getR hC fl_X9_9 (pln rfl) (lay_p218) rfl dX9_beatGoes_4 ?_
  refine i_iconst hC dX9_beatGoes_7 li_1 ?_
  refine i_iald hC (j0 := 1) (pln rfl) (lay_p219) (inb_in (by decide)) (by decide) dX9_beatGoes_8 ?_
  refine i_icmp_ge hC (tgt := 71) dX9_beatGoes_9 (by decide) (fun c1 => ?_) (fun c1 => ?_)
  · replace hf := (if_pos c1).symm.trans hf
    refine i_aload_n hC dX9_beatGoes_71 rfl ?_
    refine i_getR hC fl_X9_9 (pln rfl) (lay_p218) rfl dX9_beatGoes_72 ?_
    refine i_iconst hC dX9_beatGoes_75 li_0 ?_
    refine i_dup2 hC dX9_beatGoes_76 rfl rfl ?_
    refine i_iald hC (j0 := 0) (pln rfl) (lay_p219) (inb_in (by decide)) (by decide) dX9_beatGoes_77 ?_
    refine i_iconst hC dX9_beatGoes_78 li_1 ?_
    refine i_iadd hC dX9_beatGoes_79 ?_
    refine i_iast hC (j0 := 0) (pln rfl) (lay_p219) (bk_l ⟨rfl, rfl, rfl, rfl⟩) (inb_in (by decide)) (by decide) dX9_beatGoes_80 ?_
    obtain rfl := Option.some.inj hf
    exact i_vret hC dX9_beatGoes_81
  · replace hf := (if_neg c1).symm.trans hf
    refine i_aload_n hC dX9_beatGoes_12 rfl ?_
    refine i_iload_n hC dX9_beatGoes_13 rfl ?_
    obtain ⟨r2, hc2, hf⟩ := bd1_of hf
    refine i_callVi hC mv_X9_78 (c_X9_isAboard hC.2.2.2.2.2.2.2.1 hc2) (pln rfl) (lay_p218) rfl rfl rfl rfl ⟨Nat.le_of_ble_eq_true rfl, Nat.le_of_ble_eq_true rfl⟩ (Nat.le_of_ble_eq_true rfl) dX9_beatGoes_14 ?_
    refine i_if_ne hC (tgt := 23) dX9_beatGoes_17 (by decide) (fun c3 => ?_) (fun c3 => ?_)
    · replace hf := (if_neg c3).symm.trans hf
      refine i_aload_n hC dX9_beatGoes_23 rfl ?_
      refine i_iload_n hC dX9_beatGoes_24 rfl ?_
      refine i_iconst hC dX9_beatGoes_25 li_0 ?_
      obtain ⟨r4, hc4, hf⟩ := bd1_of hf
      refine i_callVi hC mv_X9_69 (c_X9_of hC.2.2.2.2.2.2.2.1 hc4) (pln rfl) (lay_p218) rfl rfl rfl rfl ⟨Nat.le_of_ble_eq_true rfl, Nat.le_of_ble_eq_true rfl⟩ (Nat.le_of_ble_eq_true rfl) dX9_beatGoes_26 ?_
      refine i_iconst hC dX9_beatGoes_29 li_2 ?_
      refine i_icmp_ne hC (tgt := 60) dX9_beatGoes_30 (by decide) (fun c5 => ?_) (fun c5 => ?_)
      · replace hf := (if_neg c5).symm.trans hf
        refine i_aload_n hC dX9_beatGoes_60 rfl ?_
        refine i_iload_n hC dX9_beatGoes_61 rfl ?_
        obtain ⟨S6, hc6, hf⟩ := bd1_of hf
        refine i_callVv hC mv_X9_172 (c_X9_waits hC.2.2.2.2.2.2.2.1 hc6) (pln rfl) (lay_p218) rfl rfl rfl rfl ⟨Nat.le_of_ble_eq_true rfl, Nat.le_of_ble_eq_true rfl⟩ (Nat.le_of_ble_eq_true rfl) dX9_beatGoes_62 ?_
        exact Mj.to (b_X9_beatGoes_65 hC hih2 hf) ⟨rfl, rfl, trivial⟩
      · replace hf := (if_pos c5).symm.trans hf
        refine i_aload_n hC dX9_beatGoes_33 rfl ?_
        refine i_iload_n hC dX9_beatGoes_34 rfl ?_
        obtain ⟨r7, S7, hc7, hf⟩ := bd2_of hf
        refine i_callVi hC mv_X9_143 (c_X9_sendsNow hC.2.2.2.2.2.2.2.1 hc7) (pln rfl) (lay_p218) rfl rfl rfl rfl ⟨Nat.le_of_ble_eq_true rfl, Nat.le_of_ble_eq_true rfl⟩ (Nat.le_of_ble_eq_true rfl) dX9_beatGoes_35 ?_
        refine i_istore_n hC dX9_beatGoes_38 (by decide) ?_
        refine i_aload_n hC dX9_beatGoes_39 rfl ?_
        refine i_getR hC fl_X9_9 (pln rfl) (lay_p218) rfl dX9_beatGoes_40 ?_
        refine i_iconst hC dX9_beatGoes_43 li_0 ?_
        refine i_dup2 hC dX9_beatGoes_44 rfl rfl ?_
        refine i_iald hC (j0 := 0) (pln rfl) (lay_p219) (inb_in (by decide)) (by decide) dX9_beatGoes_45 ?_
        refine i_iload_n hC dX9_beatGoes_46 rfl ?_
        refine i_if_ge hC (tgt := 54) dX9_beatGoes_47 (by decide) (fun c8 => ?_) (fun c8 => ?_)
        · replace hf := (if_pos c8).symm.trans hf
          refine i_iconst hC dX9_beatGoes_54 li_0 ?_
          exact Mj.to (b_X9_beatGoes_55 hC hih2 hf) ⟨rfl, rfl, trivial⟩
        · replace hf := (if_neg c8).symm.trans hf
          refine i_iload_n hC dX9_beatGoes_50 rfl ?_
          refine i_goto hC (tgt := 55) dX9_beatGoes_51 (by decide) ?_
          exact Mj.to (b_X9_beatGoes_55 hC hih2 hf) ⟨rfl, rfl, trivial⟩
    · replace hf := (if_pos c3).symm.trans hf
      refine i_goto hC (tgt := 65) dX9_beatGoes_20 (by decide) ?_
      exact Mj.to (b_X9_beatGoes_65 hC hih2 hf) ⟨rfl, rfl, trivial⟩
theorem b_X9_beatGoes_2 {v : EV} {p : Program} {l : Launch} {e : Env} {s : State} {m : MethodId} {args : Array Value} {below : List Frame} {meth : Method} {c : Code} (hC : Cx v p l e s m args meth c RX9 cX9_beatGoes 3 none) {S : Mem} {x1 : Int32}  {r : Mem} (hf : f_X9_beatGoes_2 S x1 = some r) : Mj v p l e (rmF 8 168) s m args below meth c 3 (MQ below (Qc v (none) r) args s 0 0 (eG v)) 0 S 2 [(0, .ref (eA v (218))), (1, .int x1)] [] :=
  lp_ind (P := fun s9 : (Mem × Int32) => Mj v p l e (rmF 8 168) s m args below meth c 3 (MQ below (Qc v (none) r) args s 0 0 (eG v)) 0 s9.1 2 [(0, .ref (eA v (218))), (1, .int (s9.2))] []) (fun ih s9 hih hf => b_X9_beatGoes_2_b hC   hih hf) _ _ hf
set_option maxHeartbeats 4000000 in
set_option maxRecDepth 100000 in
theorem b_X9_beatGoes_0 {v : EV} {p : Program} {l : Launch} {e : Env} {s : State} {m : MethodId} {args : Array Value} {below : List Frame} {meth : Method} {c : Code} (hC : Cx v p l e s m args meth c RX9 cX9_beatGoes 3 none) {S : Mem}  {r : Mem} (hf : f_X9_beatGoes_0 S = some r) : Mj v p l e (rmF 8 168) s m args below meth c 3 (MQ below (Qc v (none) r) args s 0 0 (eG v)) 0 S 0 [(0, .ref (eA v (218)))] [] := by
  refine i_iconst hC dX9_beatGoes_0 li_0 ?_
  refine i_istore_n hC dX9_beatGoes_1 (by decide) ?_
  exact Mj.to (b_X9_beatGoes_2 hC  hf) ⟨rfl, rfl, trivial⟩
theorem c_X9_beatGoes {v : EV} {l : Launch} (hst : Stb v) {S : Mem}  {r : Mem} (hf : g_X9_beatGoes S = some r) : Con v l yX9_beatGoes cX9_beatGoes 3 none 8 168 [.ref (eA v (218))] S (none) r := con_of (by decide) hst (Nat.le_of_ble_eq_true rfl) (fun p e s m args below meth c hC => b_X9_beatGoes_0 hC  hf)
def f_X9_quietBeats_90 (S : Mem) (xt0 : Int32) : Option (Int32 × Mem) := some (xt0, S)
def f_X9_quietBeats_66 (S : Mem) (x1 : Int32) (xt0 : Int32) : Option (Int32 × Mem) := bd1 (g_X9_copies S 22 (0 : Int32) 20 (0 : Int32)) (fun S4 => (if xt0 = 0 then f_X9_quietBeats_90 S4 (-4 : Int32) else f_X9_quietBeats_90 S4 x1))
def f_X9_quietBeats_46 (S : Mem) (x1 : Int32) : Option (Int32 × Mem) := (if (S 20 2) = (S 22 2) then f_X9_quietBeats_66 S x1 (0 : Int32) else f_X9_quietBeats_66 S x1 (1 : Int32))
def f_X9_quietBeats_15_b (ih15 : (Mem × Int32) → Option (Int32 × Mem)) (S : Mem) (x1 : Int32) : Option (Int32 × Mem) := (if (9 : Int32) ≤ x1 then f_X9_quietBeats_46 S x1 else (if (S 20 2) = (S 22 2) then bd1 (g_X9_beatGoes S) (fun S7 => ih15 (S7, (x1 + (1 : Int32)))) else f_X9_quietBeats_46 S x1))
def f_X9_quietBeats_15 (S : Mem) (x1 : Int32) : Option (Int32 × Mem) := lp (fun ih15 s9 => f_X9_quietBeats_15_b ih15 s9.1 s9.2) 2000 (S, x1)
def f_X9_quietBeats_0 (S : Mem)  : Option (Int32 × Mem) := bd1 (g_X9_copies S 20 (0 : Int32) 22 (0 : Int32)) (fun S1 => f_X9_quietBeats_15 S1 (0 : Int32))
def g_X9_quietBeats (S : Mem)  : Option (Int32 × Mem) := f_X9_quietBeats_0 S
set_option maxHeartbeats 4000000 in
set_option maxRecDepth 100000 in
theorem b_X9_quietBeats_90 {v : EV} {p : Program} {l : Launch} {e : Env} {s : State} {m : MethodId} {args : Array Value} {below : List Frame} {meth : Method} {c : Code} (hC : Cx v p l e s m args meth c RX9 cX9_quietBeats 3 (some .int)) {S : Mem} {xt0 : Int32}  {r : Int32 × Mem} (hf : f_X9_quietBeats_90 S xt0 = some r) : Mj v p l e (rmF 9 190) s m args below meth c 3 (MQ below (Qc v (some (.int r.1)) r.2) args s 0 0 (eG v)) 0 S 90 [] [.int xt0] := by
  obtain rfl := Option.some.inj hf
  exact i_iret hC dX9_quietBeats_90
set_option maxHeartbeats 4000000 in
set_option maxRecDepth 100000 in
theorem b_X9_quietBeats_66 {v : EV} {p : Program} {l : Launch} {e : Env} {s : State} {m : MethodId} {args : Array Value} {below : List Frame} {meth : Method} {c : Code} (hC : Cx v p l e s m args meth c RX9 cX9_quietBeats 3 (some .int)) {S : Mem} {x1 : Int32} {xt0 : Int32}  {r : Int32 × Mem} (hf : f_X9_quietBeats_66 S x1 xt0 = some r) : Mj v p l e (rmF 9 190) s m args below meth c 3 (MQ below (Qc v (some (.int r.1)) r.2) args s 0 0 (eG v)) 0 S 66 [(0, .ref (eA v (218))), (1, .int x1)] [.int xt0] := by
  refine i_istore_n hC dX9_quietBeats_66 (by decide) ?_
  refine i_aload_n hC dX9_quietBeats_67 rfl ?_
  refine i_getR hC fl_X9_16 (pln rfl) (lay_p218) rfl dX9_quietBeats_68 ?_
  refine i_iconst hC dX9_quietBeats_71 li_0 ?_
  refine i_aload_n hC dX9_quietBeats_72 rfl ?_
  refine i_getR hC fl_X9_9 (pln rfl) (lay_p218) rfl dX9_quietBeats_73 ?_
  refine i_iconst hC dX9_quietBeats_76 li_0 ?_
  obtain ⟨S4, hc4, hf⟩ := bd1_of hf
  refine i_callSv hC mv_X9_38 (c_X9_copies hC.2.2.2.2.2.2.2.1 (by decide) (by decide) hc4) rfl rfl rfl ⟨Nat.le_of_ble_eq_true rfl, Nat.le_of_ble_eq_true rfl⟩ (Nat.le_of_ble_eq_true rfl) dX9_quietBeats_77 ?_
  refine i_iload_n hC dX9_quietBeats_80 rfl ?_
  refine i_if_eq hC (tgt := 88) dX9_quietBeats_81 (by decide) (fun c5 => ?_) (fun c5 => ?_)
  · replace hf := (if_pos c5).symm.trans hf
    refine i_bipush hC dX9_quietBeats_88 lb_m4 ?_
    exact Mj.to (b_X9_quietBeats_90 hC  hf) trivial
  · replace hf := (if_neg c5).symm.trans hf
    refine i_iload_n hC dX9_quietBeats_84 rfl ?_
    refine i_goto hC (tgt := 90) dX9_quietBeats_85 (by decide) ?_
    exact Mj.to (b_X9_quietBeats_90 hC  hf) trivial
set_option maxHeartbeats 4000000 in
set_option maxRecDepth 100000 in
theorem b_X9_quietBeats_46 {v : EV} {p : Program} {l : Launch} {e : Env} {s : State} {m : MethodId} {args : Array Value} {below : List Frame} {meth : Method} {c : Code} (hC : Cx v p l e s m args meth c RX9 cX9_quietBeats 3 (some .int)) {S : Mem} {x1 : Int32}  {r : Int32 × Mem} (hf : f_X9_quietBeats_46 S x1 = some r) : Mj v p l e (rmF 9 190) s m args below meth c 3 (MQ below (Qc v (some (.int r.1)) r.2) args s 0 0 (eG v)) 0 S 46 [(0, .ref (eA v (218))), (1, .int x1)] [] := by
  refine i_aload_n hC dX9_quietBeats_46 rfl ?_
  refine i_getR hC fl_X9_9 (pln rfl) (lay_p218) rfl dX9_quietBeats_47 ?_
  refine i_iconst hC dX9_quietBeats_50 li_2 ?_
  refine i_iald hC (j0 := 2) (pln rfl) (lay_p219) (inb_in (by decide)) (by decide) dX9_quietBeats_51 ?_
  refine i_aload_n hC dX9_quietBeats_52 rfl ?_
  refine i_getR hC fl_X9_16 (pln rfl) (lay_p218) rfl dX9_quietBeats_53 ?_
  refine i_iconst hC dX9_quietBeats_56 li_2 ?_
  refine i_iald hC (j0 := 2) (pln rfl) (lay_p221) (inb_in (by decide)) (by decide) dX9_quietBeats_57 ?_
  refine i_icmp_eq hC (tgt := 65) dX9_quietBeats_58 (by decide) (fun c3 => ?_) (fun c3 => ?_)
  · replace hf := (if_pos c3).symm.trans hf
    refine i_iconst hC dX9_quietBeats_65 li_0 ?_
    exact Mj.to (b_X9_quietBeats_66 hC  hf) ⟨rfl, rfl, trivial⟩
  · replace hf := (if_neg c3).symm.trans hf
    refine i_iconst hC dX9_quietBeats_61 li_1 ?_
    refine i_goto hC (tgt := 66) dX9_quietBeats_62 (by decide) ?_
    exact Mj.to (b_X9_quietBeats_66 hC  hf) ⟨rfl, rfl, trivial⟩
set_option maxHeartbeats 4000000 in
set_option maxRecDepth 100000 in
theorem b_X9_quietBeats_15_b {v : EV} {p : Program} {l : Launch} {e : Env} {s : State} {m : MethodId} {args : Array Value} {below : List Frame} {meth : Method} {c : Code} (hC : Cx v p l e s m args meth c RX9 cX9_quietBeats 3 (some .int)) {S : Mem} {x1 : Int32}  {r : Int32 × Mem} {ih15 : (Mem × Int32) → Option (Int32 × Mem)} (hih15 : ∀ s9 : (Mem × Int32), ih15 s9 = some r → Mj v p l e (rmF 9 190) s m args below meth c 3 (MQ below (Qc v (some (.int r.1)) r.2) args s 0 0 (eG v)) 0 s9.1 15 [(0, .ref (eA v (218))), (1, .int (s9.2))] []) (hf : f_X9_quietBeats_15_b ih15 S x1 = some r) : Mj v p l e (rmF 9 190) s m args below meth c 3 (MQ below (Qc v (some (.int r.1)) r.2) args s 0 0 (eG v)) 0 S 15 [(0, .ref (eA v (218))), (1, .int x1)] [] := by
  refine i_iload_n hC dX9_quietBeats_15 rfl ?_
  refine i_bipush hC dX9_quietBeats_16 lb_9 ?_
  refine i_icmp_ge hC (tgt := 46) dX9_quietBeats_18 (by decide) (fun c2 => ?_) (fun c2 => ?_)
  · replace hf := (if_pos c2).symm.trans hf
    exact Mj.to (b_X9_quietBeats_46 hC  hf) ⟨rfl, rfl, trivial⟩
  · replace hf := (if_neg c2).symm.trans hf
    refine i_aload_n hC dX9_quietBeats_21 rfl ?_
    refine i_getR hC fl_X9_9 (pln rfl) (lay_p218) rfl dX9_quietBeats_22 ?_
    refine i_iconst hC dX9_quietBeats_25 li_2 ?_
    refine i_iald hC (j0 := 2) (pln rfl) (lay_p219) (inb_in (by decide)) (by decide) dX9_quietBeats_26 ?_
    refine i_aload_n hC dX9_quietBeats_27 rfl ?_
    refine i_getR hC fl_X9_16 (pln rfl) (lay_p218) rfl dX9_quietBeats_28 ?_
    refine i_iconst hC dX9_quietBeats_31 li_2 ?_
    refine i_iald hC (j0 := 2) (pln rfl) (lay_p221) (inb_in (by decide)) (by decide) dX9_quietBeats_32 ?_
    refine i_icmp_ne hC (tgt := 46) dX9_quietBeats_33 (by decide) (fun c6 => ?_) (fun c6 => ?_)
    · replace hf := (if_neg c6).symm.trans hf
      exact Mj.to (b_X9_quietBeats_46 hC  hf) ⟨rfl, rfl, trivial⟩
    · replace hf := (if_pos c6).symm.trans hf
      refine i_aload_n hC dX9_quietBeats_36 rfl ?_
      obtain ⟨S7, hc7, hf⟩ := bd1_of hf
      refine i_callVv hC mv_X9_176 (c_X9_beatGoes hC.2.2.2.2.2.2.2.1 hc7) (pln rfl) (lay_p218) rfl rfl rfl rfl ⟨Nat.le_of_ble_eq_true rfl, Nat.le_of_ble_eq_true rfl⟩ (Nat.le_of_ble_eq_true rfl) dX9_quietBeats_37 ?_
      refine i_iinc hC dX9_quietBeats_40 rfl li_1 (by decide) ?_
      refine i_goto hC (tgt := 15) dX9_quietBeats_43 (by decide) ?_
      exact Mj.to (hih15 _ hf) ⟨rfl, rfl, trivial⟩
theorem b_X9_quietBeats_15 {v : EV} {p : Program} {l : Launch} {e : Env} {s : State} {m : MethodId} {args : Array Value} {below : List Frame} {meth : Method} {c : Code} (hC : Cx v p l e s m args meth c RX9 cX9_quietBeats 3 (some .int)) {S : Mem} {x1 : Int32}  {r : Int32 × Mem} (hf : f_X9_quietBeats_15 S x1 = some r) : Mj v p l e (rmF 9 190) s m args below meth c 3 (MQ below (Qc v (some (.int r.1)) r.2) args s 0 0 (eG v)) 0 S 15 [(0, .ref (eA v (218))), (1, .int x1)] [] :=
  lp_ind (P := fun s9 : (Mem × Int32) => Mj v p l e (rmF 9 190) s m args below meth c 3 (MQ below (Qc v (some (.int r.1)) r.2) args s 0 0 (eG v)) 0 s9.1 15 [(0, .ref (eA v (218))), (1, .int (s9.2))] []) (fun ih s9 hih hf => b_X9_quietBeats_15_b hC   hih hf) _ _ hf
set_option maxHeartbeats 4000000 in
set_option maxRecDepth 100000 in
theorem b_X9_quietBeats_0 {v : EV} {p : Program} {l : Launch} {e : Env} {s : State} {m : MethodId} {args : Array Value} {below : List Frame} {meth : Method} {c : Code} (hC : Cx v p l e s m args meth c RX9 cX9_quietBeats 3 (some .int)) {S : Mem}  {r : Int32 × Mem} (hf : f_X9_quietBeats_0 S = some r) : Mj v p l e (rmF 9 190) s m args below meth c 3 (MQ below (Qc v (some (.int r.1)) r.2) args s 0 0 (eG v)) 0 S 0 [(0, .ref (eA v (218)))] [] := by
  refine i_aload_n hC dX9_quietBeats_0 rfl ?_
  refine i_getR hC fl_X9_9 (pln rfl) (lay_p218) rfl dX9_quietBeats_1 ?_
  refine i_iconst hC dX9_quietBeats_4 li_0 ?_
  refine i_aload_n hC dX9_quietBeats_5 rfl ?_
  refine i_getR hC fl_X9_16 (pln rfl) (lay_p218) rfl dX9_quietBeats_6 ?_
  refine i_iconst hC dX9_quietBeats_9 li_0 ?_
  obtain ⟨S1, hc1, hf⟩ := bd1_of hf
  refine i_callSv hC mv_X9_38 (c_X9_copies hC.2.2.2.2.2.2.2.1 (by decide) (by decide) hc1) rfl rfl rfl ⟨Nat.le_of_ble_eq_true rfl, Nat.le_of_ble_eq_true rfl⟩ (Nat.le_of_ble_eq_true rfl) dX9_quietBeats_10 ?_
  refine i_iconst hC dX9_quietBeats_13 li_0 ?_
  refine i_istore_n hC dX9_quietBeats_14 (by decide) ?_
  exact Mj.to (b_X9_quietBeats_15 hC  hf) ⟨rfl, rfl, trivial⟩
theorem c_X9_quietBeats {v : EV} {l : Launch} (hst : Stb v) {S : Mem}  {r : Int32 × Mem} (hf : g_X9_quietBeats S = some r) : Con v l yX9_quietBeats cX9_quietBeats 3 (some .int) 9 190 [.ref (eA v (218))] S (some (.int r.1)) r.2 := con_of (by decide) hst (Nat.le_of_ble_eq_true rfl) (fun p e s m args below meth c hC => b_X9_quietBeats_0 hC  hf)
def f_X9_ask_0 (S : Mem) (x1 : Int32) : Option (Int32 × Mem) := bd1 (g_X9_keeps S) (fun S1 => bd2 (g_X9_asks S1 x1) (fun r2 S2 => bd2 (g_X9_ends S2 r2) (fun r3 S3 => some (r3, S3))))
def g_X9_ask (S : Mem) (x1 : Int32) : Option (Int32 × Mem) := f_X9_ask_0 S x1
set_option maxHeartbeats 4000000 in
set_option maxRecDepth 100000 in
theorem b_X9_ask_0 {v : EV} {p : Program} {l : Launch} {e : Env} {s : State} {m : MethodId} {args : Array Value} {below : List Frame} {meth : Method} {c : Code} (hC : Cx v p l e s m args meth c RX9 cX9_ask 2 (some .int)) {S : Mem} {x1 : Int32}  {r : Int32 × Mem} (hf : f_X9_ask_0 S x1 = some r) : Mj v p l e (rmF 8 167) s m args below meth c 2 (MQ below (Qc v (some (.int r.1)) r.2) args s 0 0 (eG v)) 0 S 0 [(0, .ref (eA v (218))), (1, .int x1)] [] := by
  refine i_aload_n hC dX9_ask_0 rfl ?_
  obtain ⟨S1, hc1, hf⟩ := bd1_of hf
  refine i_callVv hC mv_X9_96 (c_X9_keeps hC.2.2.2.2.2.2.2.1 hc1) (pln rfl) (lay_p218) rfl rfl rfl rfl ⟨Nat.le_of_ble_eq_true rfl, Nat.le_of_ble_eq_true rfl⟩ (Nat.le_of_ble_eq_true rfl) dX9_ask_1 ?_
  refine i_aload_n hC dX9_ask_4 rfl ?_
  refine i_aload_n hC dX9_ask_5 rfl ?_
  refine i_iload_n hC dX9_ask_6 rfl ?_
  obtain ⟨r2, S2, hc2, hf⟩ := bd2_of hf
  refine i_callVi hC mv_X9_128 (c_X9_asks hC.2.2.2.2.2.2.2.1 hc2) (pln rfl) (lay_p218) rfl rfl rfl rfl ⟨Nat.le_of_ble_eq_true rfl, Nat.le_of_ble_eq_true rfl⟩ (Nat.le_of_ble_eq_true rfl) dX9_ask_7 ?_
  obtain ⟨r3, S3, hc3, hf⟩ := bd2_of hf
  refine i_callVi hC mv_X9_102 (c_X9_ends hC.2.2.2.2.2.2.2.1 hc3) (pln rfl) (lay_p218) rfl rfl rfl rfl ⟨Nat.le_of_ble_eq_true rfl, Nat.le_of_ble_eq_true rfl⟩ (Nat.le_of_ble_eq_true rfl) dX9_ask_10 ?_
  obtain rfl := Option.some.inj hf
  exact i_iret hC dX9_ask_13
theorem c_X9_ask {v : EV} {l : Launch} (hst : Stb v) {S : Mem} {x1 : Int32}  {r : Int32 × Mem} (hf : g_X9_ask S x1 = some r) : Con v l yX9_ask cX9_ask 2 (some .int) 8 167 [.ref (eA v (218)), .int x1] S (some (.int r.1)) r.2 := con_of (by decide) hst (Nat.le_of_ble_eq_true rfl) (fun p e s m args below meth c hC => b_X9_ask_0 hC  hf)
def f_X9_beatsGo_22_b (ih22 : (Mem × Int32) → Option (Int32 × Mem)) (S : Mem) (x1 : Int32) (x2 : Int32) (x3 : Int32) : Option (Int32 × Mem) := (if x1 ≤ x3 then some (((S 20 2) - x2), S) else bd1 (g_X9_beatGoes S) (fun S4 => ih22 (S4, (x3 + (1 : Int32)))))
def f_X9_beatsGo_22 (S : Mem) (x1 : Int32) (x2 : Int32) (x3 : Int32) : Option (Int32 × Mem) := lp (fun ih22 s9 => f_X9_beatsGo_22_b ih22 s9.1 x1 x2 s9.2) 2000 (S, x3)
def f_X9_beatsGo_0 (S : Mem) (x1 : Int32) : Option (Int32 × Mem) := bd1 (g_X9_isIn x1 (1 : Int32) (20 : Int32)) (fun r1 => (if r1 = 0 then some ((-2 : Int32), S) else f_X9_beatsGo_22 S x1 (S 20 2) (0 : Int32)))
def g_X9_beatsGo (S : Mem) (x1 : Int32) : Option (Int32 × Mem) := f_X9_beatsGo_0 S x1
set_option maxHeartbeats 4000000 in
set_option maxRecDepth 100000 in
theorem b_X9_beatsGo_22_b {v : EV} {p : Program} {l : Launch} {e : Env} {s : State} {m : MethodId} {args : Array Value} {below : List Frame} {meth : Method} {c : Code} (hC : Cx v p l e s m args meth c RX9 cX9_beatsGo 4 (some .int)) {S : Mem} {x1 : Int32} {x2 : Int32} {x3 : Int32}  {r : Int32 × Mem} {ih22 : (Mem × Int32) → Option (Int32 × Mem)} (hih22 : ∀ s9 : (Mem × Int32), ih22 s9 = some r → Mj v p l e (rmF 9 190) s m args below meth c 4 (MQ below (Qc v (some (.int r.1)) r.2) args s 0 0 (eG v)) 0 s9.1 22 [(0, .ref (eA v (218))), (1, .int x1), (2, .int x2), (3, .int (s9.2))] []) (hf : f_X9_beatsGo_22_b ih22 S x1 x2 x3 = some r) : Mj v p l e (rmF 9 190) s m args below meth c 4 (MQ below (Qc v (some (.int r.1)) r.2) args s 0 0 (eG v)) 0 S 22 [(0, .ref (eA v (218))), (1, .int x1), (2, .int x2), (3, .int x3)] [] := by
  refine i_iload_n hC dX9_beatsGo_22 rfl ?_
  refine i_iload_n hC dX9_beatsGo_23 rfl ?_
  refine i_icmp_ge hC (tgt := 37) dX9_beatsGo_24 (by decide) (fun c3 => ?_) (fun c3 => ?_)
  · replace hf := (if_pos c3).symm.trans hf
    refine i_aload_n hC dX9_beatsGo_37 rfl ?_
    refine i_getR hC fl_X9_9 (pln rfl) (lay_p218) rfl dX9_beatsGo_38 ?_
    refine i_iconst hC dX9_beatsGo_41 li_2 ?_
    refine i_iald hC (j0 := 2) (pln rfl) (lay_p219) (inb_in (by decide)) (by decide) dX9_beatsGo_42 ?_
    refine i_iload_n hC dX9_beatsGo_43 rfl ?_
    refine i_isub hC dX9_beatsGo_44 ?_
    obtain rfl := Option.some.inj hf
    exact i_iret hC dX9_beatsGo_45
  · replace hf := (if_neg c3).symm.trans hf
    refine i_aload_n hC dX9_beatsGo_27 rfl ?_
    obtain ⟨S4, hc4, hf⟩ := bd1_of hf
    refine i_callVv hC mv_X9_176 (c_X9_beatGoes hC.2.2.2.2.2.2.2.1 hc4) (pln rfl) (lay_p218) rfl rfl rfl rfl ⟨Nat.le_of_ble_eq_true rfl, Nat.le_of_ble_eq_true rfl⟩ (Nat.le_of_ble_eq_true rfl) dX9_beatsGo_28 ?_
    refine i_iinc hC dX9_beatsGo_31 rfl li_1 (by decide) ?_
    refine i_goto hC (tgt := 22) dX9_beatsGo_34 (by decide) ?_
    exact Mj.to (hih22 _ hf) ⟨rfl, rfl, rfl, rfl, trivial⟩
theorem b_X9_beatsGo_22 {v : EV} {p : Program} {l : Launch} {e : Env} {s : State} {m : MethodId} {args : Array Value} {below : List Frame} {meth : Method} {c : Code} (hC : Cx v p l e s m args meth c RX9 cX9_beatsGo 4 (some .int)) {S : Mem} {x1 : Int32} {x2 : Int32} {x3 : Int32}  {r : Int32 × Mem} (hf : f_X9_beatsGo_22 S x1 x2 x3 = some r) : Mj v p l e (rmF 9 190) s m args below meth c 4 (MQ below (Qc v (some (.int r.1)) r.2) args s 0 0 (eG v)) 0 S 22 [(0, .ref (eA v (218))), (1, .int x1), (2, .int x2), (3, .int x3)] [] :=
  lp_ind (P := fun s9 : (Mem × Int32) => Mj v p l e (rmF 9 190) s m args below meth c 4 (MQ below (Qc v (some (.int r.1)) r.2) args s 0 0 (eG v)) 0 s9.1 22 [(0, .ref (eA v (218))), (1, .int x1), (2, .int x2), (3, .int (s9.2))] []) (fun ih s9 hih hf => b_X9_beatsGo_22_b hC   hih hf) _ _ hf
set_option maxHeartbeats 4000000 in
set_option maxRecDepth 100000 in
theorem b_X9_beatsGo_0 {v : EV} {p : Program} {l : Launch} {e : Env} {s : State} {m : MethodId} {args : Array Value} {below : List Frame} {meth : Method} {c : Code} (hC : Cx v p l e s m args meth c RX9 cX9_beatsGo 4 (some .int)) {S : Mem} {x1 : Int32}  {r : Int32 × Mem} (hf : f_X9_beatsGo_0 S x1 = some r) : Mj v p l e (rmF 9 190) s m args below meth c 4 (MQ below (Qc v (some (.int r.1)) r.2) args s 0 0 (eG v)) 0 S 0 [(0, .ref (eA v (218))), (1, .int x1)] [] := by
  refine i_iload_n hC dX9_beatsGo_0 rfl ?_
  refine i_iconst hC dX9_beatsGo_1 li_1 ?_
  refine i_bipush hC dX9_beatsGo_2 lb_20 ?_
  obtain ⟨r1, hc1, hf⟩ := bd1_of hf
  refine i_callSi hC mv_X9_61 (c_X9_isIn hC.2.2.2.2.2.2.2.1 hc1) rfl rfl rfl ⟨Nat.le_of_ble_eq_true rfl, Nat.le_of_ble_eq_true rfl⟩ (Nat.le_of_ble_eq_true rfl) dX9_beatsGo_4 ?_
  refine i_if_ne hC (tgt := 13) dX9_beatsGo_7 (by decide) (fun c2 => ?_) (fun c2 => ?_)
  · replace hf := (if_neg c2).symm.trans hf
    refine i_aload_n hC dX9_beatsGo_13 rfl ?_
    refine i_getR hC fl_X9_9 (pln rfl) (lay_p218) rfl dX9_beatsGo_14 ?_
    refine i_iconst hC dX9_beatsGo_17 li_2 ?_
    refine i_iald hC (j0 := 2) (pln rfl) (lay_p219) (inb_in (by decide)) (by decide) dX9_beatsGo_18 ?_
    refine i_istore_n hC dX9_beatsGo_19 (by decide) ?_
    refine i_iconst hC dX9_beatsGo_20 li_0 ?_
    refine i_istore_n hC dX9_beatsGo_21 (by decide) ?_
    exact Mj.to (b_X9_beatsGo_22 hC  hf) ⟨rfl, rfl, rfl, rfl, trivial⟩
  · replace hf := (if_pos c2).symm.trans hf
    refine i_bipush hC dX9_beatsGo_10 lb_m2 ?_
    obtain rfl := Option.some.inj hf
    exact i_iret hC dX9_beatsGo_12
theorem c_X9_beatsGo {v : EV} {l : Launch} (hst : Stb v) {S : Mem} {x1 : Int32}  {r : Int32 × Mem} (hf : g_X9_beatsGo S x1 = some r) : Con v l yX9_beatsGo cX9_beatsGo 4 (some .int) 9 190 [.ref (eA v (218)), .int x1] S (some (.int r.1)) r.2 := con_of (by decide) hst (Nat.le_of_ble_eq_true rfl) (fun p e s m args below meth c hC => b_X9_beatsGo_0 hC  hf)
def f_X9_does_0 (S : Mem) (x1 : Int32) : Option (Int32 × Mem) := ck (inb (x1 + (1 : Int32)) 39) (ck (inb (x1 + (2 : Int32)) 39) (ck (inb x1 39) ((if (S 26 ((x1).toNatClampNeg)) = (0 : Int32) then bd2 (g_X9_comes S (S 26 (((x1 + (1 : Int32))).toNatClampNeg))) (fun r4 S4 => some (r4, S4)) else if (S 26 ((x1).toNatClampNeg)) = (1 : Int32) then bd2 (g_X9_asks S (S 26 (((x1 + (1 : Int32))).toNatClampNeg))) (fun r6 S6 => some (r6, S6)) else if (S 26 ((x1).toNatClampNeg)) = (2 : Int32) then bd2 (g_X9_sends S (S 26 (((x1 + (1 : Int32))).toNatClampNeg))) (fun r8 S8 => some (r8, S8)) else if (S 26 ((x1).toNatClampNeg)) = (3 : Int32) then bd2 (g_X9_shouts S (S 26 (((x1 + (1 : Int32))).toNatClampNeg)) (S 26 (((x1 + (2 : Int32))).toNatClampNeg))) (fun r10 S10 => some (r10, S10)) else if (S 26 ((x1).toNatClampNeg)) = (4 : Int32) then bd2 (g_X9_washes S (S 26 (((x1 + (1 : Int32))).toNatClampNeg))) (fun r12 S12 => some (r12, S12)) else if (S 26 ((x1).toNatClampNeg)) = (5 : Int32) then bd2 (g_X9_comesBack S (S 26 (((x1 + (1 : Int32))).toNatClampNeg))) (fun r14 S14 => some (r14, S14)) else if (S 26 ((x1).toNatClampNeg)) = (6 : Int32) then bd2 (g_X9_ropes S (S 26 (((x1 + (1 : Int32))).toNatClampNeg)) (S 26 (((x1 + (2 : Int32))).toNatClampNeg)) (1 : Int32)) (fun r16 S16 => some (r16, S16)) else if (S 26 ((x1).toNatClampNeg)) = (7 : Int32) then bd2 (g_X9_ropes S (S 26 (((x1 + (1 : Int32))).toNatClampNeg)) (S 26 (((x1 + (2 : Int32))).toNatClampNeg)) (0 : Int32)) (fun r18 S18 => some (r18, S18)) else bd2 (g_X9_beatsGo S (S 26 (((x1 + (1 : Int32))).toNatClampNeg))) (fun r20 S20 => some (r20, S20))))))
def g_X9_does (S : Mem) (x1 : Int32) : Option (Int32 × Mem) := f_X9_does_0 S x1
set_option maxHeartbeats 4000000 in
set_option maxRecDepth 100000 in
theorem b_X9_does_0 {v : EV} {p : Program} {l : Launch} {e : Env} {s : State} {m : MethodId} {args : Array Value} {below : List Frame} {meth : Method} {c : Code} (hC : Cx v p l e s m args meth c RX9 cX9_does 4 (some .int)) {S : Mem} {x1 : Int32}  {r : Int32 × Mem} (hf : f_X9_does_0 S x1 = some r) : Mj v p l e (rmF 10 213) s m args below meth c 4 (MQ below (Qc v (some (.int r.1)) r.2) args s 0 0 (eG v)) 0 S 0 [(0, .ref (eA v (218))), (1, .int x1)] [] := by
  refine i_aload_n hC dX9_does_0 rfl ?_
  refine i_getR hC fl_X9_32 (pln rfl) (lay_p218) rfl dX9_does_1 ?_
  refine i_iload_n hC dX9_does_4 rfl ?_
  refine i_iconst hC dX9_does_5 li_1 ?_
  refine i_iadd hC dX9_does_6 ?_
  obtain ⟨k1, hf⟩ := ck_of hf
  refine i_iald hC (j0 := (((x1 + (1 : Int32))).toNatClampNeg)) (pln rfl) (lay_p225) (inb_in k1) (Nat.zero_add _) dX9_does_7 ?_
  refine i_istore_n hC dX9_does_8 (by decide) ?_
  refine i_aload_n hC dX9_does_9 rfl ?_
  refine i_getR hC fl_X9_32 (pln rfl) (lay_p218) rfl dX9_does_10 ?_
  refine i_iload_n hC dX9_does_13 rfl ?_
  refine i_iconst hC dX9_does_14 li_2 ?_
  refine i_iadd hC dX9_does_15 ?_
  obtain ⟨k2, hf⟩ := ck_of hf
  refine i_iald hC (j0 := (((x1 + (2 : Int32))).toNatClampNeg)) (pln rfl) (lay_p225) (inb_in k2) (Nat.zero_add _) dX9_does_16 ?_
  refine i_istore_n hC dX9_does_17 (by decide) ?_
  refine i_aload_n hC dX9_does_18 rfl ?_
  refine i_getR hC fl_X9_32 (pln rfl) (lay_p218) rfl dX9_does_19 ?_
  refine i_iload_n hC dX9_does_22 rfl ?_
  obtain ⟨k3, hf⟩ := ck_of hf
  refine i_iald hC (j0 := ((x1).toNatClampNeg)) (pln rfl) (lay_p225) (inb_in k3) (Nat.zero_add _) dX9_does_23 ?_
  by_cases c5 : (S 26 ((x1).toNatClampNeg)) = (0 : Int32)
  · replace hf := (if_pos c5).symm.trans hf
    refine i_tabIn hC (tgt := 72) dX9_does_24 c5 (show ((0 : Int32)).toInt = 0 by decide) (by decide) (by decide) rfl (by decide) ?_
    refine i_aload_n hC dX9_does_72 rfl ?_
    refine i_iload_n hC dX9_does_73 rfl ?_
    obtain ⟨r4, S4, hc4, hf⟩ := bd2_of hf
    refine i_callVi hC mv_X9_99 (c_X9_comes hC.2.2.2.2.2.2.2.1 hc4) (pln rfl) (lay_p218) rfl rfl rfl rfl ⟨Nat.le_of_ble_eq_true rfl, Nat.le_of_ble_eq_true rfl⟩ (Nat.le_of_ble_eq_true rfl) dX9_does_74 ?_
    obtain rfl := Option.some.inj hf
    exact i_iret hC dX9_does_77
  replace hf := (if_neg c5).symm.trans hf
  by_cases c7 : (S 26 ((x1).toNatClampNeg)) = (1 : Int32)
  · replace hf := (if_pos c7).symm.trans hf
    refine i_tabIn hC (tgt := 78) dX9_does_24 c7 (show ((1 : Int32)).toInt = 1 by decide) (by decide) (by decide) rfl (by decide) ?_
    refine i_aload_n hC dX9_does_78 rfl ?_
    refine i_iload_n hC dX9_does_79 rfl ?_
    obtain ⟨r6, S6, hc6, hf⟩ := bd2_of hf
    refine i_callVi hC mv_X9_128 (c_X9_asks hC.2.2.2.2.2.2.2.1 hc6) (pln rfl) (lay_p218) rfl rfl rfl rfl ⟨Nat.le_of_ble_eq_true rfl, Nat.le_of_ble_eq_true rfl⟩ (Nat.le_of_ble_eq_true rfl) dX9_does_80 ?_
    obtain rfl := Option.some.inj hf
    exact i_iret hC dX9_does_83
  replace hf := (if_neg c7).symm.trans hf
  by_cases c9 : (S 26 ((x1).toNatClampNeg)) = (2 : Int32)
  · replace hf := (if_pos c9).symm.trans hf
    refine i_tabIn hC (tgt := 84) dX9_does_24 c9 (show ((2 : Int32)).toInt = 2 by decide) (by decide) (by decide) rfl (by decide) ?_
    refine i_aload_n hC dX9_does_84 rfl ?_
    refine i_iload_n hC dX9_does_85 rfl ?_
    obtain ⟨r8, S8, hc8, hf⟩ := bd2_of hf
    refine i_callVi hC mv_X9_146 (c_X9_sends hC.2.2.2.2.2.2.2.1 hc8) (pln rfl) (lay_p218) rfl rfl rfl rfl ⟨Nat.le_of_ble_eq_true rfl, Nat.le_of_ble_eq_true rfl⟩ (Nat.le_of_ble_eq_true rfl) dX9_does_86 ?_
    obtain rfl := Option.some.inj hf
    exact i_iret hC dX9_does_89
  replace hf := (if_neg c9).symm.trans hf
  by_cases c11 : (S 26 ((x1).toNatClampNeg)) = (3 : Int32)
  · replace hf := (if_pos c11).symm.trans hf
    refine i_tabIn hC (tgt := 90) dX9_does_24 c11 (show ((3 : Int32)).toInt = 3 by decide) (by decide) (by decide) rfl (by decide) ?_
    refine i_aload_n hC dX9_does_90 rfl ?_
    refine i_iload_n hC dX9_does_91 rfl ?_
    refine i_iload_n hC dX9_does_92 rfl ?_
    obtain ⟨r10, S10, hc10, hf⟩ := bd2_of hf
    refine i_callVi hC mv_X9_149 (c_X9_shouts hC.2.2.2.2.2.2.2.1 hc10) (pln rfl) (lay_p218) rfl rfl rfl rfl ⟨Nat.le_of_ble_eq_true rfl, Nat.le_of_ble_eq_true rfl⟩ (Nat.le_of_ble_eq_true rfl) dX9_does_93 ?_
    obtain rfl := Option.some.inj hf
    exact i_iret hC dX9_does_96
  replace hf := (if_neg c11).symm.trans hf
  by_cases c13 : (S 26 ((x1).toNatClampNeg)) = (4 : Int32)
  · replace hf := (if_pos c13).symm.trans hf
    refine i_tabIn hC (tgt := 97) dX9_does_24 c13 (show ((4 : Int32)).toInt = 4 by decide) (by decide) (by decide) rfl (by decide) ?_
    refine i_aload_n hC dX9_does_97 rfl ?_
    refine i_iload_n hC dX9_does_98 rfl ?_
    obtain ⟨r12, S12, hc12, hf⟩ := bd2_of hf
    refine i_callVi hC mv_X9_156 (c_X9_washes hC.2.2.2.2.2.2.2.1 hc12) (pln rfl) (lay_p218) rfl rfl rfl rfl ⟨Nat.le_of_ble_eq_true rfl, Nat.le_of_ble_eq_true rfl⟩ (Nat.le_of_ble_eq_true rfl) dX9_does_99 ?_
    obtain rfl := Option.some.inj hf
    exact i_iret hC dX9_does_102
  replace hf := (if_neg c13).symm.trans hf
  by_cases c15 : (S 26 ((x1).toNatClampNeg)) = (5 : Int32)
  · replace hf := (if_pos c15).symm.trans hf
    refine i_tabIn hC (tgt := 103) dX9_does_24 c15 (show ((5 : Int32)).toInt = 5 by decide) (by decide) (by decide) rfl (by decide) ?_
    refine i_aload_n hC dX9_does_103 rfl ?_
    refine i_iload_n hC dX9_does_104 rfl ?_
    obtain ⟨r14, S14, hc14, hf⟩ := bd2_of hf
    refine i_callVi hC mv_X9_159 (c_X9_comesBack hC.2.2.2.2.2.2.2.1 hc14) (pln rfl) (lay_p218) rfl rfl rfl rfl ⟨Nat.le_of_ble_eq_true rfl, Nat.le_of_ble_eq_true rfl⟩ (Nat.le_of_ble_eq_true rfl) dX9_does_105 ?_
    obtain rfl := Option.some.inj hf
    exact i_iret hC dX9_does_108
  replace hf := (if_neg c15).symm.trans hf
  by_cases c17 : (S 26 ((x1).toNatClampNeg)) = (6 : Int32)
  · replace hf := (if_pos c17).symm.trans hf
    refine i_tabIn hC (tgt := 109) dX9_does_24 c17 (show ((6 : Int32)).toInt = 6 by decide) (by decide) (by decide) rfl (by decide) ?_
    refine i_aload_n hC dX9_does_109 rfl ?_
    refine i_iload_n hC dX9_does_110 rfl ?_
    refine i_iload_n hC dX9_does_111 rfl ?_
    refine i_iconst hC dX9_does_112 li_1 ?_
    obtain ⟨r16, S16, hc16, hf⟩ := bd2_of hf
    refine i_callVi hC mv_X9_168 (c_X9_ropes hC.2.2.2.2.2.2.2.1 hc16) (pln rfl) (lay_p218) rfl rfl rfl rfl ⟨Nat.le_of_ble_eq_true rfl, Nat.le_of_ble_eq_true rfl⟩ (Nat.le_of_ble_eq_true rfl) dX9_does_113 ?_
    obtain rfl := Option.some.inj hf
    exact i_iret hC dX9_does_116
  replace hf := (if_neg c17).symm.trans hf
  by_cases c19 : (S 26 ((x1).toNatClampNeg)) = (7 : Int32)
  · replace hf := (if_pos c19).symm.trans hf
    refine i_tabIn hC (tgt := 117) dX9_does_24 c19 (show ((7 : Int32)).toInt = 7 by decide) (by decide) (by decide) rfl (by decide) ?_
    refine i_aload_n hC dX9_does_117 rfl ?_
    refine i_iload_n hC dX9_does_118 rfl ?_
    refine i_iload_n hC dX9_does_119 rfl ?_
    refine i_iconst hC dX9_does_120 li_0 ?_
    obtain ⟨r18, S18, hc18, hf⟩ := bd2_of hf
    refine i_callVi hC mv_X9_168 (c_X9_ropes hC.2.2.2.2.2.2.2.1 hc18) (pln rfl) (lay_p218) rfl rfl rfl rfl ⟨Nat.le_of_ble_eq_true rfl, Nat.le_of_ble_eq_true rfl⟩ (Nat.le_of_ble_eq_true rfl) dX9_does_121 ?_
    obtain rfl := Option.some.inj hf
    exact i_iret hC dX9_does_124
  replace hf := (if_neg c19).symm.trans hf
  refine i_tabOut hC (x := (S 26 ((x1).toNatClampNeg))) (tgt := 125) dX9_does_24 (by
      have z5 := lv_neT c5 (show ((0 : Int32)).toInt = 0 by decide)
      have z7 := lv_neT c7 (show ((1 : Int32)).toInt = 1 by decide)
      have z9 := lv_neT c9 (show ((2 : Int32)).toInt = 2 by decide)
      have z11 := lv_neT c11 (show ((3 : Int32)).toInt = 3 by decide)
      have z13 := lv_neT c13 (show ((4 : Int32)).toInt = 4 by decide)
      have z15 := lv_neT c15 (show ((5 : Int32)).toInt = 5 by decide)
      have z17 := lv_neT c17 (show ((6 : Int32)).toInt = 6 by decide)
      have z19 := lv_neT c19 (show ((7 : Int32)).toInt = 7 by decide)
      omega) (by decide) ?_
  refine i_aload_n hC dX9_does_125 rfl ?_
  refine i_iload_n hC dX9_does_126 rfl ?_
  obtain ⟨r20, S20, hc20, hf⟩ := bd2_of hf
  refine i_callVi hC mv_X9_179 (c_X9_beatsGo hC.2.2.2.2.2.2.2.1 hc20) (pln rfl) (lay_p218) rfl rfl rfl rfl ⟨Nat.le_of_ble_eq_true rfl, Nat.le_of_ble_eq_true rfl⟩ (Nat.le_of_ble_eq_true rfl) dX9_does_127 ?_
  obtain rfl := Option.some.inj hf
  exact i_iret hC dX9_does_130
theorem c_X9_does {v : EV} {l : Launch} (hst : Stb v) {S : Mem} {x1 : Int32}  {r : Int32 × Mem} (hf : g_X9_does S x1 = some r) : Con v l yX9_does cX9_does 4 (some .int) 10 213 [.ref (eA v (218)), .int x1] S (some (.int r.1)) r.2 := con_of (by decide) hst (Nat.le_of_ble_eq_true rfl) (fun p e s m args below meth c hC => b_X9_does_0 hC  hf)
def f_X9_beats_0 (S : Mem) (x1 : Int32) : Option (Int32 × Mem) := bd1 (g_X9_keeps S) (fun S1 => bd2 (g_X9_beatsGo S1 x1) (fun r2 S2 => bd2 (g_X9_ends S2 r2) (fun r3 S3 => some (r3, S3))))
def g_X9_beats (S : Mem) (x1 : Int32) : Option (Int32 × Mem) := f_X9_beats_0 S x1
set_option maxHeartbeats 4000000 in
set_option maxRecDepth 100000 in
theorem b_X9_beats_0 {v : EV} {p : Program} {l : Launch} {e : Env} {s : State} {m : MethodId} {args : Array Value} {below : List Frame} {meth : Method} {c : Code} (hC : Cx v p l e s m args meth c RX9 cX9_beats 2 (some .int)) {S : Mem} {x1 : Int32}  {r : Int32 × Mem} (hf : f_X9_beats_0 S x1 = some r) : Mj v p l e (rmF 10 213) s m args below meth c 2 (MQ below (Qc v (some (.int r.1)) r.2) args s 0 0 (eG v)) 0 S 0 [(0, .ref (eA v (218))), (1, .int x1)] [] := by
  refine i_aload_n hC dX9_beats_0 rfl ?_
  obtain ⟨S1, hc1, hf⟩ := bd1_of hf
  refine i_callVv hC mv_X9_96 (c_X9_keeps hC.2.2.2.2.2.2.2.1 hc1) (pln rfl) (lay_p218) rfl rfl rfl rfl ⟨Nat.le_of_ble_eq_true rfl, Nat.le_of_ble_eq_true rfl⟩ (Nat.le_of_ble_eq_true rfl) dX9_beats_1 ?_
  refine i_aload_n hC dX9_beats_4 rfl ?_
  refine i_aload_n hC dX9_beats_5 rfl ?_
  refine i_iload_n hC dX9_beats_6 rfl ?_
  obtain ⟨r2, S2, hc2, hf⟩ := bd2_of hf
  refine i_callVi hC mv_X9_179 (c_X9_beatsGo hC.2.2.2.2.2.2.2.1 hc2) (pln rfl) (lay_p218) rfl rfl rfl rfl ⟨Nat.le_of_ble_eq_true rfl, Nat.le_of_ble_eq_true rfl⟩ (Nat.le_of_ble_eq_true rfl) dX9_beats_7 ?_
  obtain ⟨r3, S3, hc3, hf⟩ := bd2_of hf
  refine i_callVi hC mv_X9_102 (c_X9_ends hC.2.2.2.2.2.2.2.1 hc3) (pln rfl) (lay_p218) rfl rfl rfl rfl ⟨Nat.le_of_ble_eq_true rfl, Nat.le_of_ble_eq_true rfl⟩ (Nat.le_of_ble_eq_true rfl) dX9_beats_10 ?_
  obtain rfl := Option.some.inj hf
  exact i_iret hC dX9_beats_13
theorem c_X9_beats {v : EV} {l : Launch} (hst : Stb v) {S : Mem} {x1 : Int32}  {r : Int32 × Mem} (hf : g_X9_beats S x1 = some r) : Con v l yX9_beats cX9_beats 2 (some .int) 10 213 [.ref (eA v (218)), .int x1] S (some (.int r.1)) r.2 := con_of (by decide) hst (Nat.le_of_ble_eq_true rfl) (fun p e s m args below meth c hC => b_X9_beats_0 hC  hf)
def f_X9_read_63 (S : Mem) (x2 : Int32) (xt0 : Int32) : Option (Int32 × Mem) := bd1 (g_X9_isBehind S xt0 x2) (fun S9 => bd1 (g_X9_copies S9 21 (0 : Int32) 20 (0 : Int32)) (fun S10 => some ((-3 : Int32), S10)))
def f_X9_read_31_b (ih31 : (Mem × Int32) → Option (Int32 × Mem)) (S : Mem) (x2 : Int32) : Option (Int32 × Mem) := (if (S 28 16) ≤ x2 then bd2 (g_X9_ends S (S 28 16)) (fun r5 S5 => some (r5, S5)) else bd2 (g_X9_does S ((3 : Int32) * x2)) (fun r6 S6 => (if 0 ≤ r6 then ih31 (S6, (x2 + (1 : Int32))) else (if r6 = (-3 : Int32) then f_X9_read_63 S6 x2 (1 : Int32) else f_X9_read_63 S6 x2 (0 : Int32)))))
def f_X9_read_31 (S : Mem) (x2 : Int32) : Option (Int32 × Mem) := lp (fun ih31 s9 => f_X9_read_31_b ih31 s9.1 s9.2) 2000 (S, x2)
def f_X9_read_0 (S : Mem)  : Option (Int32 × Mem) := bd2 (g_X9_isText S) (fun r1 S1 => (if r1 = 0 then some ((-2 : Int32), (up (up S1 28 14 (0 : Int32)) 28 10 ((up S1 28 14 (0 : Int32)) 28 15))) else bd1 (g_X9_keeps (up S1 28 14 (0 : Int32))) (fun S3 => f_X9_read_31 S3 (0 : Int32))))
def g_X9_read (S : Mem)  : Option (Int32 × Mem) := f_X9_read_0 S
set_option maxHeartbeats 4000000 in
set_option maxRecDepth 100000 in
theorem b_X9_read_63 {v : EV} {p : Program} {l : Launch} {e : Env} {s : State} {m : MethodId} {args : Array Value} {below : List Frame} {meth : Method} {c : Code} (hC : Cx v p l e s m args meth c RX9 cX9_read 4 (some .int)) {S : Mem} {x2 : Int32} {xt0 : Int32}  {r : Int32 × Mem} (hf : f_X9_read_63 S x2 xt0 = some r) : Mj v p l e (rmF 11 236) s m args below meth c 4 (MQ below (Qc v (some (.int r.1)) r.2) args s 0 0 (eG v)) 0 S 63 [(0, .ref (eA v (218))), (2, .int x2)] [.int xt0, .ref (eA v (218))] := by
  refine i_iload_n hC dX9_read_63 rfl ?_
  obtain ⟨S9, hc9, hf⟩ := bd1_of hf
  refine i_callVv hC mv_X9_257 (c_X9_isBehind hC.2.2.2.2.2.2.2.1 hc9) (pln rfl) (lay_p218) rfl rfl rfl rfl ⟨Nat.le_of_ble_eq_true rfl, Nat.le_of_ble_eq_true rfl⟩ (Nat.le_of_ble_eq_true rfl) dX9_read_64 ?_
  refine i_aload_n hC dX9_read_67 rfl ?_
  refine i_getR hC fl_X9_13 (pln rfl) (lay_p218) rfl dX9_read_68 ?_
  refine i_iconst hC dX9_read_71 li_0 ?_
  refine i_aload_n hC dX9_read_72 rfl ?_
  refine i_getR hC fl_X9_9 (pln rfl) (lay_p218) rfl dX9_read_73 ?_
  refine i_iconst hC dX9_read_76 li_0 ?_
  obtain ⟨S10, hc10, hf⟩ := bd1_of hf
  refine i_callSv hC mv_X9_38 (c_X9_copies hC.2.2.2.2.2.2.2.1 (by decide) (by decide) hc10) rfl rfl rfl ⟨Nat.le_of_ble_eq_true rfl, Nat.le_of_ble_eq_true rfl⟩ (Nat.le_of_ble_eq_true rfl) dX9_read_77 ?_
  refine i_bipush hC dX9_read_80 lb_m3 ?_
  obtain rfl := Option.some.inj hf
  exact i_iret hC dX9_read_82
set_option maxHeartbeats 4000000 in
set_option maxRecDepth 100000 in
theorem b_X9_read_31_b {v : EV} {p : Program} {l : Launch} {e : Env} {s : State} {m : MethodId} {args : Array Value} {below : List Frame} {meth : Method} {c : Code} (hC : Cx v p l e s m args meth c RX9 cX9_read 4 (some .int)) {S : Mem} {x2 : Int32}  {r : Int32 × Mem} {ih31 : (Mem × Int32) → Option (Int32 × Mem)} (hih31 : ∀ s9 : (Mem × Int32), ih31 s9 = some r → Mj v p l e (rmF 11 236) s m args below meth c 4 (MQ below (Qc v (some (.int r.1)) r.2) args s 0 0 (eG v)) 0 s9.1 31 [(0, .ref (eA v (218))), (2, .int (s9.2))] []) (hf : f_X9_read_31_b ih31 S x2 = some r) : Mj v p l e (rmF 11 236) s m args below meth c 4 (MQ below (Qc v (some (.int r.1)) r.2) args s 0 0 (eG v)) 0 S 31 [(0, .ref (eA v (218))), (2, .int x2)] [] := by
  refine i_iload_n hC dX9_read_31 rfl ?_
  refine i_aload_n hC dX9_read_32 rfl ?_
  refine i_getI hC fl_X9_233 (pln rfl) (lay_p218) rfl dX9_read_33 ?_
  refine i_icmp_ge hC (tgt := 89) dX9_read_36 (by decide) (fun c4 => ?_) (fun c4 => ?_)
  · replace hf := (if_pos c4).symm.trans hf
    refine i_aload_n hC dX9_read_89 rfl ?_
    refine i_aload_n hC dX9_read_90 rfl ?_
    refine i_getI hC fl_X9_233 (pln rfl) (lay_p218) rfl dX9_read_91 ?_
    obtain ⟨r5, S5, hc5, hf⟩ := bd2_of hf
    refine i_callVi hC mv_X9_102 (c_X9_ends hC.2.2.2.2.2.2.2.1 hc5) (pln rfl) (lay_p218) rfl rfl rfl rfl ⟨Nat.le_of_ble_eq_true rfl, Nat.le_of_ble_eq_true rfl⟩ (Nat.le_of_ble_eq_true rfl) dX9_read_94 ?_
    obtain rfl := Option.some.inj hf
    exact i_iret hC dX9_read_97
  · replace hf := (if_neg c4).symm.trans hf
    refine i_aload_n hC dX9_read_39 rfl ?_
    refine i_iconst hC dX9_read_40 li_3 ?_
    refine i_iload_n hC dX9_read_41 rfl ?_
    refine i_imul hC dX9_read_42 ?_
    obtain ⟨r6, S6, hc6, hf⟩ := bd2_of hf
    refine i_callVi hC mv_X9_254 (c_X9_does hC.2.2.2.2.2.2.2.1 hc6) (pln rfl) (lay_p218) rfl rfl rfl rfl ⟨Nat.le_of_ble_eq_true rfl, Nat.le_of_ble_eq_true rfl⟩ (Nat.le_of_ble_eq_true rfl) dX9_read_43 ?_
    refine i_istore_n hC dX9_read_46 (by decide) ?_
    refine i_iload_n hC dX9_read_47 rfl ?_
    refine i_if_ge hC (tgt := 83) dX9_read_48 (by decide) (fun c7 => ?_) (fun c7 => ?_)
    · replace hf := (if_pos c7).symm.trans hf
      refine i_iinc hC dX9_read_83 rfl li_1 (by decide) ?_
      refine i_goto hC (tgt := 31) dX9_read_86 (by decide) ?_
      exact Mj.to (hih31 _ hf) ⟨rfl, rfl, trivial⟩
    · replace hf := (if_neg c7).symm.trans hf
      refine i_aload_n hC dX9_read_51 rfl ?_
      refine i_iload_n hC dX9_read_52 rfl ?_
      refine i_bipush hC dX9_read_53 lb_m3 ?_
      refine i_icmp_ne hC (tgt := 62) dX9_read_55 (by decide) (fun c8 => ?_) (fun c8 => ?_)
      · replace hf := (if_neg c8).symm.trans hf
        refine i_iconst hC dX9_read_62 li_0 ?_
        exact Mj.to (b_X9_read_63 hC  hf) ⟨rfl, rfl, trivial⟩
      · replace hf := (if_pos c8).symm.trans hf
        refine i_iconst hC dX9_read_58 li_1 ?_
        refine i_goto hC (tgt := 63) dX9_read_59 (by decide) ?_
        exact Mj.to (b_X9_read_63 hC  hf) ⟨rfl, rfl, trivial⟩
theorem b_X9_read_31 {v : EV} {p : Program} {l : Launch} {e : Env} {s : State} {m : MethodId} {args : Array Value} {below : List Frame} {meth : Method} {c : Code} (hC : Cx v p l e s m args meth c RX9 cX9_read 4 (some .int)) {S : Mem} {x2 : Int32}  {r : Int32 × Mem} (hf : f_X9_read_31 S x2 = some r) : Mj v p l e (rmF 11 236) s m args below meth c 4 (MQ below (Qc v (some (.int r.1)) r.2) args s 0 0 (eG v)) 0 S 31 [(0, .ref (eA v (218))), (2, .int x2)] [] :=
  lp_ind (P := fun s9 : (Mem × Int32) => Mj v p l e (rmF 11 236) s m args below meth c 4 (MQ below (Qc v (some (.int r.1)) r.2) args s 0 0 (eG v)) 0 s9.1 31 [(0, .ref (eA v (218))), (2, .int (s9.2))] []) (fun ih s9 hih hf => b_X9_read_31_b hC   hih hf) _ _ hf
set_option maxHeartbeats 4000000 in
set_option maxRecDepth 100000 in
theorem b_X9_read_0 {v : EV} {p : Program} {l : Launch} {e : Env} {s : State} {m : MethodId} {args : Array Value} {below : List Frame} {meth : Method} {c : Code} (hC : Cx v p l e s m args meth c RX9 cX9_read 4 (some .int)) {S : Mem}  {r : Int32 × Mem} (hf : f_X9_read_0 S = some r) : Mj v p l e (rmF 11 236) s m args below meth c 4 (MQ below (Qc v (some (.int r.1)) r.2) args s 0 0 (eG v)) 0 S 0 [(0, .ref (eA v (218)))] [] := by
  refine i_aload_n hC dX9_read_0 rfl ?_
  obtain ⟨r1, S1, hc1, hf⟩ := bd2_of hf
  refine i_callVi hC mv_X9_251 (c_X9_isText hC.2.2.2.2.2.2.2.1 hc1) (pln rfl) (lay_p218) rfl rfl rfl rfl ⟨Nat.le_of_ble_eq_true rfl, Nat.le_of_ble_eq_true rfl⟩ (Nat.le_of_ble_eq_true rfl) dX9_read_1 ?_
  refine i_istore_n hC dX9_read_4 (by decide) ?_
  refine i_aload_n hC dX9_read_5 rfl ?_
  refine i_iconst hC dX9_read_6 li_0 ?_
  refine i_putI hC fl_X9_182 (pln rfl) (lay_p218) rfl (bk_l ⟨rfl, rfl, rfl, rfl⟩) (nf_int _) dX9_read_7 ?_
  refine i_iload_n hC dX9_read_10 rfl ?_
  refine i_if_ne hC (tgt := 25) dX9_read_11 (by decide) (fun c2 => ?_) (fun c2 => ?_)
  · replace hf := (if_neg c2).symm.trans hf
    refine i_aload_n hC dX9_read_25 rfl ?_
    obtain ⟨S3, hc3, hf⟩ := bd1_of hf
    refine i_callVv hC mv_X9_96 (c_X9_keeps hC.2.2.2.2.2.2.2.1 hc3) (pln rfl) (lay_p218) rfl rfl rfl rfl ⟨Nat.le_of_ble_eq_true rfl, Nat.le_of_ble_eq_true rfl⟩ (Nat.le_of_ble_eq_true rfl) dX9_read_26 ?_
    refine i_iconst hC dX9_read_29 li_0 ?_
    refine i_istore_n hC dX9_read_30 (by decide) ?_
    exact Mj.to (b_X9_read_31 hC  hf) ⟨rfl, rfl, trivial⟩
  · replace hf := (if_pos c2).symm.trans hf
    refine i_aload_n hC dX9_read_14 rfl ?_
    refine i_aload_n hC dX9_read_15 rfl ?_
    refine i_getI hC fl_X9_185 (pln rfl) (lay_p218) rfl dX9_read_16 ?_
    refine i_putI hC fl_X9_25 (pln rfl) (lay_p218) rfl (bk_l ⟨rfl, rfl, rfl, rfl⟩) (nf_int _) dX9_read_19 ?_
    refine i_bipush hC dX9_read_22 lb_m2 ?_
    obtain rfl := Option.some.inj hf
    exact i_iret hC dX9_read_24
theorem c_X9_read {v : EV} {l : Launch} (hst : Stb v) {S : Mem}  {r : Int32 × Mem} (hf : g_X9_read S = some r) : Con v l yX9_read cX9_read 4 (some .int) 11 236 [.ref (eA v (218))] S (some (.int r.1)) r.2 := con_of (by decide) hst (Nat.le_of_ble_eq_true rfl) (fun p e s m args below meth c hC => b_X9_read_0 hC  hf)
