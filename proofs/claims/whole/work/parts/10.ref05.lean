def f_X9_comes_66 (S : Mem)  : Option (Int32 × Mem) := some ((-3 : Int32), S)
def f_X9_comes_58 (S : Mem) (x1 : Int32) (xt0 : Int32) : Option (Int32 × Mem) := bd2 (g_X9_isRefused S xt0 (1 : Int32) (5 : Int32)) (fun r7 S7 => (if r7 = 0 then bd1 (g_X9_sets S7 (S7 20 1) (2 : Int32) x1) (fun S9 => bd1 (g_X9_sets S9 (S7 20 1) (4 : Int32) (-1 : Int32)) (fun S10 => bd1 (g_X9_sets S10 (S7 20 1) (7 : Int32) (1 : Int32)) (fun S11 => some ((S7 20 1), (up S11 20 1 ((S11 20 1) + (1 : Int32))))))) else f_X9_comes_66 S7))
def f_X9_comes_28 (S : Mem) (x1 : Int32) (xt0 : Int32) : Option (Int32 × Mem) := bd2 (g_X9_isRefused S xt0 (7 : Int32) (S 20 2)) (fun r4 S4 => (if r4 = 0 then (if (S4 20 1) = (5 : Int32) then f_X9_comes_58 S4 x1 (1 : Int32) else f_X9_comes_58 S4 x1 (0 : Int32)) else f_X9_comes_66 S4))
def f_X9_comes_0 (S : Mem) (x1 : Int32) : Option (Int32 × Mem) := bd1 (g_X9_isIn x1 (1 : Int32) (9 : Int32)) (fun r1 => (if r1 = 0 then some ((-2 : Int32), S) else (if (S 20 2) ≤ 0 then f_X9_comes_28 S x1 (0 : Int32) else f_X9_comes_28 S x1 (1 : Int32))))
def g_X9_comes (S : Mem) (x1 : Int32) : Option (Int32 × Mem) := f_X9_comes_0 S x1
set_option maxHeartbeats 4000000 in
set_option maxRecDepth 100000 in
theorem b_X9_comes_66 {v : EV} {p : Program} {l : Launch} {e : Env} {s : State} {m : MethodId} {args : Array Value} {below : List Frame} {meth : Method} {c : Code} (hC : Cx v p l e s m args meth c RX9 cX9_comes 3 (some .int)) {S : Mem}  {r : Int32 × Mem} (hf : f_X9_comes_66 S = some r) : Mj v p l e (rmF 3 56) s m args below meth c 3 (MQ below (Qc v (some (.int r.1)) r.2) args s 0 0 (eG v)) 0 S 66 [] [] := by
  refine i_bipush hC dX9_comes_66 lb_m3 ?_
  obtain rfl := Option.some.inj hf
  exact i_iret hC dX9_comes_68
set_option maxHeartbeats 4000000 in
set_option maxRecDepth 100000 in
theorem b_X9_comes_58 {v : EV} {p : Program} {l : Launch} {e : Env} {s : State} {m : MethodId} {args : Array Value} {below : List Frame} {meth : Method} {c : Code} (hC : Cx v p l e s m args meth c RX9 cX9_comes 3 (some .int)) {S : Mem} {x1 : Int32} {xt0 : Int32}  {r : Int32 × Mem} (hf : f_X9_comes_58 S x1 xt0 = some r) : Mj v p l e (rmF 3 56) s m args below meth c 3 (MQ below (Qc v (some (.int r.1)) r.2) args s 0 0 (eG v)) 0 S 58 [(0, .ref (eA v (218))), (1, .int x1)] [.int xt0, .ref (eA v (218))] := by
  refine i_iconst hC dX9_comes_58 li_1 ?_
  refine i_iconst hC dX9_comes_59 li_5 ?_
  obtain ⟨r7, S7, hc7, hf⟩ := bd2_of hf
  refine i_callVi hC mv_X9_88 (c_X9_isRefused hC.2.2.2.2.2.2.2.1 hc7) (pln rfl) (lay_p218) rfl rfl rfl rfl ⟨Nat.le_of_ble_eq_true rfl, Nat.le_of_ble_eq_true rfl⟩ (Nat.le_of_ble_eq_true rfl) dX9_comes_60 ?_
  refine i_if_eq hC (tgt := 69) dX9_comes_63 (by decide) (fun c8 => ?_) (fun c8 => ?_)
  · replace hf := (if_pos c8).symm.trans hf
    refine i_aload_n hC dX9_comes_69 rfl ?_
    refine i_getR hC fl_X9_9 (pln rfl) (lay_p218) rfl dX9_comes_70 ?_
    refine i_iconst hC dX9_comes_73 li_1 ?_
    refine i_iald hC (j0 := 1) (pln rfl) (lay_p219) (inb_in (by decide)) (by decide) dX9_comes_74 ?_
    refine i_istore_n hC dX9_comes_75 (by decide) ?_
    refine i_aload_n hC dX9_comes_76 rfl ?_
    refine i_iload_n hC dX9_comes_77 rfl ?_
    refine i_iconst hC dX9_comes_78 li_2 ?_
    refine i_iload_n hC dX9_comes_79 rfl ?_
    obtain ⟨S9, hc9, hf⟩ := bd1_of hf
    refine i_callVv hC mv_X9_92 (c_X9_sets hC.2.2.2.2.2.2.2.1 hc9) (pln rfl) (lay_p218) rfl rfl rfl rfl ⟨Nat.le_of_ble_eq_true rfl, Nat.le_of_ble_eq_true rfl⟩ (Nat.le_of_ble_eq_true rfl) dX9_comes_80 ?_
    refine i_aload_n hC dX9_comes_83 rfl ?_
    refine i_iload_n hC dX9_comes_84 rfl ?_
    refine i_iconst hC dX9_comes_85 li_4 ?_
    refine i_iconst hC dX9_comes_86 li_m1 ?_
    obtain ⟨S10, hc10, hf⟩ := bd1_of hf
    refine i_callVv hC mv_X9_92 (c_X9_sets hC.2.2.2.2.2.2.2.1 hc10) (pln rfl) (lay_p218) rfl rfl rfl rfl ⟨Nat.le_of_ble_eq_true rfl, Nat.le_of_ble_eq_true rfl⟩ (Nat.le_of_ble_eq_true rfl) dX9_comes_87 ?_
    refine i_aload_n hC dX9_comes_90 rfl ?_
    refine i_iload_n hC dX9_comes_91 rfl ?_
    refine i_bipush hC dX9_comes_92 lb_7 ?_
    refine i_iconst hC dX9_comes_94 li_1 ?_
    obtain ⟨S11, hc11, hf⟩ := bd1_of hf
    refine i_callVv hC mv_X9_92 (c_X9_sets hC.2.2.2.2.2.2.2.1 hc11) (pln rfl) (lay_p218) rfl rfl rfl rfl ⟨Nat.le_of_ble_eq_true rfl, Nat.le_of_ble_eq_true rfl⟩ (Nat.le_of_ble_eq_true rfl) dX9_comes_95 ?_
    refine i_aload_n hC dX9_comes_98 rfl ?_
    refine i_getR hC fl_X9_9 (pln rfl) (lay_p218) rfl dX9_comes_99 ?_
    refine i_iconst hC dX9_comes_102 li_1 ?_
    refine i_dup2 hC dX9_comes_103 rfl rfl ?_
    refine i_iald hC (j0 := 1) (pln rfl) (lay_p219) (inb_in (by decide)) (by decide) dX9_comes_104 ?_
    refine i_iconst hC dX9_comes_105 li_1 ?_
    refine i_iadd hC dX9_comes_106 ?_
    refine i_iast hC (j0 := 1) (pln rfl) (lay_p219) (bk_l ⟨rfl, rfl, rfl, rfl⟩) (inb_in (by decide)) (by decide) dX9_comes_107 ?_
    refine i_iload_n hC dX9_comes_108 rfl ?_
    obtain rfl := Option.some.inj hf
    exact i_iret hC dX9_comes_109
  · replace hf := (if_neg c8).symm.trans hf
    exact Mj.to (b_X9_comes_66 hC  hf) trivial
set_option maxHeartbeats 4000000 in
set_option maxRecDepth 100000 in
theorem b_X9_comes_28 {v : EV} {p : Program} {l : Launch} {e : Env} {s : State} {m : MethodId} {args : Array Value} {below : List Frame} {meth : Method} {c : Code} (hC : Cx v p l e s m args meth c RX9 cX9_comes 3 (some .int)) {S : Mem} {x1 : Int32} {xt0 : Int32}  {r : Int32 × Mem} (hf : f_X9_comes_28 S x1 xt0 = some r) : Mj v p l e (rmF 3 56) s m args below meth c 3 (MQ below (Qc v (some (.int r.1)) r.2) args s 0 0 (eG v)) 0 S 28 [(0, .ref (eA v (218))), (1, .int x1)] [.int xt0, .ref (eA v (218))] := by
  refine i_bipush hC dX9_comes_28 lb_7 ?_
  refine i_aload_n hC dX9_comes_30 rfl ?_
  refine i_getR hC fl_X9_9 (pln rfl) (lay_p218) rfl dX9_comes_31 ?_
  refine i_iconst hC dX9_comes_34 li_2 ?_
  refine i_iald hC (j0 := 2) (pln rfl) (lay_p219) (inb_in (by decide)) (by decide) dX9_comes_35 ?_
  obtain ⟨r4, S4, hc4, hf⟩ := bd2_of hf
  refine i_callVi hC mv_X9_88 (c_X9_isRefused hC.2.2.2.2.2.2.2.1 hc4) (pln rfl) (lay_p218) rfl rfl rfl rfl ⟨Nat.le_of_ble_eq_true rfl, Nat.le_of_ble_eq_true rfl⟩ (Nat.le_of_ble_eq_true rfl) dX9_comes_36 ?_
  refine i_if_ne hC (tgt := 66) dX9_comes_39 (by decide) (fun c5 => ?_) (fun c5 => ?_)
  · replace hf := (if_neg c5).symm.trans hf
    exact Mj.to (b_X9_comes_66 hC  hf) trivial
  · replace hf := (if_pos c5).symm.trans hf
    refine i_aload_n hC dX9_comes_42 rfl ?_
    refine i_aload_n hC dX9_comes_43 rfl ?_
    refine i_getR hC fl_X9_9 (pln rfl) (lay_p218) rfl dX9_comes_44 ?_
    refine i_iconst hC dX9_comes_47 li_1 ?_
    refine i_iald hC (j0 := 1) (pln rfl) (lay_p219) (inb_in (by decide)) (by decide) dX9_comes_48 ?_
    refine i_iconst hC dX9_comes_49 li_5 ?_
    refine i_icmp_ne hC (tgt := 57) dX9_comes_50 (by decide) (fun c6 => ?_) (fun c6 => ?_)
    · replace hf := (if_neg c6).symm.trans hf
      refine i_iconst hC dX9_comes_57 li_0 ?_
      exact Mj.to (b_X9_comes_58 hC  hf) ⟨rfl, rfl, trivial⟩
    · replace hf := (if_pos c6).symm.trans hf
      refine i_iconst hC dX9_comes_53 li_1 ?_
      refine i_goto hC (tgt := 58) dX9_comes_54 (by decide) ?_
      exact Mj.to (b_X9_comes_58 hC  hf) ⟨rfl, rfl, trivial⟩
set_option maxHeartbeats 4000000 in
set_option maxRecDepth 100000 in
theorem b_X9_comes_0 {v : EV} {p : Program} {l : Launch} {e : Env} {s : State} {m : MethodId} {args : Array Value} {below : List Frame} {meth : Method} {c : Code} (hC : Cx v p l e s m args meth c RX9 cX9_comes 3 (some .int)) {S : Mem} {x1 : Int32}  {r : Int32 × Mem} (hf : f_X9_comes_0 S x1 = some r) : Mj v p l e (rmF 3 56) s m args below meth c 3 (MQ below (Qc v (some (.int r.1)) r.2) args s 0 0 (eG v)) 0 S 0 [(0, .ref (eA v (218))), (1, .int x1)] [] := by
  refine i_iload_n hC dX9_comes_0 rfl ?_
  refine i_iconst hC dX9_comes_1 li_1 ?_
  refine i_bipush hC dX9_comes_2 lb_9 ?_
  obtain ⟨r1, hc1, hf⟩ := bd1_of hf
  refine i_callSi hC mv_X9_61 (c_X9_isIn hC.2.2.2.2.2.2.2.1 hc1) rfl rfl rfl ⟨Nat.le_of_ble_eq_true rfl, Nat.le_of_ble_eq_true rfl⟩ (Nat.le_of_ble_eq_true rfl) dX9_comes_4 ?_
  refine i_if_ne hC (tgt := 13) dX9_comes_7 (by decide) (fun c2 => ?_) (fun c2 => ?_)
  · replace hf := (if_neg c2).symm.trans hf
    refine i_aload_n hC dX9_comes_13 rfl ?_
    refine i_aload_n hC dX9_comes_14 rfl ?_
    refine i_getR hC fl_X9_9 (pln rfl) (lay_p218) rfl dX9_comes_15 ?_
    refine i_iconst hC dX9_comes_18 li_2 ?_
    refine i_iald hC (j0 := 2) (pln rfl) (lay_p219) (inb_in (by decide)) (by decide) dX9_comes_19 ?_
    refine i_if_le hC (tgt := 27) dX9_comes_20 (by decide) (fun c3 => ?_) (fun c3 => ?_)
    · replace hf := (if_pos c3).symm.trans hf
      refine i_iconst hC dX9_comes_27 li_0 ?_
      exact Mj.to (b_X9_comes_28 hC  hf) ⟨rfl, rfl, trivial⟩
    · replace hf := (if_neg c3).symm.trans hf
      refine i_iconst hC dX9_comes_23 li_1 ?_
      refine i_goto hC (tgt := 28) dX9_comes_24 (by decide) ?_
      exact Mj.to (b_X9_comes_28 hC  hf) ⟨rfl, rfl, trivial⟩
  · replace hf := (if_pos c2).symm.trans hf
    refine i_bipush hC dX9_comes_10 lb_m2 ?_
    obtain rfl := Option.some.inj hf
    exact i_iret hC dX9_comes_12
theorem c_X9_comes {v : EV} {l : Launch} (hst : Stb v) {S : Mem} {x1 : Int32}  {r : Int32 × Mem} (hf : g_X9_comes S x1 = some r) : Con v l yX9_comes cX9_comes 3 (some .int) 3 56 [.ref (eA v (218)), .int x1] S (some (.int r.1)) r.2 := con_of (by decide) hst (Nat.le_of_ble_eq_true rfl) (fun p e s m args below meth c hC => b_X9_comes_0 hC  hf)
def f_X9_isWashed_14 (S : Mem) (x1 : Int32) (xt0 : Int32) : Option (Int32 × Mem) := bd2 (g_X9_isRefused S xt0 (2 : Int32) x1) (fun r3 S3 => ck (isb r3) (some (r3, S3)))
def f_X9_isWashed_0 (S : Mem) (x1 : Int32) : Option (Int32 × Mem) := bd1 (g_X9_isAboard S x1) (fun r1 => (if r1 = 0 then f_X9_isWashed_14 S x1 (1 : Int32) else f_X9_isWashed_14 S x1 (0 : Int32)))
def g_X9_isWashed (S : Mem) (x1 : Int32) : Option (Int32 × Mem) := f_X9_isWashed_0 S x1
set_option maxHeartbeats 4000000 in
set_option maxRecDepth 100000 in
theorem b_X9_isWashed_14 {v : EV} {p : Program} {l : Launch} {e : Env} {s : State} {m : MethodId} {args : Array Value} {below : List Frame} {meth : Method} {c : Code} (hC : Cx v p l e s m args meth c RX9 cX9_isWashed 2 (some .boolean)) {S : Mem} {x1 : Int32} {xt0 : Int32}  {r : Int32 × Mem} (hf : f_X9_isWashed_14 S x1 xt0 = some r) : Mj v p l e (rmF 4 76) s m args below meth c 2 (MQ below (Qc v (some (.int r.1)) r.2) args s 0 0 (eG v)) 0 S 14 [(1, .int x1)] [.int xt0, .ref (eA v (218))] := by
  refine i_iconst hC dX9_isWashed_14 li_2 ?_
  refine i_iload_n hC dX9_isWashed_15 rfl ?_
  obtain ⟨r3, S3, hc3, hf⟩ := bd2_of hf
  refine i_callVi hC mv_X9_88 (c_X9_isRefused hC.2.2.2.2.2.2.2.1 hc3) (pln rfl) (lay_p218) rfl rfl rfl rfl ⟨Nat.le_of_ble_eq_true rfl, Nat.le_of_ble_eq_true rfl⟩ (Nat.le_of_ble_eq_true rfl) dX9_isWashed_16 ?_
  obtain ⟨k4, hf⟩ := ck_of hf
  obtain rfl := Option.some.inj hf
  exact i_zret hC dX9_isWashed_19 (isb_z k4).1
set_option maxHeartbeats 4000000 in
set_option maxRecDepth 100000 in
theorem b_X9_isWashed_0 {v : EV} {p : Program} {l : Launch} {e : Env} {s : State} {m : MethodId} {args : Array Value} {below : List Frame} {meth : Method} {c : Code} (hC : Cx v p l e s m args meth c RX9 cX9_isWashed 2 (some .boolean)) {S : Mem} {x1 : Int32}  {r : Int32 × Mem} (hf : f_X9_isWashed_0 S x1 = some r) : Mj v p l e (rmF 4 76) s m args below meth c 2 (MQ below (Qc v (some (.int r.1)) r.2) args s 0 0 (eG v)) 0 S 0 [(0, .ref (eA v (218))), (1, .int x1)] [] := by
  refine i_aload_n hC dX9_isWashed_0 rfl ?_
  refine i_aload_n hC dX9_isWashed_1 rfl ?_
  refine i_iload_n hC dX9_isWashed_2 rfl ?_
  obtain ⟨r1, hc1, hf⟩ := bd1_of hf
  refine i_callVi hC mv_X9_78 (c_X9_isAboard hC.2.2.2.2.2.2.2.1 hc1) (pln rfl) (lay_p218) rfl rfl rfl rfl ⟨Nat.le_of_ble_eq_true rfl, Nat.le_of_ble_eq_true rfl⟩ (Nat.le_of_ble_eq_true rfl) dX9_isWashed_3 ?_
  refine i_if_ne hC (tgt := 13) dX9_isWashed_6 (by decide) (fun c2 => ?_) (fun c2 => ?_)
  · replace hf := (if_neg c2).symm.trans hf
    refine i_iconst hC dX9_isWashed_13 li_0 ?_
    exact Mj.to (b_X9_isWashed_14 hC  hf) ⟨rfl, trivial⟩
  · replace hf := (if_pos c2).symm.trans hf
    refine i_iconst hC dX9_isWashed_9 li_1 ?_
    refine i_goto hC (tgt := 14) dX9_isWashed_10 (by decide) ?_
    exact Mj.to (b_X9_isWashed_14 hC  hf) ⟨rfl, trivial⟩
theorem c_X9_isWashed {v : EV} {l : Launch} (hst : Stb v) {S : Mem} {x1 : Int32}  {r : Int32 × Mem} (hf : g_X9_isWashed S x1 = some r) : Con v l yX9_isWashed cX9_isWashed 2 (some .boolean) 4 76 [.ref (eA v (218)), .int x1] S (some (.int r.1)) r.2 := con_of (by decide) hst (Nat.le_of_ble_eq_true rfl) (fun p e s m args below meth c hC => b_X9_isWashed_0 hC  hf)
def f_X9_isReached_40 (S : Mem) (xt0 : Int32) : Option (Int32) := ck (isb xt0) (some xt0)
def f_X9_isReached_39 (S : Mem)  : Option (Int32) := f_X9_isReached_40 S (0 : Int32)
def f_X9_isReached_0 (S : Mem) (x1 : Int32) (x2 : Int32) : Option (Int32) := (if x1 = x2 then f_X9_isReached_39 S else bd1 (g_X9_isAboard S x1) (fun r3 => (if r3 = 0 then f_X9_isReached_39 S else bd1 (g_X9_isAboard S x2) (fun r5 => (if r5 = 0 then f_X9_isReached_39 S else bd1 (g_X9_ropeAt x1 x2) (fun r7 => ck (inb r7 203) ((if (S 20 ((r7).toNatClampNeg)) = 0 then f_X9_isReached_40 S (1 : Int32) else f_X9_isReached_39 S))))))))
def g_X9_isReached (S : Mem) (x1 : Int32) (x2 : Int32) : Option (Int32) := f_X9_isReached_0 S x1 x2
set_option maxHeartbeats 4000000 in
set_option maxRecDepth 100000 in
theorem b_X9_isReached_40 {v : EV} {p : Program} {l : Launch} {e : Env} {s : State} {m : MethodId} {args : Array Value} {below : List Frame} {meth : Method} {c : Code} (hC : Cx v p l e s m args meth c RX9 cX9_isReached 3 (some .boolean)) {S : Mem} {xt0 : Int32}  {r : Int32} (hf : f_X9_isReached_40 S xt0 = some r) : Mj v p l e (rmF 4 76) s m args below meth c 3 (MQ below (Qc v (some (.int r)) S) args s 0 0 (eG v)) 0 S 40 [] [.int xt0] := by
  obtain ⟨k2, hf⟩ := ck_of hf
  obtain rfl := Option.some.inj hf
  exact i_zret hC dX9_isReached_40 (isb_z k2).1
set_option maxHeartbeats 4000000 in
set_option maxRecDepth 100000 in
theorem b_X9_isReached_39 {v : EV} {p : Program} {l : Launch} {e : Env} {s : State} {m : MethodId} {args : Array Value} {below : List Frame} {meth : Method} {c : Code} (hC : Cx v p l e s m args meth c RX9 cX9_isReached 3 (some .boolean)) {S : Mem}  {r : Int32} (hf : f_X9_isReached_39 S = some r) : Mj v p l e (rmF 4 76) s m args below meth c 3 (MQ below (Qc v (some (.int r)) S) args s 0 0 (eG v)) 0 S 39 [] [] := by
  refine i_iconst hC dX9_isReached_39 li_0 ?_
  exact Mj.to (b_X9_isReached_40 hC  hf) trivial
set_option maxHeartbeats 4000000 in
set_option maxRecDepth 100000 in
theorem b_X9_isReached_0 {v : EV} {p : Program} {l : Launch} {e : Env} {s : State} {m : MethodId} {args : Array Value} {below : List Frame} {meth : Method} {c : Code} (hC : Cx v p l e s m args meth c RX9 cX9_isReached 3 (some .boolean)) {S : Mem} {x1 : Int32} {x2 : Int32}  {r : Int32} (hf : f_X9_isReached_0 S x1 x2 = some r) : Mj v p l e (rmF 4 76) s m args below meth c 3 (MQ below (Qc v (some (.int r)) S) args s 0 0 (eG v)) 0 S 0 [(0, .ref (eA v (218))), (1, .int x1), (2, .int x2)] [] := by
  refine i_iload_n hC dX9_isReached_0 rfl ?_
  refine i_iload_n hC dX9_isReached_1 rfl ?_
  refine i_icmp_eq hC (tgt := 39) dX9_isReached_2 (by decide) (fun c1 => ?_) (fun c1 => ?_)
  · replace hf := (if_pos c1).symm.trans hf
    exact Mj.to (b_X9_isReached_39 hC  hf) trivial
  · replace hf := (if_neg c1).symm.trans hf
    refine i_aload_n hC dX9_isReached_5 rfl ?_
    refine i_iload_n hC dX9_isReached_6 rfl ?_
    obtain ⟨r3, hc3, hf⟩ := bd1_of hf
    refine i_callVi hC mv_X9_78 (c_X9_isAboard hC.2.2.2.2.2.2.2.1 hc3) (pln rfl) (lay_p218) rfl rfl rfl rfl ⟨Nat.le_of_ble_eq_true rfl, Nat.le_of_ble_eq_true rfl⟩ (Nat.le_of_ble_eq_true rfl) dX9_isReached_7 ?_
    refine i_if_eq hC (tgt := 39) dX9_isReached_10 (by decide) (fun c4 => ?_) (fun c4 => ?_)
    · replace hf := (if_pos c4).symm.trans hf
      exact Mj.to (b_X9_isReached_39 hC  hf) trivial
    · replace hf := (if_neg c4).symm.trans hf
      refine i_aload_n hC dX9_isReached_13 rfl ?_
      refine i_iload_n hC dX9_isReached_14 rfl ?_
      obtain ⟨r5, hc5, hf⟩ := bd1_of hf
      refine i_callVi hC mv_X9_78 (c_X9_isAboard hC.2.2.2.2.2.2.2.1 hc5) (pln rfl) (lay_p218) rfl rfl rfl rfl ⟨Nat.le_of_ble_eq_true rfl, Nat.le_of_ble_eq_true rfl⟩ (Nat.le_of_ble_eq_true rfl) dX9_isReached_15 ?_
      refine i_if_eq hC (tgt := 39) dX9_isReached_18 (by decide) (fun c6 => ?_) (fun c6 => ?_)
      · replace hf := (if_pos c6).symm.trans hf
        exact Mj.to (b_X9_isReached_39 hC  hf) trivial
      · replace hf := (if_neg c6).symm.trans hf
        refine i_aload_n hC dX9_isReached_21 rfl ?_
        refine i_getR hC fl_X9_9 (pln rfl) (lay_p218) rfl dX9_isReached_22 ?_
        refine i_aload_n hC dX9_isReached_25 rfl ?_
        refine i_iload_n hC dX9_isReached_26 rfl ?_
        refine i_iload_n hC dX9_isReached_27 rfl ?_
        obtain ⟨r7, hc7, hf⟩ := bd1_of hf
        refine i_callVi hC mv_X9_81 (c_X9_ropeAt hC.2.2.2.2.2.2.2.1 hc7) (pln rfl) (lay_p218) rfl rfl rfl rfl ⟨Nat.le_of_ble_eq_true rfl, Nat.le_of_ble_eq_true rfl⟩ (Nat.le_of_ble_eq_true rfl) dX9_isReached_28 ?_
        obtain ⟨k8, hf⟩ := ck_of hf
        refine i_iald hC (j0 := ((r7).toNatClampNeg)) (pln rfl) (lay_p219) (inb_in k8) (Nat.zero_add _) dX9_isReached_31 ?_
        refine i_if_ne hC (tgt := 39) dX9_isReached_32 (by decide) (fun c9 => ?_) (fun c9 => ?_)
        · replace hf := (if_neg c9).symm.trans hf
          exact Mj.to (b_X9_isReached_39 hC  hf) trivial
        · replace hf := (if_pos c9).symm.trans hf
          refine i_iconst hC dX9_isReached_35 li_1 ?_
          refine i_goto hC (tgt := 40) dX9_isReached_36 (by decide) ?_
          exact Mj.to (b_X9_isReached_40 hC  hf) trivial
theorem c_X9_isReached {v : EV} {l : Launch} (hst : Stb v) {S : Mem} {x1 x2 : Int32}  {r : Int32} (hf : g_X9_isReached S x1 x2 = some r) : Con v l yX9_isReached cX9_isReached 3 (some .boolean) 4 76 [.ref (eA v (218)), .int x1, .int x2] S (some (.int r)) S := con_of (by decide) hst (Nat.le_of_ble_eq_true rfl) (fun p e s m args below meth c hC => b_X9_isReached_0 hC  hf)
def f_X9_votes_79 (S : Mem) (x3 : Int32) : Option (Int32 × Mem) := ck (isb x3) (some (x3, S))
def f_X9_votes_49 (S : Mem) (x1 : Int32) (x2 : Int32) (xt0 : Int32) : Option (Int32 × Mem) := (if xt0 = 0 then f_X9_votes_79 S xt0 else bd1 (g_X9_sets S x1 (4 : Int32) x2) (fun S6 => bd1 (g_X9_sets S6 x1 (3 : Int32) (0 : Int32)) (fun S7 => f_X9_votes_79 (up S7 20 7 ((S7 20 7) + (1 : Int32))) xt0)))
def f_X9_votes_48 (S : Mem) (x1 : Int32) (x2 : Int32) : Option (Int32 × Mem) := f_X9_votes_49 S x1 x2 (0 : Int32)
def f_X9_votes_35 (S : Mem) (x1 : Int32) (x2 : Int32) : Option (Int32 × Mem) := bd1 (g_X9_longerOf S x1 x2) (fun r10 => (if 0 < r10 then f_X9_votes_48 S x1 x2 else f_X9_votes_49 S x1 x2 (1 : Int32)))
def f_X9_votes_0 (S : Mem) (x1 : Int32) (x2 : Int32) : Option (Int32 × Mem) := bd1 (g_X9_of S x1 (1 : Int32)) (fun r1 => bd1 (g_X9_of S x2 (1 : Int32)) (fun r2 => (if r1 = r2 then bd1 (g_X9_of S x1 (4 : Int32)) (fun r8 => (if r8 = (-1 : Int32) then f_X9_votes_35 S x1 x2 else bd1 (g_X9_of S x1 (4 : Int32)) (fun r12 => (if r12 = x2 then f_X9_votes_35 S x1 x2 else f_X9_votes_48 S x1 x2)))) else f_X9_votes_48 S x1 x2)))
def g_X9_votes (S : Mem) (x1 : Int32) (x2 : Int32) : Option (Int32 × Mem) := f_X9_votes_0 S x1 x2
set_option maxHeartbeats 4000000 in
set_option maxRecDepth 100000 in
theorem b_X9_votes_79 {v : EV} {p : Program} {l : Launch} {e : Env} {s : State} {m : MethodId} {args : Array Value} {below : List Frame} {meth : Method} {c : Code} (hC : Cx v p l e s m args meth c RX9 cX9_votes 4 (some .boolean)) {S : Mem} {x3 : Int32}  {r : Int32 × Mem} (hf : f_X9_votes_79 S x3 = some r) : Mj v p l e (rmF 5 100) s m args below meth c 4 (MQ below (Qc v (some (.int r.1)) r.2) args s 0 0 (eG v)) 0 S 79 [(3, .int x3)] [] := by
  refine i_iload_n hC dX9_votes_79 rfl ?_
  obtain ⟨k5, hf⟩ := ck_of hf
  obtain rfl := Option.some.inj hf
  exact i_zret hC dX9_votes_80 (isb_z k5).1
set_option maxHeartbeats 4000000 in
set_option maxRecDepth 100000 in
theorem b_X9_votes_49 {v : EV} {p : Program} {l : Launch} {e : Env} {s : State} {m : MethodId} {args : Array Value} {below : List Frame} {meth : Method} {c : Code} (hC : Cx v p l e s m args meth c RX9 cX9_votes 4 (some .boolean)) {S : Mem} {x1 : Int32} {x2 : Int32} {xt0 : Int32}  {r : Int32 × Mem} (hf : f_X9_votes_49 S x1 x2 xt0 = some r) : Mj v p l e (rmF 5 100) s m args below meth c 4 (MQ below (Qc v (some (.int r.1)) r.2) args s 0 0 (eG v)) 0 S 49 [(0, .ref (eA v (218))), (1, .int x1), (2, .int x2)] [.int xt0] := by
  refine i_istore_n hC dX9_votes_49 (by decide) ?_
  refine i_iload_n hC dX9_votes_50 rfl ?_
  refine i_if_eq hC (tgt := 79) dX9_votes_51 (by decide) (fun c4 => ?_) (fun c4 => ?_)
  · replace hf := (if_pos c4).symm.trans hf
    exact Mj.to (b_X9_votes_79 hC  hf) ⟨rfl, trivial⟩
  · replace hf := (if_neg c4).symm.trans hf
    refine i_aload_n hC dX9_votes_54 rfl ?_
    refine i_iload_n hC dX9_votes_55 rfl ?_
    refine i_iconst hC dX9_votes_56 li_4 ?_
    refine i_iload_n hC dX9_votes_57 rfl ?_
    obtain ⟨S6, hc6, hf⟩ := bd1_of hf
    refine i_callVv hC mv_X9_92 (c_X9_sets hC.2.2.2.2.2.2.2.1 hc6) (pln rfl) (lay_p218) rfl rfl rfl rfl ⟨Nat.le_of_ble_eq_true rfl, Nat.le_of_ble_eq_true rfl⟩ (Nat.le_of_ble_eq_true rfl) dX9_votes_58 ?_
    refine i_aload_n hC dX9_votes_61 rfl ?_
    refine i_iload_n hC dX9_votes_62 rfl ?_
    refine i_iconst hC dX9_votes_63 li_3 ?_
    refine i_iconst hC dX9_votes_64 li_0 ?_
    obtain ⟨S7, hc7, hf⟩ := bd1_of hf
    refine i_callVv hC mv_X9_92 (c_X9_sets hC.2.2.2.2.2.2.2.1 hc7) (pln rfl) (lay_p218) rfl rfl rfl rfl ⟨Nat.le_of_ble_eq_true rfl, Nat.le_of_ble_eq_true rfl⟩ (Nat.le_of_ble_eq_true rfl) dX9_votes_65 ?_
    refine i_aload_n hC dX9_votes_68 rfl ?_
    refine i_getR hC fl_X9_9 (pln rfl) (lay_p218) rfl dX9_votes_69 ?_
    refine i_bipush hC dX9_votes_72 lb_7 ?_
    refine i_dup2 hC dX9_votes_74 rfl rfl ?_
    refine i_iald hC (j0 := 7) (pln rfl) (lay_p219) (inb_in (by decide)) (by decide) dX9_votes_75 ?_
    refine i_iconst hC dX9_votes_76 li_1 ?_
    refine i_iadd hC dX9_votes_77 ?_
    refine i_iast hC (j0 := 7) (pln rfl) (lay_p219) (bk_l ⟨rfl, rfl, rfl, rfl⟩) (inb_in (by decide)) (by decide) dX9_votes_78 ?_
    exact Mj.to (b_X9_votes_79 hC  hf) ⟨rfl, trivial⟩
set_option maxHeartbeats 4000000 in
set_option maxRecDepth 100000 in
theorem b_X9_votes_48 {v : EV} {p : Program} {l : Launch} {e : Env} {s : State} {m : MethodId} {args : Array Value} {below : List Frame} {meth : Method} {c : Code} (hC : Cx v p l e s m args meth c RX9 cX9_votes 4 (some .boolean)) {S : Mem} {x1 : Int32} {x2 : Int32}  {r : Int32 × Mem} (hf : f_X9_votes_48 S x1 x2 = some r) : Mj v p l e (rmF 5 100) s m args below meth c 4 (MQ below (Qc v (some (.int r.1)) r.2) args s 0 0 (eG v)) 0 S 48 [(0, .ref (eA v (218))), (1, .int x1), (2, .int x2)] [] := by
  refine i_iconst hC dX9_votes_48 li_0 ?_
  exact Mj.to (b_X9_votes_49 hC  hf) ⟨rfl, rfl, rfl, trivial⟩
set_option maxHeartbeats 4000000 in
set_option maxRecDepth 100000 in
theorem b_X9_votes_35 {v : EV} {p : Program} {l : Launch} {e : Env} {s : State} {m : MethodId} {args : Array Value} {below : List Frame} {meth : Method} {c : Code} (hC : Cx v p l e s m args meth c RX9 cX9_votes 4 (some .boolean)) {S : Mem} {x1 : Int32} {x2 : Int32}  {r : Int32 × Mem} (hf : f_X9_votes_35 S x1 x2 = some r) : Mj v p l e (rmF 5 100) s m args below meth c 4 (MQ below (Qc v (some (.int r.1)) r.2) args s 0 0 (eG v)) 0 S 35 [(0, .ref (eA v (218))), (1, .int x1), (2, .int x2)] [] := by
  refine i_aload_n hC dX9_votes_35 rfl ?_
  refine i_iload_n hC dX9_votes_36 rfl ?_
  refine i_iload_n hC dX9_votes_37 rfl ?_
  obtain ⟨r10, hc10, hf⟩ := bd1_of hf
  refine i_callVi hC mv_X9_105 (c_X9_longerOf hC.2.2.2.2.2.2.2.1 hc10) (pln rfl) (lay_p218) rfl rfl rfl rfl ⟨Nat.le_of_ble_eq_true rfl, Nat.le_of_ble_eq_true rfl⟩ (Nat.le_of_ble_eq_true rfl) dX9_votes_38 ?_
  refine i_if_gt hC (tgt := 48) dX9_votes_41 (by decide) (fun c11 => ?_) (fun c11 => ?_)
  · replace hf := (if_pos c11).symm.trans hf
    exact Mj.to (b_X9_votes_48 hC  hf) ⟨rfl, rfl, rfl, trivial⟩
  · replace hf := (if_neg c11).symm.trans hf
    refine i_iconst hC dX9_votes_44 li_1 ?_
    refine i_goto hC (tgt := 49) dX9_votes_45 (by decide) ?_
    exact Mj.to (b_X9_votes_49 hC  hf) ⟨rfl, rfl, rfl, trivial⟩
set_option maxHeartbeats 4000000 in
set_option maxRecDepth 100000 in
theorem b_X9_votes_0 {v : EV} {p : Program} {l : Launch} {e : Env} {s : State} {m : MethodId} {args : Array Value} {below : List Frame} {meth : Method} {c : Code} (hC : Cx v p l e s m args meth c RX9 cX9_votes 4 (some .boolean)) {S : Mem} {x1 : Int32} {x2 : Int32}  {r : Int32 × Mem} (hf : f_X9_votes_0 S x1 x2 = some r) : Mj v p l e (rmF 5 100) s m args below meth c 4 (MQ below (Qc v (some (.int r.1)) r.2) args s 0 0 (eG v)) 0 S 0 [(0, .ref (eA v (218))), (1, .int x1), (2, .int x2)] [] := by
  refine i_aload_n hC dX9_votes_0 rfl ?_
  refine i_iload_n hC dX9_votes_1 rfl ?_
  refine i_iconst hC dX9_votes_2 li_1 ?_
  obtain ⟨r1, hc1, hf⟩ := bd1_of hf
  refine i_callVi hC mv_X9_69 (c_X9_of hC.2.2.2.2.2.2.2.1 hc1) (pln rfl) (lay_p218) rfl rfl rfl rfl ⟨Nat.le_of_ble_eq_true rfl, Nat.le_of_ble_eq_true rfl⟩ (Nat.le_of_ble_eq_true rfl) dX9_votes_3 ?_
  refine i_aload_n hC dX9_votes_6 rfl ?_
  refine i_iload_n hC dX9_votes_7 rfl ?_
  refine i_iconst hC dX9_votes_8 li_1 ?_
  obtain ⟨r2, hc2, hf⟩ := bd1_of hf
  refine i_callVi hC mv_X9_69 (c_X9_of hC.2.2.2.2.2.2.2.1 hc2) (pln rfl) (lay_p218) rfl rfl rfl rfl ⟨Nat.le_of_ble_eq_true rfl, Nat.le_of_ble_eq_true rfl⟩ (Nat.le_of_ble_eq_true rfl) dX9_votes_9 ?_
  refine i_icmp_ne hC (tgt := 48) dX9_votes_12 (by decide) (fun c3 => ?_) (fun c3 => ?_)
  · replace hf := (if_neg c3).symm.trans hf
    exact Mj.to (b_X9_votes_48 hC  hf) ⟨rfl, rfl, rfl, trivial⟩
  · replace hf := (if_pos c3).symm.trans hf
    refine i_aload_n hC dX9_votes_15 rfl ?_
    refine i_iload_n hC dX9_votes_16 rfl ?_
    refine i_iconst hC dX9_votes_17 li_4 ?_
    obtain ⟨r8, hc8, hf⟩ := bd1_of hf
    refine i_callVi hC mv_X9_69 (c_X9_of hC.2.2.2.2.2.2.2.1 hc8) (pln rfl) (lay_p218) rfl rfl rfl rfl ⟨Nat.le_of_ble_eq_true rfl, Nat.le_of_ble_eq_true rfl⟩ (Nat.le_of_ble_eq_true rfl) dX9_votes_18 ?_
    refine i_iconst hC dX9_votes_21 li_m1 ?_
    refine i_icmp_eq hC (tgt := 35) dX9_votes_22 (by decide) (fun c9 => ?_) (fun c9 => ?_)
    · replace hf := (if_pos c9).symm.trans hf
      exact Mj.to (b_X9_votes_35 hC  hf) ⟨rfl, rfl, rfl, trivial⟩
    · replace hf := (if_neg c9).symm.trans hf
      refine i_aload_n hC dX9_votes_25 rfl ?_
      refine i_iload_n hC dX9_votes_26 rfl ?_
      refine i_iconst hC dX9_votes_27 li_4 ?_
      obtain ⟨r12, hc12, hf⟩ := bd1_of hf
      refine i_callVi hC mv_X9_69 (c_X9_of hC.2.2.2.2.2.2.2.1 hc12) (pln rfl) (lay_p218) rfl rfl rfl rfl ⟨Nat.le_of_ble_eq_true rfl, Nat.le_of_ble_eq_true rfl⟩ (Nat.le_of_ble_eq_true rfl) dX9_votes_28 ?_
      refine i_iload_n hC dX9_votes_31 rfl ?_
      refine i_icmp_ne hC (tgt := 48) dX9_votes_32 (by decide) (fun c13 => ?_) (fun c13 => ?_)
      · replace hf := (if_neg c13).symm.trans hf
        exact Mj.to (b_X9_votes_48 hC  hf) ⟨rfl, rfl, rfl, trivial⟩
      · replace hf := (if_pos c13).symm.trans hf
        exact Mj.to (b_X9_votes_35 hC  hf) ⟨rfl, rfl, rfl, trivial⟩
theorem c_X9_votes {v : EV} {l : Launch} (hst : Stb v) {S : Mem} {x1 x2 : Int32}  {r : Int32 × Mem} (hf : g_X9_votes S x1 x2 = some r) : Con v l yX9_votes cX9_votes 4 (some .boolean) 5 100 [.ref (eA v (218)), .int x1, .int x2] S (some (.int r.1)) r.2 := con_of (by decide) hst (Nat.le_of_ble_eq_true rfl) (fun p e s m args below meth c hC => b_X9_votes_0 hC  hf)
def f_X9_isNoLeader_42 (S : Mem) (xt0 : Int32) : Option (Int32 × Mem) := ck (isb xt0) (some (xt0, S))
def f_X9_isNoLeader_37 (S : Mem)  : Option (Int32 × Mem) := f_X9_isNoLeader_42 S (1 : Int32)
def f_X9_isNoLeader_24 (S : Mem) (x1 : Int32) (xt0 : Int32) : Option (Int32 × Mem) := bd1 (g_X9_of S x1 (1 : Int32)) (fun r6 => bd2 (g_X9_isRefused S xt0 (4 : Int32) r6) (fun r7 S7 => (if r7 = 0 then f_X9_isNoLeader_42 S7 (0 : Int32) else f_X9_isNoLeader_37 S7)))
def f_X9_isNoLeader_0 (S : Mem) (x1 : Int32) : Option (Int32 × Mem) := bd2 (g_X9_isWashed S x1) (fun r1 S1 => (if r1 = 0 then bd1 (g_X9_of S1 x1 (0 : Int32)) (fun r4 => (if r4 = (2 : Int32) then f_X9_isNoLeader_24 S1 x1 (0 : Int32) else f_X9_isNoLeader_24 S1 x1 (1 : Int32))) else f_X9_isNoLeader_37 S1))
def g_X9_isNoLeader (S : Mem) (x1 : Int32) : Option (Int32 × Mem) := f_X9_isNoLeader_0 S x1
set_option maxHeartbeats 4000000 in
set_option maxRecDepth 100000 in
theorem b_X9_isNoLeader_42 {v : EV} {p : Program} {l : Launch} {e : Env} {s : State} {m : MethodId} {args : Array Value} {below : List Frame} {meth : Method} {c : Code} (hC : Cx v p l e s m args meth c RX9 cX9_isNoLeader 2 (some .boolean)) {S : Mem} {xt0 : Int32}  {r : Int32 × Mem} (hf : f_X9_isNoLeader_42 S xt0 = some r) : Mj v p l e (rmF 5 97) s m args below meth c 2 (MQ below (Qc v (some (.int r.1)) r.2) args s 0 0 (eG v)) 0 S 42 [] [.int xt0] := by
  obtain ⟨k3, hf⟩ := ck_of hf
  obtain rfl := Option.some.inj hf
  exact i_zret hC dX9_isNoLeader_42 (isb_z k3).1
set_option maxHeartbeats 4000000 in
set_option maxRecDepth 100000 in
theorem b_X9_isNoLeader_37 {v : EV} {p : Program} {l : Launch} {e : Env} {s : State} {m : MethodId} {args : Array Value} {below : List Frame} {meth : Method} {c : Code} (hC : Cx v p l e s m args meth c RX9 cX9_isNoLeader 2 (some .boolean)) {S : Mem}  {r : Int32 × Mem} (hf : f_X9_isNoLeader_37 S = some r) : Mj v p l e (rmF 5 97) s m args below meth c 2 (MQ below (Qc v (some (.int r.1)) r.2) args s 0 0 (eG v)) 0 S 37 [] [] := by
  refine i_iconst hC dX9_isNoLeader_37 li_1 ?_
  refine i_goto hC (tgt := 42) dX9_isNoLeader_38 (by decide) ?_
  exact Mj.to (b_X9_isNoLeader_42 hC  hf) trivial
set_option maxHeartbeats 4000000 in
set_option maxRecDepth 100000 in
theorem b_X9_isNoLeader_24 {v : EV} {p : Program} {l : Launch} {e : Env} {s : State} {m : MethodId} {args : Array Value} {below : List Frame} {meth : Method} {c : Code} (hC : Cx v p l e s m args meth c RX9 cX9_isNoLeader 2 (some .boolean)) {S : Mem} {x1 : Int32} {xt0 : Int32}  {r : Int32 × Mem} (hf : f_X9_isNoLeader_24 S x1 xt0 = some r) : Mj v p l e (rmF 5 97) s m args below meth c 2 (MQ below (Qc v (some (.int r.1)) r.2) args s 0 0 (eG v)) 0 S 24 [(0, .ref (eA v (218))), (1, .int x1)] [.int xt0, .ref (eA v (218))] := by
  refine i_iconst hC dX9_isNoLeader_24 li_4 ?_
  refine i_aload_n hC dX9_isNoLeader_25 rfl ?_
  refine i_iload_n hC dX9_isNoLeader_26 rfl ?_
  refine i_iconst hC dX9_isNoLeader_27 li_1 ?_
  obtain ⟨r6, hc6, hf⟩ := bd1_of hf
  refine i_callVi hC mv_X9_69 (c_X9_of hC.2.2.2.2.2.2.2.1 hc6) (pln rfl) (lay_p218) rfl rfl rfl rfl ⟨Nat.le_of_ble_eq_true rfl, Nat.le_of_ble_eq_true rfl⟩ (Nat.le_of_ble_eq_true rfl) dX9_isNoLeader_28 ?_
  obtain ⟨r7, S7, hc7, hf⟩ := bd2_of hf
  refine i_callVi hC mv_X9_88 (c_X9_isRefused hC.2.2.2.2.2.2.2.1 hc7) (pln rfl) (lay_p218) rfl rfl rfl rfl ⟨Nat.le_of_ble_eq_true rfl, Nat.le_of_ble_eq_true rfl⟩ (Nat.le_of_ble_eq_true rfl) dX9_isNoLeader_31 ?_
  refine i_if_eq hC (tgt := 41) dX9_isNoLeader_34 (by decide) (fun c8 => ?_) (fun c8 => ?_)
  · replace hf := (if_pos c8).symm.trans hf
    refine i_iconst hC dX9_isNoLeader_41 li_0 ?_
    exact Mj.to (b_X9_isNoLeader_42 hC  hf) trivial
  · replace hf := (if_neg c8).symm.trans hf
    exact Mj.to (b_X9_isNoLeader_37 hC  hf) trivial
set_option maxHeartbeats 4000000 in
set_option maxRecDepth 100000 in
theorem b_X9_isNoLeader_0 {v : EV} {p : Program} {l : Launch} {e : Env} {s : State} {m : MethodId} {args : Array Value} {below : List Frame} {meth : Method} {c : Code} (hC : Cx v p l e s m args meth c RX9 cX9_isNoLeader 2 (some .boolean)) {S : Mem} {x1 : Int32}  {r : Int32 × Mem} (hf : f_X9_isNoLeader_0 S x1 = some r) : Mj v p l e (rmF 5 97) s m args below meth c 2 (MQ below (Qc v (some (.int r.1)) r.2) args s 0 0 (eG v)) 0 S 0 [(0, .ref (eA v (218))), (1, .int x1)] [] := by
  refine i_aload_n hC dX9_isNoLeader_0 rfl ?_
  refine i_iload_n hC dX9_isNoLeader_1 rfl ?_
  obtain ⟨r1, S1, hc1, hf⟩ := bd2_of hf
  refine i_callVi hC mv_X9_122 (c_X9_isWashed hC.2.2.2.2.2.2.2.1 hc1) (pln rfl) (lay_p218) rfl rfl rfl rfl ⟨Nat.le_of_ble_eq_true rfl, Nat.le_of_ble_eq_true rfl⟩ (Nat.le_of_ble_eq_true rfl) dX9_isNoLeader_2 ?_
  refine i_if_ne hC (tgt := 37) dX9_isNoLeader_5 (by decide) (fun c2 => ?_) (fun c2 => ?_)
  · replace hf := (if_neg c2).symm.trans hf
    exact Mj.to (b_X9_isNoLeader_37 hC  hf) trivial
  · replace hf := (if_pos c2).symm.trans hf
    refine i_aload_n hC dX9_isNoLeader_8 rfl ?_
    refine i_aload_n hC dX9_isNoLeader_9 rfl ?_
    refine i_iload_n hC dX9_isNoLeader_10 rfl ?_
    refine i_iconst hC dX9_isNoLeader_11 li_0 ?_
    obtain ⟨r4, hc4, hf⟩ := bd1_of hf
    refine i_callVi hC mv_X9_69 (c_X9_of hC.2.2.2.2.2.2.2.1 hc4) (pln rfl) (lay_p218) rfl rfl rfl rfl ⟨Nat.le_of_ble_eq_true rfl, Nat.le_of_ble_eq_true rfl⟩ (Nat.le_of_ble_eq_true rfl) dX9_isNoLeader_12 ?_
    refine i_iconst hC dX9_isNoLeader_15 li_2 ?_
    refine i_icmp_eq hC (tgt := 23) dX9_isNoLeader_16 (by decide) (fun c5 => ?_) (fun c5 => ?_)
    · replace hf := (if_pos c5).symm.trans hf
      refine i_iconst hC dX9_isNoLeader_23 li_0 ?_
      exact Mj.to (b_X9_isNoLeader_24 hC  hf) ⟨rfl, rfl, trivial⟩
    · replace hf := (if_neg c5).symm.trans hf
      refine i_iconst hC dX9_isNoLeader_19 li_1 ?_
      refine i_goto hC (tgt := 24) dX9_isNoLeader_20 (by decide) ?_
      exact Mj.to (b_X9_isNoLeader_24 hC  hf) ⟨rfl, rfl, trivial⟩
theorem c_X9_isNoLeader {v : EV} {l : Launch} (hst : Stb v) {S : Mem} {x1 : Int32}  {r : Int32 × Mem} (hf : g_X9_isNoLeader S x1 = some r) : Con v l yX9_isNoLeader cX9_isNoLeader 2 (some .boolean) 5 97 [.ref (eA v (218)), .int x1] S (some (.int r.1)) r.2 := con_of (by decide) hst (Nat.le_of_ble_eq_true rfl) (fun p e s m args below meth c hC => b_X9_isNoLeader_0 hC  hf)
def f_X9_sendsNow_110 (S : Mem) (x2 : Int32) : Option (Int32 × Mem) := some (x2, S)
def f_X9_sendsNow_74 (ih15 : (Mem × Int32 × Int32) → Option (Int32 × Mem)) (S : Mem) (x1 : Int32) (x2 : Int32) (x3 : Int32) : Option (Int32 × Mem) := ih15 (S, x2, (x3 + (1 : Int32)))
def f_X9_sendsNow_15_b (ih15 : (Mem × Int32 × Int32) → Option (Int32 × Mem)) (S : Mem) (x1 : Int32) (x2 : Int32) (x3 : Int32) : Option (Int32 × Mem) := (if (S 20 1) ≤ x3 then bd1 (g_X9_isMajority S x2) (fun r2 => (if r2 = 0 then f_X9_sendsNow_110 S x2 else bd1 (g_X9_of S x1 (6 : Int32)) (fun r4 => bd1 (g_X9_lastOwn S x1) (fun r5 => bd1 (g_X9_greater r4 r5) (fun r6 => bd1 (g_X9_sets S x1 (6 : Int32) r6) (fun S7 => f_X9_sendsNow_110 S7 x2)))))) else bd1 (g_X9_isReached S x1 x3) (fun r8 => (if r8 = 0 then f_X9_sendsNow_74 ih15 S x1 x2 x3 else bd1 (g_X9_of S x3 (1 : Int32)) (fun r10 => bd1 (g_X9_of S x1 (1 : Int32)) (fun r11 => (if r10 ≤ r11 then bd1 (g_X9_gets S x3 x1) (fun S13 => f_X9_sendsNow_74 ih15 S13 x1 (x2 + (1 : Int32)) x3) else bd1 (g_X9_of S x3 (1 : Int32)) (fun r14 => bd1 (g_X9_takesOver S x1 r14) (fun S15 => some ((0 : Int32), S15)))))))))
def f_X9_sendsNow_15 (S : Mem) (x1 : Int32) (x2 : Int32) (x3 : Int32) : Option (Int32 × Mem) := lp (fun ih15 s9 => f_X9_sendsNow_15_b ih15 s9.1 x1 s9.2.1 s9.2.2) 2000 (S, x2, x3)
def f_X9_sendsNow_0 (S : Mem) (x1 : Int32) : Option (Int32 × Mem) := f_X9_sendsNow_15 (up S 20 6 ((S 20 6) + (1 : Int32))) x1 (1 : Int32) (0 : Int32)
def g_X9_sendsNow (S : Mem) (x1 : Int32) : Option (Int32 × Mem) := f_X9_sendsNow_0 S x1
set_option maxHeartbeats 4000000 in
set_option maxRecDepth 100000 in
theorem b_X9_sendsNow_110 {v : EV} {p : Program} {l : Launch} {e : Env} {s : State} {m : MethodId} {args : Array Value} {below : List Frame} {meth : Method} {c : Code} (hC : Cx v p l e s m args meth c RX9 cX9_sendsNow 4 (some .int)) {S : Mem} {x2 : Int32}  {r : Int32 × Mem} (hf : f_X9_sendsNow_110 S x2 = some r) : Mj v p l e (rmF 5 104) s m args below meth c 4 (MQ below (Qc v (some (.int r.1)) r.2) args s 0 0 (eG v)) 0 S 110 [(2, .int x2)] [] := by
  refine i_iload_n hC dX9_sendsNow_110 rfl ?_
  obtain rfl := Option.some.inj hf
  exact i_iret hC dX9_sendsNow_111
set_option maxHeartbeats 4000000 in
set_option maxRecDepth 100000 in
theorem b_X9_sendsNow_74 {v : EV} {p : Program} {l : Launch} {e : Env} {s : State} {m : MethodId} {args : Array Value} {below : List Frame} {meth : Method} {c : Code} (hC : Cx v p l e s m args meth c RX9 cX9_sendsNow 4 (some .int)) {S : Mem} {x1 : Int32} {x2 : Int32} {x3 : Int32}  {r : Int32 × Mem} {ih15 : (Mem × Int32 × Int32) → Option (Int32 × Mem)} (hih15 : ∀ s9 : (Mem × Int32 × Int32), ih15 s9 = some r → Mj v p l e (rmF 5 104) s m args below meth c 4 (MQ below (Qc v (some (.int r.1)) r.2) args s 0 0 (eG v)) 0 s9.1 15 [(0, .ref (eA v (218))), (1, .int x1), (2, .int (s9.2.1)), (3, .int (s9.2.2))] []) (hf : f_X9_sendsNow_74 ih15 S x1 x2 x3 = some r) : Mj v p l e (rmF 5 104) s m args below meth c 4 (MQ below (Qc v (some (.int r.1)) r.2) args s 0 0 (eG v)) 0 S 74 [(0, .ref (eA v (218))), (1, .int x1), (2, .int x2), (3, .int x3)] [] := by
  refine i_iinc hC dX9_sendsNow_74 rfl li_1 (by decide) ?_
  refine i_goto hC (tgt := 15) dX9_sendsNow_77 (by decide) ?_
  exact Mj.to (hih15 _ hf) ⟨rfl, rfl, rfl, rfl, trivial⟩
set_option maxHeartbeats 4000000 in
set_option maxRecDepth 100000 in
theorem b_X9_sendsNow_15_b {v : EV} {p : Program} {l : Launch} {e : Env} {s : State} {m : MethodId} {args : Array Value} {below : List Frame} {meth : Method} {c : Code} (hC : Cx v p l e s m args meth c RX9 cX9_sendsNow 4 (some .int)) {S : Mem} {x1 : Int32} {x2 : Int32} {x3 : Int32}  {r : Int32 × Mem} {ih15 : (Mem × Int32 × Int32) → Option (Int32 × Mem)} (hih15 : ∀ s9 : (Mem × Int32 × Int32), ih15 s9 = some r → Mj v p l e (rmF 5 104) s m args below meth c 4 (MQ below (Qc v (some (.int r.1)) r.2) args s 0 0 (eG v)) 0 s9.1 15 [(0, .ref (eA v (218))), (1, .int x1), (2, .int (s9.2.1)), (3, .int (s9.2.2))] []) (hf : f_X9_sendsNow_15_b ih15 S x1 x2 x3 = some r) : Mj v p l e (rmF 5 104) s m args below meth c 4 (MQ below (Qc v (some (.int r.1)) r.2) args s 0 0 (eG v)) 0 S 15 [(0, .ref (eA v (218))), (1, .int x1), (2, .int x2), (3, .int x3)] [] := by
  refine i_iload_n hC dX9_sendsNow_15 rfl ?_
  refine i_aload_n hC dX9_sendsNow_16 rfl ?_
  refine i_getR hC fl_X9_9 (pln rfl) (lay_p218) rfl dX9_sendsNow_17 ?_
  refine i_iconst hC dX9_sendsNow_20 li_1 ?_
  refine i_iald hC (j0 := 1) (pln rfl) (lay_p219) (inb_in (by decide)) (by decide) dX9_sendsNow_21 ?_
  refine i_icmp_ge hC (tgt := 80) dX9_sendsNow_22 (by decide) (fun c1 => ?_) (fun c1 => ?_)
  · replace hf := (if_pos c1).symm.trans hf
    refine i_aload_n hC dX9_sendsNow_80 rfl ?_
    refine i_iload_n hC dX9_sendsNow_81 rfl ?_
    obtain ⟨r2, hc2, hf⟩ := bd1_of hf
    refine i_callVi hC mv_X9_119 (c_X9_isMajority hC.2.2.2.2.2.2.2.1 hc2) (pln rfl) (lay_p218) rfl rfl rfl rfl ⟨Nat.le_of_ble_eq_true rfl, Nat.le_of_ble_eq_true rfl⟩ (Nat.le_of_ble_eq_true rfl) dX9_sendsNow_82 ?_
    refine i_if_eq hC (tgt := 110) dX9_sendsNow_85 (by decide) (fun c3 => ?_) (fun c3 => ?_)
    · replace hf := (if_pos c3).symm.trans hf
      exact Mj.to (b_X9_sendsNow_110 hC  hf) ⟨rfl, trivial⟩
    · replace hf := (if_neg c3).symm.trans hf
      refine i_aload_n hC dX9_sendsNow_88 rfl ?_
      refine i_iload_n hC dX9_sendsNow_89 rfl ?_
      refine i_bipush hC dX9_sendsNow_90 lb_6 ?_
      refine i_aload_n hC dX9_sendsNow_92 rfl ?_
      refine i_iload_n hC dX9_sendsNow_93 rfl ?_
      refine i_bipush hC dX9_sendsNow_94 lb_6 ?_
      obtain ⟨r4, hc4, hf⟩ := bd1_of hf
      refine i_callVi hC mv_X9_69 (c_X9_of hC.2.2.2.2.2.2.2.1 hc4) (pln rfl) (lay_p218) rfl rfl rfl rfl ⟨Nat.le_of_ble_eq_true rfl, Nat.le_of_ble_eq_true rfl⟩ (Nat.le_of_ble_eq_true rfl) dX9_sendsNow_96 ?_
      refine i_aload_n hC dX9_sendsNow_99 rfl ?_
      refine i_iload_n hC dX9_sendsNow_100 rfl ?_
      obtain ⟨r5, hc5, hf⟩ := bd1_of hf
      refine i_callVi hC mv_X9_137 (c_X9_lastOwn hC.2.2.2.2.2.2.2.1 hc5) (pln rfl) (lay_p218) rfl rfl rfl rfl ⟨Nat.le_of_ble_eq_true rfl, Nat.le_of_ble_eq_true rfl⟩ (Nat.le_of_ble_eq_true rfl) dX9_sendsNow_101 ?_
      obtain ⟨r6, hc6, hf⟩ := bd1_of hf
      refine i_callSi hC mv_X9_75 (c_X9_greater hC.2.2.2.2.2.2.2.1 hc6) rfl rfl rfl ⟨Nat.le_of_ble_eq_true rfl, Nat.le_of_ble_eq_true rfl⟩ (Nat.le_of_ble_eq_true rfl) dX9_sendsNow_104 ?_
      obtain ⟨S7, hc7, hf⟩ := bd1_of hf
      refine i_callVv hC mv_X9_92 (c_X9_sets hC.2.2.2.2.2.2.2.1 hc7) (pln rfl) (lay_p218) rfl rfl rfl rfl ⟨Nat.le_of_ble_eq_true rfl, Nat.le_of_ble_eq_true rfl⟩ (Nat.le_of_ble_eq_true rfl) dX9_sendsNow_107 ?_
      exact Mj.to (b_X9_sendsNow_110 hC  hf) ⟨rfl, trivial⟩
  · replace hf := (if_neg c1).symm.trans hf
    refine i_aload_n hC dX9_sendsNow_25 rfl ?_
    refine i_iload_n hC dX9_sendsNow_26 rfl ?_
    refine i_iload_n hC dX9_sendsNow_27 rfl ?_
    obtain ⟨r8, hc8, hf⟩ := bd1_of hf
    refine i_callVi hC mv_X9_108 (c_X9_isReached hC.2.2.2.2.2.2.2.1 hc8) (pln rfl) (lay_p218) rfl rfl rfl rfl ⟨Nat.le_of_ble_eq_true rfl, Nat.le_of_ble_eq_true rfl⟩ (Nat.le_of_ble_eq_true rfl) dX9_sendsNow_28 ?_
    refine i_if_ne hC (tgt := 37) dX9_sendsNow_31 (by decide) (fun c9 => ?_) (fun c9 => ?_)
    · replace hf := (if_neg c9).symm.trans hf
      refine i_aload_n hC dX9_sendsNow_37 rfl ?_
      refine i_iload_n hC dX9_sendsNow_38 rfl ?_
      refine i_iconst hC dX9_sendsNow_39 li_1 ?_
      obtain ⟨r10, hc10, hf⟩ := bd1_of hf
      refine i_callVi hC mv_X9_69 (c_X9_of hC.2.2.2.2.2.2.2.1 hc10) (pln rfl) (lay_p218) rfl rfl rfl rfl ⟨Nat.le_of_ble_eq_true rfl, Nat.le_of_ble_eq_true rfl⟩ (Nat.le_of_ble_eq_true rfl) dX9_sendsNow_40 ?_
      refine i_aload_n hC dX9_sendsNow_43 rfl ?_
      refine i_iload_n hC dX9_sendsNow_44 rfl ?_
      refine i_iconst hC dX9_sendsNow_45 li_1 ?_
      obtain ⟨r11, hc11, hf⟩ := bd1_of hf
      refine i_callVi hC mv_X9_69 (c_X9_of hC.2.2.2.2.2.2.2.1 hc11) (pln rfl) (lay_p218) rfl rfl rfl rfl ⟨Nat.le_of_ble_eq_true rfl, Nat.le_of_ble_eq_true rfl⟩ (Nat.le_of_ble_eq_true rfl) dX9_sendsNow_46 ?_
      refine i_icmp_le hC (tgt := 65) dX9_sendsNow_49 (by decide) (fun c12 => ?_) (fun c12 => ?_)
      · replace hf := (if_pos c12).symm.trans hf
        refine i_aload_n hC dX9_sendsNow_65 rfl ?_
        refine i_iload_n hC dX9_sendsNow_66 rfl ?_
        refine i_iload_n hC dX9_sendsNow_67 rfl ?_
        obtain ⟨S13, hc13, hf⟩ := bd1_of hf
        refine i_callVv hC mv_X9_134 (c_X9_gets hC.2.2.2.2.2.2.2.1 hc13) (pln rfl) (lay_p218) rfl rfl rfl rfl ⟨Nat.le_of_ble_eq_true rfl, Nat.le_of_ble_eq_true rfl⟩ (Nat.le_of_ble_eq_true rfl) dX9_sendsNow_68 ?_
        refine i_iinc hC dX9_sendsNow_71 rfl li_1 (by decide) ?_
        exact Mj.to (b_X9_sendsNow_74 hC hih15 hf) ⟨rfl, rfl, rfl, rfl, trivial⟩
      · replace hf := (if_neg c12).symm.trans hf
        refine i_aload_n hC dX9_sendsNow_52 rfl ?_
        refine i_iload_n hC dX9_sendsNow_53 rfl ?_
        refine i_aload_n hC dX9_sendsNow_54 rfl ?_
        refine i_iload_n hC dX9_sendsNow_55 rfl ?_
        refine i_iconst hC dX9_sendsNow_56 li_1 ?_
        obtain ⟨r14, hc14, hf⟩ := bd1_of hf
        refine i_callVi hC mv_X9_69 (c_X9_of hC.2.2.2.2.2.2.2.1 hc14) (pln rfl) (lay_p218) rfl rfl rfl rfl ⟨Nat.le_of_ble_eq_true rfl, Nat.le_of_ble_eq_true rfl⟩ (Nat.le_of_ble_eq_true rfl) dX9_sendsNow_57 ?_
        obtain ⟨S15, hc15, hf⟩ := bd1_of hf
        refine i_callVv hC mv_X9_112 (c_X9_takesOver hC.2.2.2.2.2.2.2.1 hc15) (pln rfl) (lay_p218) rfl rfl rfl rfl ⟨Nat.le_of_ble_eq_true rfl, Nat.le_of_ble_eq_true rfl⟩ (Nat.le_of_ble_eq_true rfl) dX9_sendsNow_60 ?_
        refine i_iconst hC dX9_sendsNow_63 li_0 ?_
        obtain rfl := Option.some.inj hf
        exact i_iret hC dX9_sendsNow_64
    · replace hf := (if_pos c9).symm.trans hf
      refine i_goto hC (tgt := 74) dX9_sendsNow_34 (by decide) ?_
      exact Mj.to (b_X9_sendsNow_74 hC hih15 hf) ⟨rfl, rfl, rfl, rfl, trivial⟩
theorem b_X9_sendsNow_15 {v : EV} {p : Program} {l : Launch} {e : Env} {s : State} {m : MethodId} {args : Array Value} {below : List Frame} {meth : Method} {c : Code} (hC : Cx v p l e s m args meth c RX9 cX9_sendsNow 4 (some .int)) {S : Mem} {x1 : Int32} {x2 : Int32} {x3 : Int32}  {r : Int32 × Mem} (hf : f_X9_sendsNow_15 S x1 x2 x3 = some r) : Mj v p l e (rmF 5 104) s m args below meth c 4 (MQ below (Qc v (some (.int r.1)) r.2) args s 0 0 (eG v)) 0 S 15 [(0, .ref (eA v (218))), (1, .int x1), (2, .int x2), (3, .int x3)] [] :=
  lp_ind (P := fun s9 : (Mem × Int32 × Int32) => Mj v p l e (rmF 5 104) s m args below meth c 4 (MQ below (Qc v (some (.int r.1)) r.2) args s 0 0 (eG v)) 0 s9.1 15 [(0, .ref (eA v (218))), (1, .int x1), (2, .int (s9.2.1)), (3, .int (s9.2.2))] []) (fun ih s9 hih hf => b_X9_sendsNow_15_b hC   hih hf) _ _ hf
set_option maxHeartbeats 4000000 in
set_option maxRecDepth 100000 in
theorem b_X9_sendsNow_0 {v : EV} {p : Program} {l : Launch} {e : Env} {s : State} {m : MethodId} {args : Array Value} {below : List Frame} {meth : Method} {c : Code} (hC : Cx v p l e s m args meth c RX9 cX9_sendsNow 4 (some .int)) {S : Mem} {x1 : Int32}  {r : Int32 × Mem} (hf : f_X9_sendsNow_0 S x1 = some r) : Mj v p l e (rmF 5 104) s m args below meth c 4 (MQ below (Qc v (some (.int r.1)) r.2) args s 0 0 (eG v)) 0 S 0 [(0, .ref (eA v (218))), (1, .int x1)] [] := by
  refine i_aload_n hC dX9_sendsNow_0 rfl ?_
  refine i_getR hC fl_X9_9 (pln rfl) (lay_p218) rfl dX9_sendsNow_1 ?_
  refine i_bipush hC dX9_sendsNow_4 lb_6 ?_
  refine i_dup2 hC dX9_sendsNow_6 rfl rfl ?_
  refine i_iald hC (j0 := 6) (pln rfl) (lay_p219) (inb_in (by decide)) (by decide) dX9_sendsNow_7 ?_
  refine i_iconst hC dX9_sendsNow_8 li_1 ?_
  refine i_iadd hC dX9_sendsNow_9 ?_
  refine i_iast hC (j0 := 6) (pln rfl) (lay_p219) (bk_l ⟨rfl, rfl, rfl, rfl⟩) (inb_in (by decide)) (by decide) dX9_sendsNow_10 ?_
  refine i_iconst hC dX9_sendsNow_11 li_1 ?_
  refine i_istore_n hC dX9_sendsNow_12 (by decide) ?_
  refine i_iconst hC dX9_sendsNow_13 li_0 ?_
  refine i_istore_n hC dX9_sendsNow_14 (by decide) ?_
  exact Mj.to (b_X9_sendsNow_15 hC  hf) ⟨rfl, rfl, rfl, rfl, trivial⟩
theorem c_X9_sendsNow {v : EV} {l : Launch} (hst : Stb v) {S : Mem} {x1 : Int32}  {r : Int32 × Mem} (hf : g_X9_sendsNow S x1 = some r) : Con v l yX9_sendsNow cX9_sendsNow 4 (some .int) 5 104 [.ref (eA v (218)), .int x1] S (some (.int r.1)) r.2 := con_of (by decide) hst (Nat.le_of_ble_eq_true rfl) (fun p e s m args below meth c hC => b_X9_sendsNow_0 hC  hf)
def f_X9_shouts_60 (S : Mem)  : Option (Int32 × Mem) := some ((-3 : Int32), S)
def f_X9_shouts_51 (S : Mem) (x1 : Int32) (x2 : Int32) (x3 : Int32) (xt0 : Int32) : Option (Int32 × Mem) := bd2 (g_X9_isRefused S xt0 (1 : Int32) (12 : Int32)) (fun r9 S9 => (if r9 = 0 then bd1 (g_X9_of S9 x1 (1 : Int32)) (fun r11 => bd1 (g_X9_sets S9 x1 ((10 : Int32) + x3) r11) (fun S12 => bd1 (g_X9_sets S12 x1 ((22 : Int32) + x3) x2) (fun S13 => bd1 (g_X9_sets S13 x1 (5 : Int32) (x3 + (1 : Int32))) (fun S14 => some ((x3 + (1 : Int32)), (up S14 20 4 ((S14 20 4) + (1 : Int32)))))))) else f_X9_shouts_60 S9))
def f_X9_shouts_0 (S : Mem) (x1 : Int32) (x2 : Int32) : Option (Int32 × Mem) := bd1 (g_X9_isDriver S x1) (fun r1 => (if r1 = 0 then some ((-1 : Int32), S) else bd1 (g_X9_isIn x2 (97 : Int32) (122 : Int32)) (fun r3 => (if r3 = 0 then some ((-2 : Int32), S) else bd1 (g_X9_of S x1 (5 : Int32)) (fun r5 => bd2 (g_X9_isNoLeader S x1) (fun r6 S6 => (if r6 = 0 then (if r5 = (12 : Int32) then f_X9_shouts_51 S6 x1 x2 r5 (1 : Int32) else f_X9_shouts_51 S6 x1 x2 r5 (0 : Int32)) else f_X9_shouts_60 S6)))))))
def g_X9_shouts (S : Mem) (x1 : Int32) (x2 : Int32) : Option (Int32 × Mem) := f_X9_shouts_0 S x1 x2
set_option maxHeartbeats 4000000 in
set_option maxRecDepth 100000 in
theorem b_X9_shouts_60 {v : EV} {p : Program} {l : Launch} {e : Env} {s : State} {m : MethodId} {args : Array Value} {below : List Frame} {meth : Method} {c : Code} (hC : Cx v p l e s m args meth c RX9 cX9_shouts 4 (some .int)) {S : Mem}  {r : Int32 × Mem} (hf : f_X9_shouts_60 S = some r) : Mj v p l e (rmF 6 118) s m args below meth c 4 (MQ below (Qc v (some (.int r.1)) r.2) args s 0 0 (eG v)) 0 S 60 [] [] := by
  refine i_bipush hC dX9_shouts_60 lb_m3 ?_
  obtain rfl := Option.some.inj hf
  exact i_iret hC dX9_shouts_62
set_option maxHeartbeats 4000000 in
set_option maxRecDepth 100000 in
theorem b_X9_shouts_51 {v : EV} {p : Program} {l : Launch} {e : Env} {s : State} {m : MethodId} {args : Array Value} {below : List Frame} {meth : Method} {c : Code} (hC : Cx v p l e s m args meth c RX9 cX9_shouts 4 (some .int)) {S : Mem} {x1 : Int32} {x2 : Int32} {x3 : Int32} {xt0 : Int32}  {r : Int32 × Mem} (hf : f_X9_shouts_51 S x1 x2 x3 xt0 = some r) : Mj v p l e (rmF 6 118) s m args below meth c 4 (MQ below (Qc v (some (.int r.1)) r.2) args s 0 0 (eG v)) 0 S 51 [(0, .ref (eA v (218))), (1, .int x1), (2, .int x2), (3, .int x3)] [.int xt0, .ref (eA v (218))] := by
  refine i_iconst hC dX9_shouts_51 li_1 ?_
  refine i_bipush hC dX9_shouts_52 lb_12 ?_
  obtain ⟨r9, S9, hc9, hf⟩ := bd2_of hf
  refine i_callVi hC mv_X9_88 (c_X9_isRefused hC.2.2.2.2.2.2.2.1 hc9) (pln rfl) (lay_p218) rfl rfl rfl rfl ⟨Nat.le_of_ble_eq_true rfl, Nat.le_of_ble_eq_true rfl⟩ (Nat.le_of_ble_eq_true rfl) dX9_shouts_54 ?_
  refine i_if_eq hC (tgt := 63) dX9_shouts_57 (by decide) (fun c10 => ?_) (fun c10 => ?_)
  · replace hf := (if_pos c10).symm.trans hf
    refine i_aload_n hC dX9_shouts_63 rfl ?_
    refine i_iload_n hC dX9_shouts_64 rfl ?_
    refine i_bipush hC dX9_shouts_65 lb_10 ?_
    refine i_iload_n hC dX9_shouts_67 rfl ?_
    refine i_iadd hC dX9_shouts_68 ?_
    refine i_aload_n hC dX9_shouts_69 rfl ?_
    refine i_iload_n hC dX9_shouts_70 rfl ?_
    refine i_iconst hC dX9_shouts_71 li_1 ?_
    obtain ⟨r11, hc11, hf⟩ := bd1_of hf
    refine i_callVi hC mv_X9_69 (c_X9_of hC.2.2.2.2.2.2.2.1 hc11) (pln rfl) (lay_p218) rfl rfl rfl rfl ⟨Nat.le_of_ble_eq_true rfl, Nat.le_of_ble_eq_true rfl⟩ (Nat.le_of_ble_eq_true rfl) dX9_shouts_72 ?_
    obtain ⟨S12, hc12, hf⟩ := bd1_of hf
    refine i_callVv hC mv_X9_92 (c_X9_sets hC.2.2.2.2.2.2.2.1 hc12) (pln rfl) (lay_p218) rfl rfl rfl rfl ⟨Nat.le_of_ble_eq_true rfl, Nat.le_of_ble_eq_true rfl⟩ (Nat.le_of_ble_eq_true rfl) dX9_shouts_75 ?_
    refine i_aload_n hC dX9_shouts_78 rfl ?_
    refine i_iload_n hC dX9_shouts_79 rfl ?_
    refine i_bipush hC dX9_shouts_80 lb_22 ?_
    refine i_iload_n hC dX9_shouts_82 rfl ?_
    refine i_iadd hC dX9_shouts_83 ?_
    refine i_iload_n hC dX9_shouts_84 rfl ?_
    obtain ⟨S13, hc13, hf⟩ := bd1_of hf
    refine i_callVv hC mv_X9_92 (c_X9_sets hC.2.2.2.2.2.2.2.1 hc13) (pln rfl) (lay_p218) rfl rfl rfl rfl ⟨Nat.le_of_ble_eq_true rfl, Nat.le_of_ble_eq_true rfl⟩ (Nat.le_of_ble_eq_true rfl) dX9_shouts_85 ?_
    refine i_aload_n hC dX9_shouts_88 rfl ?_
    refine i_iload_n hC dX9_shouts_89 rfl ?_
    refine i_iconst hC dX9_shouts_90 li_5 ?_
    refine i_iload_n hC dX9_shouts_91 rfl ?_
    refine i_iconst hC dX9_shouts_92 li_1 ?_
    refine i_iadd hC dX9_shouts_93 ?_
    obtain ⟨S14, hc14, hf⟩ := bd1_of hf
    refine i_callVv hC mv_X9_92 (c_X9_sets hC.2.2.2.2.2.2.2.1 hc14) (pln rfl) (lay_p218) rfl rfl rfl rfl ⟨Nat.le_of_ble_eq_true rfl, Nat.le_of_ble_eq_true rfl⟩ (Nat.le_of_ble_eq_true rfl) dX9_shouts_94 ?_
    refine i_aload_n hC dX9_shouts_97 rfl ?_
    refine i_getR hC fl_X9_9 (pln rfl) (lay_p218) rfl dX9_shouts_98 ?_
    refine i_iconst hC dX9_shouts_101 li_4 ?_
    refine i_dup2 hC dX9_shouts_102 rfl rfl ?_
    refine i_iald hC (j0 := 4) (pln rfl) (lay_p219) (inb_in (by decide)) (by decide) dX9_shouts_103 ?_
    refine i_iconst hC dX9_shouts_104 li_1 ?_
    refine i_iadd hC dX9_shouts_105 ?_
    refine i_iast hC (j0 := 4) (pln rfl) (lay_p219) (bk_l ⟨rfl, rfl, rfl, rfl⟩) (inb_in (by decide)) (by decide) dX9_shouts_106 ?_
    refine i_iload_n hC dX9_shouts_107 rfl ?_
    refine i_iconst hC dX9_shouts_108 li_1 ?_
    refine i_iadd hC dX9_shouts_109 ?_
    obtain rfl := Option.some.inj hf
    exact i_iret hC dX9_shouts_110
  · replace hf := (if_neg c10).symm.trans hf
    exact Mj.to (b_X9_shouts_60 hC  hf) trivial
set_option maxHeartbeats 4000000 in
set_option maxRecDepth 100000 in
theorem b_X9_shouts_0 {v : EV} {p : Program} {l : Launch} {e : Env} {s : State} {m : MethodId} {args : Array Value} {below : List Frame} {meth : Method} {c : Code} (hC : Cx v p l e s m args meth c RX9 cX9_shouts 4 (some .int)) {S : Mem} {x1 : Int32} {x2 : Int32}  {r : Int32 × Mem} (hf : f_X9_shouts_0 S x1 x2 = some r) : Mj v p l e (rmF 6 118) s m args below meth c 4 (MQ below (Qc v (some (.int r.1)) r.2) args s 0 0 (eG v)) 0 S 0 [(0, .ref (eA v (218))), (1, .int x1), (2, .int x2)] [] := by
  refine i_aload_n hC dX9_shouts_0 rfl ?_
  refine i_iload_n hC dX9_shouts_1 rfl ?_
  obtain ⟨r1, hc1, hf⟩ := bd1_of hf
  refine i_callVi hC mv_X9_65 (c_X9_isDriver hC.2.2.2.2.2.2.2.1 hc1) (pln rfl) (lay_p218) rfl rfl rfl rfl ⟨Nat.le_of_ble_eq_true rfl, Nat.le_of_ble_eq_true rfl⟩ (Nat.le_of_ble_eq_true rfl) dX9_shouts_2 ?_
  refine i_if_ne hC (tgt := 10) dX9_shouts_5 (by decide) (fun c2 => ?_) (fun c2 => ?_)
  · replace hf := (if_neg c2).symm.trans hf
    refine i_iload_n hC dX9_shouts_10 rfl ?_
    refine i_bipush hC dX9_shouts_11 lb_97 ?_
    refine i_bipush hC dX9_shouts_13 lb_122 ?_
    obtain ⟨r3, hc3, hf⟩ := bd1_of hf
    refine i_callSi hC mv_X9_61 (c_X9_isIn hC.2.2.2.2.2.2.2.1 hc3) rfl rfl rfl ⟨Nat.le_of_ble_eq_true rfl, Nat.le_of_ble_eq_true rfl⟩ (Nat.le_of_ble_eq_true rfl) dX9_shouts_15 ?_
    refine i_if_ne hC (tgt := 24) dX9_shouts_18 (by decide) (fun c4 => ?_) (fun c4 => ?_)
    · replace hf := (if_neg c4).symm.trans hf
      refine i_aload_n hC dX9_shouts_24 rfl ?_
      refine i_iload_n hC dX9_shouts_25 rfl ?_
      refine i_iconst hC dX9_shouts_26 li_5 ?_
      obtain ⟨r5, hc5, hf⟩ := bd1_of hf
      refine i_callVi hC mv_X9_69 (c_X9_of hC.2.2.2.2.2.2.2.1 hc5) (pln rfl) (lay_p218) rfl rfl rfl rfl ⟨Nat.le_of_ble_eq_true rfl, Nat.le_of_ble_eq_true rfl⟩ (Nat.le_of_ble_eq_true rfl) dX9_shouts_27 ?_
      refine i_istore_n hC dX9_shouts_30 (by decide) ?_
      refine i_aload_n hC dX9_shouts_31 rfl ?_
      refine i_iload_n hC dX9_shouts_32 rfl ?_
      obtain ⟨r6, S6, hc6, hf⟩ := bd2_of hf
      refine i_callVi hC mv_X9_140 (c_X9_isNoLeader hC.2.2.2.2.2.2.2.1 hc6) (pln rfl) (lay_p218) rfl rfl rfl rfl ⟨Nat.le_of_ble_eq_true rfl, Nat.le_of_ble_eq_true rfl⟩ (Nat.le_of_ble_eq_true rfl) dX9_shouts_33 ?_
      refine i_if_ne hC (tgt := 60) dX9_shouts_36 (by decide) (fun c7 => ?_) (fun c7 => ?_)
      · replace hf := (if_neg c7).symm.trans hf
        exact Mj.to (b_X9_shouts_60 hC  hf) trivial
      · replace hf := (if_pos c7).symm.trans hf
        refine i_aload_n hC dX9_shouts_39 rfl ?_
        refine i_iload_n hC dX9_shouts_40 rfl ?_
        refine i_bipush hC dX9_shouts_41 lb_12 ?_
        refine i_icmp_ne hC (tgt := 50) dX9_shouts_43 (by decide) (fun c8 => ?_) (fun c8 => ?_)
        · replace hf := (if_neg c8).symm.trans hf
          refine i_iconst hC dX9_shouts_50 li_0 ?_
          exact Mj.to (b_X9_shouts_51 hC  hf) ⟨rfl, rfl, rfl, rfl, trivial⟩
        · replace hf := (if_pos c8).symm.trans hf
          refine i_iconst hC dX9_shouts_46 li_1 ?_
          refine i_goto hC (tgt := 51) dX9_shouts_47 (by decide) ?_
          exact Mj.to (b_X9_shouts_51 hC  hf) ⟨rfl, rfl, rfl, rfl, trivial⟩
    · replace hf := (if_pos c4).symm.trans hf
      refine i_bipush hC dX9_shouts_21 lb_m2 ?_
      obtain rfl := Option.some.inj hf
      exact i_iret hC dX9_shouts_23
  · replace hf := (if_pos c2).symm.trans hf
    refine i_iconst hC dX9_shouts_8 li_m1 ?_
    obtain rfl := Option.some.inj hf
    exact i_iret hC dX9_shouts_9
theorem c_X9_shouts {v : EV} {l : Launch} (hst : Stb v) {S : Mem} {x1 x2 : Int32}  {r : Int32 × Mem} (hf : g_X9_shouts S x1 x2 = some r) : Con v l yX9_shouts cX9_shouts 4 (some .int) 6 118 [.ref (eA v (218)), .int x1, .int x2] S (some (.int r.1)) r.2 := con_of (by decide) hst (Nat.le_of_ble_eq_true rfl) (fun p e s m args below meth c hC => b_X9_shouts_0 hC  hf)
def f_X9_washes_0 (S : Mem) (x1 : Int32) : Option (Int32 × Mem) := bd1 (g_X9_isDriver S x1) (fun r1 => (if r1 = 0 then some ((-1 : Int32), S) else bd2 (g_X9_isWashed S x1) (fun r3 S3 => (if r3 = 0 then bd1 (g_X9_sets S3 x1 (7 : Int32) (0 : Int32)) (fun S5 => bd1 (g_X9_sets S5 x1 (0 : Int32) (0 : Int32)) (fun S6 => bd1 (g_X9_aboard S6) (fun r7 => some (r7, S6)))) else some ((-3 : Int32), S3)))))
def g_X9_washes (S : Mem) (x1 : Int32) : Option (Int32 × Mem) := f_X9_washes_0 S x1
set_option maxHeartbeats 4000000 in
set_option maxRecDepth 100000 in
theorem b_X9_washes_0 {v : EV} {p : Program} {l : Launch} {e : Env} {s : State} {m : MethodId} {args : Array Value} {below : List Frame} {meth : Method} {c : Code} (hC : Cx v p l e s m args meth c RX9 cX9_washes 2 (some .int)) {S : Mem} {x1 : Int32}  {r : Int32 × Mem} (hf : f_X9_washes_0 S x1 = some r) : Mj v p l e (rmF 5 97) s m args below meth c 2 (MQ below (Qc v (some (.int r.1)) r.2) args s 0 0 (eG v)) 0 S 0 [(0, .ref (eA v (218))), (1, .int x1)] [] := by
  refine i_aload_n hC dX9_washes_0 rfl ?_
  refine i_iload_n hC dX9_washes_1 rfl ?_
  obtain ⟨r1, hc1, hf⟩ := bd1_of hf
  refine i_callVi hC mv_X9_65 (c_X9_isDriver hC.2.2.2.2.2.2.2.1 hc1) (pln rfl) (lay_p218) rfl rfl rfl rfl ⟨Nat.le_of_ble_eq_true rfl, Nat.le_of_ble_eq_true rfl⟩ (Nat.le_of_ble_eq_true rfl) dX9_washes_2 ?_
  refine i_if_ne hC (tgt := 10) dX9_washes_5 (by decide) (fun c2 => ?_) (fun c2 => ?_)
  · replace hf := (if_neg c2).symm.trans hf
    refine i_aload_n hC dX9_washes_10 rfl ?_
    refine i_iload_n hC dX9_washes_11 rfl ?_
    obtain ⟨r3, S3, hc3, hf⟩ := bd2_of hf
    refine i_callVi hC mv_X9_122 (c_X9_isWashed hC.2.2.2.2.2.2.2.1 hc3) (pln rfl) (lay_p218) rfl rfl rfl rfl ⟨Nat.le_of_ble_eq_true rfl, Nat.le_of_ble_eq_true rfl⟩ (Nat.le_of_ble_eq_true rfl) dX9_washes_12 ?_
    refine i_if_eq hC (tgt := 21) dX9_washes_15 (by decide) (fun c4 => ?_) (fun c4 => ?_)
    · replace hf := (if_pos c4).symm.trans hf
      refine i_aload_n hC dX9_washes_21 rfl ?_
      refine i_iload_n hC dX9_washes_22 rfl ?_
      refine i_bipush hC dX9_washes_23 lb_7 ?_
      refine i_iconst hC dX9_washes_25 li_0 ?_
      obtain ⟨S5, hc5, hf⟩ := bd1_of hf
      refine i_callVv hC mv_X9_92 (c_X9_sets hC.2.2.2.2.2.2.2.1 hc5) (pln rfl) (lay_p218) rfl rfl rfl rfl ⟨Nat.le_of_ble_eq_true rfl, Nat.le_of_ble_eq_true rfl⟩ (Nat.le_of_ble_eq_true rfl) dX9_washes_26 ?_
      refine i_aload_n hC dX9_washes_29 rfl ?_
      refine i_iload_n hC dX9_washes_30 rfl ?_
      refine i_iconst hC dX9_washes_31 li_0 ?_
      refine i_iconst hC dX9_washes_32 li_0 ?_
      obtain ⟨S6, hc6, hf⟩ := bd1_of hf
      refine i_callVv hC mv_X9_92 (c_X9_sets hC.2.2.2.2.2.2.2.1 hc6) (pln rfl) (lay_p218) rfl rfl rfl rfl ⟨Nat.le_of_ble_eq_true rfl, Nat.le_of_ble_eq_true rfl⟩ (Nat.le_of_ble_eq_true rfl) dX9_washes_33 ?_
      refine i_aload_n hC dX9_washes_36 rfl ?_
      obtain ⟨r7, hc7, hf⟩ := bd1_of hf
      refine i_callVi hC mv_X9_152 (c_X9_aboard hC.2.2.2.2.2.2.2.1 hc7) (pln rfl) (lay_p218) rfl rfl rfl rfl ⟨Nat.le_of_ble_eq_true rfl, Nat.le_of_ble_eq_true rfl⟩ (Nat.le_of_ble_eq_true rfl) dX9_washes_37 ?_
      obtain rfl := Option.some.inj hf
      exact i_iret hC dX9_washes_40
    · replace hf := (if_neg c4).symm.trans hf
      refine i_bipush hC dX9_washes_18 lb_m3 ?_
      obtain rfl := Option.some.inj hf
      exact i_iret hC dX9_washes_20
  · replace hf := (if_pos c2).symm.trans hf
    refine i_iconst hC dX9_washes_8 li_m1 ?_
    obtain rfl := Option.some.inj hf
    exact i_iret hC dX9_washes_9
theorem c_X9_washes {v : EV} {l : Launch} (hst : Stb v) {S : Mem} {x1 : Int32}  {r : Int32 × Mem} (hf : g_X9_washes S x1 = some r) : Con v l yX9_washes cX9_washes 2 (some .int) 5 97 [.ref (eA v (218)), .int x1] S (some (.int r.1)) r.2 := con_of (by decide) hst (Nat.le_of_ble_eq_true rfl) (fun p e s m args below meth c hC => b_X9_washes_0 hC  hf)
def f_X9_back_0 (S : Mem) (x1 : Int32) : Option (Int32 × Mem) := bd1 (g_X9_keeps S) (fun S1 => bd2 (g_X9_comesBack S1 x1) (fun r2 S2 => bd2 (g_X9_ends S2 r2) (fun r3 S3 => some (r3, S3))))
def g_X9_back (S : Mem) (x1 : Int32) : Option (Int32 × Mem) := f_X9_back_0 S x1
set_option maxHeartbeats 4000000 in
set_option maxRecDepth 100000 in
theorem b_X9_back_0 {v : EV} {p : Program} {l : Launch} {e : Env} {s : State} {m : MethodId} {args : Array Value} {below : List Frame} {meth : Method} {c : Code} (hC : Cx v p l e s m args meth c RX9 cX9_back 2 (some .int)) {S : Mem} {x1 : Int32}  {r : Int32 × Mem} (hf : f_X9_back_0 S x1 = some r) : Mj v p l e (rmF 5 98) s m args below meth c 2 (MQ below (Qc v (some (.int r.1)) r.2) args s 0 0 (eG v)) 0 S 0 [(0, .ref (eA v (218))), (1, .int x1)] [] := by
  refine i_aload_n hC dX9_back_0 rfl ?_
  obtain ⟨S1, hc1, hf⟩ := bd1_of hf
  refine i_callVv hC mv_X9_96 (c_X9_keeps hC.2.2.2.2.2.2.2.1 hc1) (pln rfl) (lay_p218) rfl rfl rfl rfl ⟨Nat.le_of_ble_eq_true rfl, Nat.le_of_ble_eq_true rfl⟩ (Nat.le_of_ble_eq_true rfl) dX9_back_1 ?_
  refine i_aload_n hC dX9_back_4 rfl ?_
  refine i_aload_n hC dX9_back_5 rfl ?_
  refine i_iload_n hC dX9_back_6 rfl ?_
  obtain ⟨r2, S2, hc2, hf⟩ := bd2_of hf
  refine i_callVi hC mv_X9_159 (c_X9_comesBack hC.2.2.2.2.2.2.2.1 hc2) (pln rfl) (lay_p218) rfl rfl rfl rfl ⟨Nat.le_of_ble_eq_true rfl, Nat.le_of_ble_eq_true rfl⟩ (Nat.le_of_ble_eq_true rfl) dX9_back_7 ?_
  obtain ⟨r3, S3, hc3, hf⟩ := bd2_of hf
  refine i_callVi hC mv_X9_102 (c_X9_ends hC.2.2.2.2.2.2.2.1 hc3) (pln rfl) (lay_p218) rfl rfl rfl rfl ⟨Nat.le_of_ble_eq_true rfl, Nat.le_of_ble_eq_true rfl⟩ (Nat.le_of_ble_eq_true rfl) dX9_back_10 ?_
  obtain rfl := Option.some.inj hf
  exact i_iret hC dX9_back_13
theorem c_X9_back {v : EV} {l : Launch} (hst : Stb v) {S : Mem} {x1 : Int32}  {r : Int32 × Mem} (hf : g_X9_back S x1 = some r) : Con v l yX9_back cX9_back 2 (some .int) 5 98 [.ref (eA v (218)), .int x1] S (some (.int r.1)) r.2 := con_of (by decide) hst (Nat.le_of_ble_eq_true rfl) (fun p e s m args below meth c hC => b_X9_back_0 hC  hf)
