def f_X9_ropesCut_4_b (ih4 : (Int32 × Int32) → Option (Int32)) (S : Mem) (x1 : Int32) (x2 : Int32) : Option (Int32) := (if (25 : Int32) ≤ x2 then some x1 else ck (inb ((8 : Int32) + x2) 203) (ih4 ((x1 + (S 20 ((((8 : Int32) + x2)).toNatClampNeg))), (x2 + (1 : Int32)))))
def f_X9_ropesCut_4 (S : Mem) (x1 : Int32) (x2 : Int32) : Option (Int32) := lp (fun ih4 s9 => f_X9_ropesCut_4_b ih4 S s9.1 s9.2) 2000 (x1, x2)
def f_X9_ropesCut_0 (S : Mem)  : Option (Int32) := f_X9_ropesCut_4 S (0 : Int32) (0 : Int32)
def g_X9_ropesCut (S : Mem)  : Option (Int32) := f_X9_ropesCut_0 S
set_option maxHeartbeats 4000000 in
set_option maxRecDepth 100000 in
theorem b_X9_ropesCut_4_b {v : EV} {p : Program} {l : Launch} {e : Env} {s : State} {m : MethodId} {args : Array Value} {below : List Frame} {meth : Method} {c : Code} (hC : Cx v p l e s m args meth c RX9 cX9_ropesCut 3 (some .int)) {S : Mem} {x1 : Int32} {x2 : Int32}  {r : Int32} {ih4 : (Int32 × Int32) → Option (Int32)} (hih4 : ∀ s9 : (Int32 × Int32), ih4 s9 = some r → Mj v p l e (rmF 1 12) s m args below meth c 3 (MQ below (Qc v (some (.int r)) S) args s 0 0 (eG v)) 0 S 4 [(0, .ref (eA v (218))), (1, .int (s9.1)), (2, .int (s9.2))] []) (hf : f_X9_ropesCut_4_b ih4 S x1 x2 = some r) : Mj v p l e (rmF 1 12) s m args below meth c 3 (MQ below (Qc v (some (.int r)) S) args s 0 0 (eG v)) 0 S 4 [(0, .ref (eA v (218))), (1, .int x1), (2, .int x2)] [] := by
  refine i_iload_n hC dX9_ropesCut_4 rfl ?_
  refine i_bipush hC dX9_ropesCut_5 lb_25 ?_
  refine i_icmp_ge hC (tgt := 28) dX9_ropesCut_7 (by decide) (fun c1 => ?_) (fun c1 => ?_)
  · replace hf := (if_pos c1).symm.trans hf
    refine i_iload_n hC dX9_ropesCut_28 rfl ?_
    obtain rfl := Option.some.inj hf
    exact i_iret hC dX9_ropesCut_29
  · replace hf := (if_neg c1).symm.trans hf
    refine i_iload_n hC dX9_ropesCut_10 rfl ?_
    refine i_aload_n hC dX9_ropesCut_11 rfl ?_
    refine i_getR hC fl_X9_9 (pln rfl) (lay_p218) rfl dX9_ropesCut_12 ?_
    refine i_bipush hC dX9_ropesCut_15 lb_8 ?_
    refine i_iload_n hC dX9_ropesCut_17 rfl ?_
    refine i_iadd hC dX9_ropesCut_18 ?_
    obtain ⟨k2, hf⟩ := ck_of hf
    refine i_iald hC (j0 := ((((8 : Int32) + x2)).toNatClampNeg)) (pln rfl) (lay_p219) (inb_in k2) (Nat.zero_add _) dX9_ropesCut_19 ?_
    refine i_iadd hC dX9_ropesCut_20 ?_
    refine i_istore_n hC dX9_ropesCut_21 (by decide) ?_
    refine i_iinc hC dX9_ropesCut_22 rfl li_1 (by decide) ?_
    refine i_goto hC (tgt := 4) dX9_ropesCut_25 (by decide) ?_
    exact Mj.to (hih4 _ hf) ⟨rfl, rfl, rfl, trivial⟩
theorem b_X9_ropesCut_4 {v : EV} {p : Program} {l : Launch} {e : Env} {s : State} {m : MethodId} {args : Array Value} {below : List Frame} {meth : Method} {c : Code} (hC : Cx v p l e s m args meth c RX9 cX9_ropesCut 3 (some .int)) {S : Mem} {x1 : Int32} {x2 : Int32}  {r : Int32} (hf : f_X9_ropesCut_4 S x1 x2 = some r) : Mj v p l e (rmF 1 12) s m args below meth c 3 (MQ below (Qc v (some (.int r)) S) args s 0 0 (eG v)) 0 S 4 [(0, .ref (eA v (218))), (1, .int x1), (2, .int x2)] [] :=
  lp_ind (P := fun s9 : (Int32 × Int32) => Mj v p l e (rmF 1 12) s m args below meth c 3 (MQ below (Qc v (some (.int r)) S) args s 0 0 (eG v)) 0 S 4 [(0, .ref (eA v (218))), (1, .int (s9.1)), (2, .int (s9.2))] []) (fun ih s9 hih hf => b_X9_ropesCut_4_b hC   hih hf) _ _ hf
set_option maxHeartbeats 4000000 in
set_option maxRecDepth 100000 in
theorem b_X9_ropesCut_0 {v : EV} {p : Program} {l : Launch} {e : Env} {s : State} {m : MethodId} {args : Array Value} {below : List Frame} {meth : Method} {c : Code} (hC : Cx v p l e s m args meth c RX9 cX9_ropesCut 3 (some .int)) {S : Mem}  {r : Int32} (hf : f_X9_ropesCut_0 S = some r) : Mj v p l e (rmF 1 12) s m args below meth c 3 (MQ below (Qc v (some (.int r)) S) args s 0 0 (eG v)) 0 S 0 [(0, .ref (eA v (218)))] [] := by
  refine i_iconst hC dX9_ropesCut_0 li_0 ?_
  refine i_istore_n hC dX9_ropesCut_1 (by decide) ?_
  refine i_iconst hC dX9_ropesCut_2 li_0 ?_
  refine i_istore_n hC dX9_ropesCut_3 (by decide) ?_
  exact Mj.to (b_X9_ropesCut_4 hC  hf) ⟨rfl, rfl, rfl, trivial⟩
theorem c_X9_ropesCut {v : EV} {l : Launch} (hst : Stb v) {S : Mem}  {r : Int32} (hf : g_X9_ropesCut S = some r) : Con v l yX9_ropesCut cX9_ropesCut 3 (some .int) 1 12 [.ref (eA v (218))] S (some (.int r)) S := con_of (by decide) hst (Nat.le_of_ble_eq_true rfl) (fun p e s m args below meth c hC => b_X9_ropesCut_0 hC  hf)
def f_X9_append_20 (S : Mem)  : Option (Int32 × Mem) := some ((-2 : Int32), S)
def f_X9_append_0 (S : Mem) (x1 : Int32) : Option (Int32 × Mem) := bd1 (g_X9_isIn x1 (32 : Int32) (126 : Int32)) (fun r1 => (if r1 = 0 then f_X9_append_20 S else (if (S 28 14) = (60 : Int32) then f_X9_append_20 S else ck (inb (S 28 14) 60) (some (((up (up S 25 (((S 28 14)).toNatClampNeg) x1) 28 14 (((up S 25 (((S 28 14)).toNatClampNeg) x1) 28 14) + (1 : Int32))) 28 14), (up (up S 25 (((S 28 14)).toNatClampNeg) x1) 28 14 (((up S 25 (((S 28 14)).toNatClampNeg) x1) 28 14) + (1 : Int32))))))))
def g_X9_append (S : Mem) (x1 : Int32) : Option (Int32 × Mem) := f_X9_append_0 S x1
set_option maxHeartbeats 4000000 in
set_option maxRecDepth 100000 in
theorem b_X9_append_20 {v : EV} {p : Program} {l : Launch} {e : Env} {s : State} {m : MethodId} {args : Array Value} {below : List Frame} {meth : Method} {c : Code} (hC : Cx v p l e s m args meth c RX9 cX9_append 2 (some .int)) {S : Mem}  {r : Int32 × Mem} (hf : f_X9_append_20 S = some r) : Mj v p l e (rmF 2 34) s m args below meth c 2 (MQ below (Qc v (some (.int r.1)) r.2) args s 0 0 (eG v)) 0 S 20 [] [] := by
  refine i_bipush hC dX9_append_20 lb_m2 ?_
  obtain rfl := Option.some.inj hf
  exact i_iret hC dX9_append_22
set_option maxHeartbeats 4000000 in
set_option maxRecDepth 100000 in
theorem b_X9_append_0 {v : EV} {p : Program} {l : Launch} {e : Env} {s : State} {m : MethodId} {args : Array Value} {below : List Frame} {meth : Method} {c : Code} (hC : Cx v p l e s m args meth c RX9 cX9_append 2 (some .int)) {S : Mem} {x1 : Int32}  {r : Int32 × Mem} (hf : f_X9_append_0 S x1 = some r) : Mj v p l e (rmF 2 34) s m args below meth c 2 (MQ below (Qc v (some (.int r.1)) r.2) args s 0 0 (eG v)) 0 S 0 [(0, .ref (eA v (218))), (1, .int x1)] [] := by
  refine i_iload_n hC dX9_append_0 rfl ?_
  refine i_bipush hC dX9_append_1 lb_32 ?_
  refine i_bipush hC dX9_append_3 lb_126 ?_
  obtain ⟨r1, hc1, hf⟩ := bd1_of hf
  refine i_callSi hC mv_X9_61 (c_X9_isIn hC.2.2.2.2.2.2.2.1 hc1) rfl rfl rfl ⟨Nat.le_of_ble_eq_true rfl, Nat.le_of_ble_eq_true rfl⟩ (Nat.le_of_ble_eq_true rfl) dX9_append_5 ?_
  refine i_if_eq hC (tgt := 20) dX9_append_8 (by decide) (fun c2 => ?_) (fun c2 => ?_)
  · replace hf := (if_pos c2).symm.trans hf
    exact Mj.to (b_X9_append_20 hC  hf) trivial
  · replace hf := (if_neg c2).symm.trans hf
    refine i_aload_n hC dX9_append_11 rfl ?_
    refine i_getI hC fl_X9_182 (pln rfl) (lay_p218) rfl dX9_append_12 ?_
    refine i_bipush hC dX9_append_15 lb_60 ?_
    refine i_icmp_ne hC (tgt := 23) dX9_append_17 (by decide) (fun c3 => ?_) (fun c3 => ?_)
    · replace hf := (if_neg c3).symm.trans hf
      refine i_aload_n hC dX9_append_23 rfl ?_
      refine i_getR hC fl_X9_29 (pln rfl) (lay_p218) rfl dX9_append_24 ?_
      refine i_aload_n hC dX9_append_27 rfl ?_
      refine i_getI hC fl_X9_182 (pln rfl) (lay_p218) rfl dX9_append_28 ?_
      refine i_iload_n hC dX9_append_31 rfl ?_
      obtain ⟨k4, hf⟩ := ck_of hf
      refine i_iast hC (j0 := (((S 28 14)).toNatClampNeg)) (pln rfl) (lay_p224) (bk_l ⟨rfl, rfl, rfl, rfl⟩) (inb_in k4) (Nat.zero_add _) dX9_append_32 ?_
      refine i_aload_n hC dX9_append_33 rfl ?_
      refine i_dup hC dX9_append_34 rfl ?_
      refine i_getI hC fl_X9_182 (pln rfl) (lay_p218) rfl dX9_append_35 ?_
      refine i_iconst hC dX9_append_38 li_1 ?_
      refine i_iadd hC dX9_append_39 ?_
      refine i_putI hC fl_X9_182 (pln rfl) (lay_p218) rfl (bk_l ⟨rfl, rfl, rfl, rfl⟩) (nf_int _) dX9_append_40 ?_
      refine i_aload_n hC dX9_append_43 rfl ?_
      refine i_getI hC fl_X9_182 (pln rfl) (lay_p218) rfl dX9_append_44 ?_
      obtain rfl := Option.some.inj hf
      exact i_iret hC dX9_append_47
    · replace hf := (if_pos c3).symm.trans hf
      exact Mj.to (b_X9_append_20 hC  hf) trivial
theorem c_X9_append {v : EV} {l : Launch} (hst : Stb v) {S : Mem} {x1 : Int32}  {r : Int32 × Mem} (hf : g_X9_append S x1 = some r) : Con v l yX9_append cX9_append 2 (some .int) 2 34 [.ref (eA v (218)), .int x1] S (some (.int r.1)) r.2 := con_of (by decide) hst (Nat.le_of_ble_eq_true rfl) (fun p e s m args below meth c hC => b_X9_append_0 hC  hf)
def f_X9_wordOf_0 (x0 : Int32) : Option (Nat) := (if x0 = (0 : Int32) then some 0 else if x0 = (1 : Int32) then some 1 else if x0 = (2 : Int32) then some 2 else if x0 = (3 : Int32) then some 3 else if x0 = (4 : Int32) then some 4 else if x0 = (5 : Int32) then some 5 else if x0 = (6 : Int32) then some 6 else if x0 = (7 : Int32) then some 7 else some 8)
def g_X9_wordOf (x0 : Int32) : Option (Nat) := f_X9_wordOf_0 x0
set_option maxHeartbeats 4000000 in
set_option maxRecDepth 100000 in
theorem b_X9_wordOf_0 {v : EV} {p : Program} {l : Launch} {e : Env} {s : State} {m : MethodId} {args : Array Value} {below : List Frame} {meth : Method} {c : Code} (hC : Cx v p l e s m args meth c RX9 cX9_wordOf 1 (some (.object "java/lang/String"))) {S : Mem} {x0 : Int32}  {r : Nat} (hf : f_X9_wordOf_0 x0 = some r) : Mj v p l e (rmF 1 12) s m args below meth c 1 (MQ below (Qc v (some (.ref (eT v (10 + r)))) S) args s 0 0 (eG v)) 0 S 0 [(0, .int x0)] [] := by
  refine i_iload_n hC dX9_wordOf_0 rfl ?_
  by_cases c1 : x0 = (0 : Int32)
  · replace hf := (if_pos c1).symm.trans hf
    refine i_tabIn hC (tgt := 48) dX9_wordOf_1 c1 (show ((0 : Int32)).toInt = 0 by decide) (by decide) (by decide) rfl (by decide) ?_
    refine i_ldcS hC (i := 0) (by decide) rfl dX9_wordOf_48 ?_
    obtain rfl := Option.some.inj hf
    exact i_aretG hC (isR_r _) dX9_wordOf_50
  replace hf := (if_neg c1).symm.trans hf
  by_cases c2 : x0 = (1 : Int32)
  · replace hf := (if_pos c2).symm.trans hf
    refine i_tabIn hC (tgt := 51) dX9_wordOf_1 c2 (show ((1 : Int32)).toInt = 1 by decide) (by decide) (by decide) rfl (by decide) ?_
    refine i_ldcS hC (i := 1) (by decide) rfl dX9_wordOf_51 ?_
    obtain rfl := Option.some.inj hf
    exact i_aretG hC (isR_r _) dX9_wordOf_53
  replace hf := (if_neg c2).symm.trans hf
  by_cases c3 : x0 = (2 : Int32)
  · replace hf := (if_pos c3).symm.trans hf
    refine i_tabIn hC (tgt := 54) dX9_wordOf_1 c3 (show ((2 : Int32)).toInt = 2 by decide) (by decide) (by decide) rfl (by decide) ?_
    refine i_ldcS hC (i := 2) (by decide) rfl dX9_wordOf_54 ?_
    obtain rfl := Option.some.inj hf
    exact i_aretG hC (isR_r _) dX9_wordOf_56
  replace hf := (if_neg c3).symm.trans hf
  by_cases c4 : x0 = (3 : Int32)
  · replace hf := (if_pos c4).symm.trans hf
    refine i_tabIn hC (tgt := 57) dX9_wordOf_1 c4 (show ((3 : Int32)).toInt = 3 by decide) (by decide) (by decide) rfl (by decide) ?_
    refine i_ldcS hC (i := 3) (by decide) rfl dX9_wordOf_57 ?_
    obtain rfl := Option.some.inj hf
    exact i_aretG hC (isR_r _) dX9_wordOf_59
  replace hf := (if_neg c4).symm.trans hf
  by_cases c5 : x0 = (4 : Int32)
  · replace hf := (if_pos c5).symm.trans hf
    refine i_tabIn hC (tgt := 60) dX9_wordOf_1 c5 (show ((4 : Int32)).toInt = 4 by decide) (by decide) (by decide) rfl (by decide) ?_
    refine i_ldcS hC (i := 4) (by decide) rfl dX9_wordOf_60 ?_
    obtain rfl := Option.some.inj hf
    exact i_aretG hC (isR_r _) dX9_wordOf_62
  replace hf := (if_neg c5).symm.trans hf
  by_cases c6 : x0 = (5 : Int32)
  · replace hf := (if_pos c6).symm.trans hf
    refine i_tabIn hC (tgt := 63) dX9_wordOf_1 c6 (show ((5 : Int32)).toInt = 5 by decide) (by decide) (by decide) rfl (by decide) ?_
    refine i_ldcS hC (i := 5) (by decide) rfl dX9_wordOf_63 ?_
    obtain rfl := Option.some.inj hf
    exact i_aretG hC (isR_r _) dX9_wordOf_65
  replace hf := (if_neg c6).symm.trans hf
  by_cases c7 : x0 = (6 : Int32)
  · replace hf := (if_pos c7).symm.trans hf
    refine i_tabIn hC (tgt := 66) dX9_wordOf_1 c7 (show ((6 : Int32)).toInt = 6 by decide) (by decide) (by decide) rfl (by decide) ?_
    refine i_ldcS hC (i := 6) (by decide) rfl dX9_wordOf_66 ?_
    obtain rfl := Option.some.inj hf
    exact i_aretG hC (isR_r _) dX9_wordOf_68
  replace hf := (if_neg c7).symm.trans hf
  by_cases c8 : x0 = (7 : Int32)
  · replace hf := (if_pos c8).symm.trans hf
    refine i_tabIn hC (tgt := 69) dX9_wordOf_1 c8 (show ((7 : Int32)).toInt = 7 by decide) (by decide) (by decide) rfl (by decide) ?_
    refine i_ldcS hC (i := 7) (by decide) rfl dX9_wordOf_69 ?_
    obtain rfl := Option.some.inj hf
    exact i_aretG hC (isR_r _) dX9_wordOf_71
  replace hf := (if_neg c8).symm.trans hf
  refine i_tabOut hC (x := x0) (tgt := 72) dX9_wordOf_1 (by
      have z1 := lv_neT c1 (show ((0 : Int32)).toInt = 0 by decide)
      have z2 := lv_neT c2 (show ((1 : Int32)).toInt = 1 by decide)
      have z3 := lv_neT c3 (show ((2 : Int32)).toInt = 2 by decide)
      have z4 := lv_neT c4 (show ((3 : Int32)).toInt = 3 by decide)
      have z5 := lv_neT c5 (show ((4 : Int32)).toInt = 4 by decide)
      have z6 := lv_neT c6 (show ((5 : Int32)).toInt = 5 by decide)
      have z7 := lv_neT c7 (show ((6 : Int32)).toInt = 6 by decide)
      have z8 := lv_neT c8 (show ((7 : Int32)).toInt = 7 by decide)
      omega) (by decide) ?_
  refine i_ldcS hC (i := 8) (by decide) rfl dX9_wordOf_72 ?_
  obtain rfl := Option.some.inj hf
  exact i_aretG hC (isR_r _) dX9_wordOf_74
theorem c_X9_wordOf {v : EV} {l : Launch} (hst : Stb v) {S : Mem} {x0 : Int32}  {r : Nat} (hf : g_X9_wordOf x0 = some r) : Con v l yX9_wordOf cX9_wordOf 1 (some (.object "java/lang/String")) 1 12 [.int x0] S (some (.ref (eT v (10 + r)))) S := con_of (by decide) hst (Nat.le_of_ble_eq_true rfl) (fun p e s m args below meth c hC => b_X9_wordOf_0 hC  hf)
def f_X9_alikeHere_48 (S : Mem) (x2 : Int32) : Option (Int32) := some x2
def f_X9_alikeHere_2_b (ih2 : Int32 → Option (Int32)) (S : Mem) (d1_0 : Nat) (x2 : Int32) : Option (Int32) := bd1 (g_J0_length_8abf5 S d1_0) (fun r1 => (if r1 ≤ x2 then f_X9_alikeHere_48 S x2 else (if (S 28 14) ≤ ((S 28 15) + x2) then f_X9_alikeHere_48 S x2 else ck (inb ((S 28 15) + x2) 60) (bd1 (g_J0_charAt_5068e S d1_0 x2) (fun r5 => (if (S 25 ((((S 28 15) + x2)).toNatClampNeg)) = r5 then ih2 ((x2 + (1 : Int32))) else f_X9_alikeHere_48 S x2))))))
def f_X9_alikeHere_2 (S : Mem) (d1_0 : Nat) (x2 : Int32) : Option (Int32) := lp (fun ih2 s9 => f_X9_alikeHere_2_b ih2 S d1_0 s9) 2000 (x2)
def f_X9_alikeHere_0 (S : Mem) (d1_0 : Nat) : Option (Int32) := f_X9_alikeHere_2 S d1_0 (0 : Int32)
def g_X9_alikeHere (S : Mem) (d1_0 : Nat) : Option (Int32) := f_X9_alikeHere_0 S d1_0
set_option maxHeartbeats 4000000 in
set_option maxRecDepth 100000 in
theorem b_X9_alikeHere_48 {v : EV} {p : Program} {l : Launch} {e : Env} {s : State} {m : MethodId} {args : Array Value} {below : List Frame} {meth : Method} {c : Code} (hC : Cx v p l e s m args meth c RX9 cX9_alikeHere 3 (some .int)) {S : Mem} {x2 : Int32}  {r : Int32} (hf : f_X9_alikeHere_48 S x2 = some r) : Mj v p l e (rmF 5 97) s m args below meth c 3 (MQ below (Qc v (some (.int r)) S) args s 0 0 (eG v)) 0 S 48 [(2, .int x2)] [] := by
  refine i_iload_n hC dX9_alikeHere_48 rfl ?_
  obtain rfl := Option.some.inj hf
  exact i_iret hC dX9_alikeHere_49
set_option maxHeartbeats 4000000 in
set_option maxRecDepth 100000 in
theorem b_X9_alikeHere_2_b {v : EV} {p : Program} {l : Launch} {e : Env} {s : State} {m : MethodId} {args : Array Value} {below : List Frame} {meth : Method} {c : Code} (hC : Cx v p l e s m args meth c RX9 cX9_alikeHere 3 (some .int)) {S : Mem} {d1_0 : Nat} {x2 : Int32} (h1 : d1_0 < 9) {r : Int32} {ih2 : Int32 → Option (Int32)} (hih2 : ∀ s9 : Int32, ih2 s9 = some r → Mj v p l e (rmF 5 97) s m args below meth c 3 (MQ below (Qc v (some (.int r)) S) args s 0 0 (eG v)) 0 S 2 [(0, .ref (eA v (218))), (1, .ref (eT v (10 + d1_0))), (2, .int (s9))] []) (hf : f_X9_alikeHere_2_b ih2 S d1_0 x2 = some r) : Mj v p l e (rmF 5 97) s m args below meth c 3 (MQ below (Qc v (some (.int r)) S) args s 0 0 (eG v)) 0 S 2 [(0, .ref (eA v (218))), (1, .ref (eT v (10 + d1_0))), (2, .int x2)] [] := by
  refine i_iload_n hC dX9_alikeHere_2 rfl ?_
  refine i_aload_n hC dX9_alikeHere_3 rfl ?_
  obtain ⟨r1, hc1, hf⟩ := bd1_of hf
  refine i_callT hC h1 mv_X9_209 (c_J0_length_8abf5 hC.2.2.2.2.2.2.2.1 h1 hc1) rfl rfl rfl ⟨Nat.le_of_ble_eq_true rfl, Nat.le_of_ble_eq_true rfl⟩ (Nat.le_of_ble_eq_true rfl) dX9_alikeHere_4 ?_
  refine i_icmp_ge hC (tgt := 48) dX9_alikeHere_7 (by decide) (fun c2 => ?_) (fun c2 => ?_)
  · replace hf := (if_pos c2).symm.trans hf
    exact Mj.to (b_X9_alikeHere_48 hC  hf) ⟨rfl, trivial⟩
  · replace hf := (if_neg c2).symm.trans hf
    refine i_aload_n hC dX9_alikeHere_10 rfl ?_
    refine i_getI hC fl_X9_185 (pln rfl) (lay_p218) rfl dX9_alikeHere_11 ?_
    refine i_iload_n hC dX9_alikeHere_14 rfl ?_
    refine i_iadd hC dX9_alikeHere_15 ?_
    refine i_aload_n hC dX9_alikeHere_16 rfl ?_
    refine i_getI hC fl_X9_182 (pln rfl) (lay_p218) rfl dX9_alikeHere_17 ?_
    refine i_icmp_ge hC (tgt := 48) dX9_alikeHere_20 (by decide) (fun c3 => ?_) (fun c3 => ?_)
    · replace hf := (if_pos c3).symm.trans hf
      exact Mj.to (b_X9_alikeHere_48 hC  hf) ⟨rfl, trivial⟩
    · replace hf := (if_neg c3).symm.trans hf
      refine i_aload_n hC dX9_alikeHere_23 rfl ?_
      refine i_getR hC fl_X9_29 (pln rfl) (lay_p218) rfl dX9_alikeHere_24 ?_
      refine i_aload_n hC dX9_alikeHere_27 rfl ?_
      refine i_getI hC fl_X9_185 (pln rfl) (lay_p218) rfl dX9_alikeHere_28 ?_
      refine i_iload_n hC dX9_alikeHere_31 rfl ?_
      refine i_iadd hC dX9_alikeHere_32 ?_
      obtain ⟨k4, hf⟩ := ck_of hf
      refine i_iald hC (j0 := ((((S 28 15) + x2)).toNatClampNeg)) (pln rfl) (lay_p224) (inb_in k4) (Nat.zero_add _) dX9_alikeHere_33 ?_
      refine i_aload_n hC dX9_alikeHere_34 rfl ?_
      refine i_iload_n hC dX9_alikeHere_35 rfl ?_
      obtain ⟨r5, hc5, hf⟩ := bd1_of hf
      refine i_callT hC h1 mv_X9_214 (c_J0_charAt_5068e hC.2.2.2.2.2.2.2.1 h1 hc5) rfl rfl rfl ⟨Nat.le_of_ble_eq_true rfl, Nat.le_of_ble_eq_true rfl⟩ (Nat.le_of_ble_eq_true rfl) dX9_alikeHere_36 ?_
      refine i_icmp_ne hC (tgt := 48) dX9_alikeHere_39 (by decide) (fun c6 => ?_) (fun c6 => ?_)
      · replace hf := (if_neg c6).symm.trans hf
        exact Mj.to (b_X9_alikeHere_48 hC  hf) ⟨rfl, trivial⟩
      · replace hf := (if_pos c6).symm.trans hf
        refine i_iinc hC dX9_alikeHere_42 rfl li_1 (by decide) ?_
        refine i_goto hC (tgt := 2) dX9_alikeHere_45 (by decide) ?_
        exact Mj.to (hih2 _ hf) ⟨rfl, rfl, rfl, trivial⟩
theorem b_X9_alikeHere_2 {v : EV} {p : Program} {l : Launch} {e : Env} {s : State} {m : MethodId} {args : Array Value} {below : List Frame} {meth : Method} {c : Code} (hC : Cx v p l e s m args meth c RX9 cX9_alikeHere 3 (some .int)) {S : Mem} {d1_0 : Nat} {x2 : Int32} (h1 : d1_0 < 9) {r : Int32} (hf : f_X9_alikeHere_2 S d1_0 x2 = some r) : Mj v p l e (rmF 5 97) s m args below meth c 3 (MQ below (Qc v (some (.int r)) S) args s 0 0 (eG v)) 0 S 2 [(0, .ref (eA v (218))), (1, .ref (eT v (10 + d1_0))), (2, .int x2)] [] :=
  lp_ind (P := fun s9 : Int32 => Mj v p l e (rmF 5 97) s m args below meth c 3 (MQ below (Qc v (some (.int r)) S) args s 0 0 (eG v)) 0 S 2 [(0, .ref (eA v (218))), (1, .ref (eT v (10 + d1_0))), (2, .int (s9))] []) (fun ih s9 hih hf => b_X9_alikeHere_2_b hC h1  hih hf) _ _ hf
set_option maxHeartbeats 4000000 in
set_option maxRecDepth 100000 in
theorem b_X9_alikeHere_0 {v : EV} {p : Program} {l : Launch} {e : Env} {s : State} {m : MethodId} {args : Array Value} {below : List Frame} {meth : Method} {c : Code} (hC : Cx v p l e s m args meth c RX9 cX9_alikeHere 3 (some .int)) {S : Mem} {d1_0 : Nat} (h1 : d1_0 < 9) {r : Int32} (hf : f_X9_alikeHere_0 S d1_0 = some r) : Mj v p l e (rmF 5 97) s m args below meth c 3 (MQ below (Qc v (some (.int r)) S) args s 0 0 (eG v)) 0 S 0 [(0, .ref (eA v (218))), (1, .ref (eT v (10 + d1_0)))] [] := by
  refine i_iconst hC dX9_alikeHere_0 li_0 ?_
  refine i_istore_n hC dX9_alikeHere_1 (by decide) ?_
  exact Mj.to (b_X9_alikeHere_2 hC h1 hf) ⟨rfl, rfl, rfl, trivial⟩
theorem c_X9_alikeHere {v : EV} {l : Launch} (hst : Stb v) {S : Mem} {d1_0 : Nat} (h1 : d1_0 < 9) {r : Int32} (hf : g_X9_alikeHere S d1_0 = some r) : Con v l yX9_alikeHere cX9_alikeHere 3 (some .int) 5 97 [.ref (eA v (218)), .ref (eT v (10 + d1_0))] S (some (.int r)) S := con_of (by decide) hst (Nat.le_of_ble_eq_true rfl) (fun p e s m args below meth c hC => b_X9_alikeHere_0 hC h1 hf)
def f_X9_sign_24 (S : Mem) (xt0 : Int32) : Option (Int32) := some xt0
def f_X9_sign_0 (S : Mem)  : Option (Int32) := (if (S 28 14) ≤ (S 28 15) then f_X9_sign_24 S (-1 : Int32) else ck (inb (S 28 15) 60) (f_X9_sign_24 S (S 25 (((S 28 15)).toNatClampNeg))))
def g_X9_sign (S : Mem)  : Option (Int32) := f_X9_sign_0 S
set_option maxHeartbeats 4000000 in
set_option maxRecDepth 100000 in
theorem b_X9_sign_24 {v : EV} {p : Program} {l : Launch} {e : Env} {s : State} {m : MethodId} {args : Array Value} {below : List Frame} {meth : Method} {c : Code} (hC : Cx v p l e s m args meth c RX9 cX9_sign 1 (some .int)) {S : Mem} {xt0 : Int32}  {r : Int32} (hf : f_X9_sign_24 S xt0 = some r) : Mj v p l e (rmF 1 12) s m args below meth c 1 (MQ below (Qc v (some (.int r)) S) args s 0 0 (eG v)) 0 S 24 [] [.int xt0] := by
  obtain rfl := Option.some.inj hf
  exact i_iret hC dX9_sign_24
set_option maxHeartbeats 4000000 in
set_option maxRecDepth 100000 in
theorem b_X9_sign_0 {v : EV} {p : Program} {l : Launch} {e : Env} {s : State} {m : MethodId} {args : Array Value} {below : List Frame} {meth : Method} {c : Code} (hC : Cx v p l e s m args meth c RX9 cX9_sign 1 (some .int)) {S : Mem}  {r : Int32} (hf : f_X9_sign_0 S = some r) : Mj v p l e (rmF 1 12) s m args below meth c 1 (MQ below (Qc v (some (.int r)) S) args s 0 0 (eG v)) 0 S 0 [(0, .ref (eA v (218)))] [] := by
  refine i_aload_n hC dX9_sign_0 rfl ?_
  refine i_getI hC fl_X9_185 (pln rfl) (lay_p218) rfl dX9_sign_1 ?_
  refine i_aload_n hC dX9_sign_4 rfl ?_
  refine i_getI hC fl_X9_182 (pln rfl) (lay_p218) rfl dX9_sign_5 ?_
  refine i_icmp_ge hC (tgt := 23) dX9_sign_8 (by decide) (fun c1 => ?_) (fun c1 => ?_)
  · replace hf := (if_pos c1).symm.trans hf
    refine i_iconst hC dX9_sign_23 li_m1 ?_
    exact Mj.to (b_X9_sign_24 hC  hf) trivial
  · replace hf := (if_neg c1).symm.trans hf
    refine i_aload_n hC dX9_sign_11 rfl ?_
    refine i_getR hC fl_X9_29 (pln rfl) (lay_p218) rfl dX9_sign_12 ?_
    refine i_aload_n hC dX9_sign_15 rfl ?_
    refine i_getI hC fl_X9_185 (pln rfl) (lay_p218) rfl dX9_sign_16 ?_
    obtain ⟨k2, hf⟩ := ck_of hf
    refine i_iald hC (j0 := (((S 28 15)).toNatClampNeg)) (pln rfl) (lay_p224) (inb_in k2) (Nat.zero_add _) dX9_sign_19 ?_
    refine i_goto hC (tgt := 24) dX9_sign_20 (by decide) ?_
    exact Mj.to (b_X9_sign_24 hC  hf) trivial
theorem c_X9_sign {v : EV} {l : Launch} (hst : Stb v) {S : Mem}  {r : Int32} (hf : g_X9_sign S = some r) : Con v l yX9_sign cX9_sign 1 (some .int) 1 12 [.ref (eA v (218))] S (some (.int r)) S := con_of (by decide) hst (Nat.le_of_ble_eq_true rfl) (fun p e s m args below meth c hC => b_X9_sign_0 hC  hf)
def f_X9_isSign_28 (S : Mem) (x2 : Int32) (xt0 : Int32) (xt1 : Int32) : Option (Int32 × Mem) := ck (isb x2) (some (x2, (up S 28 15 (xt1 + xt0))))
def f_X9_isSign_13 (S : Mem) (xt0 : Int32) : Option (Int32 × Mem) := (if xt0 = 0 then f_X9_isSign_28 S xt0 (0 : Int32) (S 28 15) else f_X9_isSign_28 S xt0 (1 : Int32) (S 28 15))
def f_X9_isSign_0 (S : Mem) (x1 : Int32) : Option (Int32 × Mem) := bd1 (g_X9_sign S) (fun r1 => (if r1 = x1 then f_X9_isSign_13 S (1 : Int32) else f_X9_isSign_13 S (0 : Int32)))
def g_X9_isSign (S : Mem) (x1 : Int32) : Option (Int32 × Mem) := f_X9_isSign_0 S x1
set_option maxHeartbeats 4000000 in
set_option maxRecDepth 100000 in
theorem b_X9_isSign_28 {v : EV} {p : Program} {l : Launch} {e : Env} {s : State} {m : MethodId} {args : Array Value} {below : List Frame} {meth : Method} {c : Code} (hC : Cx v p l e s m args meth c RX9 cX9_isSign 3 (some .boolean)) {S : Mem} {x2 : Int32} {xt0 : Int32} {xt1 : Int32}  {r : Int32 × Mem} (hf : f_X9_isSign_28 S x2 xt0 xt1 = some r) : Mj v p l e (rmF 2 32) s m args below meth c 3 (MQ below (Qc v (some (.int r.1)) r.2) args s 0 0 (eG v)) 0 S 28 [(2, .int x2)] [.int xt0, .int xt1, .ref (eA v (218))] := by
  refine i_iadd hC dX9_isSign_28 ?_
  refine i_putI hC fl_X9_185 (pln rfl) (lay_p218) rfl (bk_l ⟨rfl, rfl, rfl, rfl⟩) (nf_int _) dX9_isSign_29 ?_
  refine i_iload_n hC dX9_isSign_32 rfl ?_
  obtain ⟨k4, hf⟩ := ck_of hf
  obtain rfl := Option.some.inj hf
  exact i_zret hC dX9_isSign_33 (isb_z k4).1
set_option maxHeartbeats 4000000 in
set_option maxRecDepth 100000 in
theorem b_X9_isSign_13 {v : EV} {p : Program} {l : Launch} {e : Env} {s : State} {m : MethodId} {args : Array Value} {below : List Frame} {meth : Method} {c : Code} (hC : Cx v p l e s m args meth c RX9 cX9_isSign 3 (some .boolean)) {S : Mem} {xt0 : Int32}  {r : Int32 × Mem} (hf : f_X9_isSign_13 S xt0 = some r) : Mj v p l e (rmF 2 32) s m args below meth c 3 (MQ below (Qc v (some (.int r.1)) r.2) args s 0 0 (eG v)) 0 S 13 [(0, .ref (eA v (218)))] [.int xt0] := by
  refine i_istore_n hC dX9_isSign_13 (by decide) ?_
  refine i_aload_n hC dX9_isSign_14 rfl ?_
  refine i_dup hC dX9_isSign_15 rfl ?_
  refine i_getI hC fl_X9_185 (pln rfl) (lay_p218) rfl dX9_isSign_16 ?_
  refine i_iload_n hC dX9_isSign_19 rfl ?_
  refine i_if_eq hC (tgt := 27) dX9_isSign_20 (by decide) (fun c3 => ?_) (fun c3 => ?_)
  · replace hf := (if_pos c3).symm.trans hf
    refine i_iconst hC dX9_isSign_27 li_0 ?_
    exact Mj.to (b_X9_isSign_28 hC  hf) ⟨rfl, trivial⟩
  · replace hf := (if_neg c3).symm.trans hf
    refine i_iconst hC dX9_isSign_23 li_1 ?_
    refine i_goto hC (tgt := 28) dX9_isSign_24 (by decide) ?_
    exact Mj.to (b_X9_isSign_28 hC  hf) ⟨rfl, trivial⟩
set_option maxHeartbeats 4000000 in
set_option maxRecDepth 100000 in
theorem b_X9_isSign_0 {v : EV} {p : Program} {l : Launch} {e : Env} {s : State} {m : MethodId} {args : Array Value} {below : List Frame} {meth : Method} {c : Code} (hC : Cx v p l e s m args meth c RX9 cX9_isSign 3 (some .boolean)) {S : Mem} {x1 : Int32}  {r : Int32 × Mem} (hf : f_X9_isSign_0 S x1 = some r) : Mj v p l e (rmF 2 32) s m args below meth c 3 (MQ below (Qc v (some (.int r.1)) r.2) args s 0 0 (eG v)) 0 S 0 [(0, .ref (eA v (218))), (1, .int x1)] [] := by
  refine i_aload_n hC dX9_isSign_0 rfl ?_
  obtain ⟨r1, hc1, hf⟩ := bd1_of hf
  refine i_callVi hC mv_X9_188 (c_X9_sign hC.2.2.2.2.2.2.2.1 hc1) (pln rfl) (lay_p218) rfl rfl rfl rfl ⟨Nat.le_of_ble_eq_true rfl, Nat.le_of_ble_eq_true rfl⟩ (Nat.le_of_ble_eq_true rfl) dX9_isSign_1 ?_
  refine i_iload_n hC dX9_isSign_4 rfl ?_
  refine i_icmp_ne hC (tgt := 12) dX9_isSign_5 (by decide) (fun c2 => ?_) (fun c2 => ?_)
  · replace hf := (if_neg c2).symm.trans hf
    refine i_iconst hC dX9_isSign_12 li_0 ?_
    exact Mj.to (b_X9_isSign_13 hC  hf) ⟨rfl, trivial⟩
  · replace hf := (if_pos c2).symm.trans hf
    refine i_iconst hC dX9_isSign_8 li_1 ?_
    refine i_goto hC (tgt := 13) dX9_isSign_9 (by decide) ?_
    exact Mj.to (b_X9_isSign_13 hC  hf) ⟨rfl, trivial⟩
theorem c_X9_isSign {v : EV} {l : Launch} (hst : Stb v) {S : Mem} {x1 : Int32}  {r : Int32 × Mem} (hf : g_X9_isSign S x1 = some r) : Con v l yX9_isSign cX9_isSign 3 (some .boolean) 2 32 [.ref (eA v (218)), .int x1] S (some (.int r.1)) r.2 := con_of (by decide) hst (Nat.le_of_ble_eq_true rfl) (fun p e s m args below meth c hC => b_X9_isSign_0 hC  hf)
def f_X9_isLetter_35 (S : Mem) (x3 : Int32) (xt0 : Int32) (xt1 : Int32) : Option (Int32 × Mem) := ck (isb x3) (some (x3, (up S 28 15 (xt1 + xt0))))
def f_X9_isLetter_0 (S : Mem) (x1 : Int32) : Option (Int32 × Mem) := bd1 (g_X9_sign S) (fun r1 => bd1 (g_X9_isIn r1 (97 : Int32) (122 : Int32)) (fun r2 => ck (inb x1 39) ((if r2 = 0 then f_X9_isLetter_35 (up S 26 ((x1).toNatClampNeg) r1) r2 (0 : Int32) ((up S 26 ((x1).toNatClampNeg) r1) 28 15) else f_X9_isLetter_35 (up S 26 ((x1).toNatClampNeg) r1) r2 (1 : Int32) ((up S 26 ((x1).toNatClampNeg) r1) 28 15)))))
def g_X9_isLetter (S : Mem) (x1 : Int32) : Option (Int32 × Mem) := f_X9_isLetter_0 S x1
set_option maxHeartbeats 4000000 in
set_option maxRecDepth 100000 in
theorem b_X9_isLetter_35 {v : EV} {p : Program} {l : Launch} {e : Env} {s : State} {m : MethodId} {args : Array Value} {below : List Frame} {meth : Method} {c : Code} (hC : Cx v p l e s m args meth c RX9 cX9_isLetter 4 (some .boolean)) {S : Mem} {x3 : Int32} {xt0 : Int32} {xt1 : Int32}  {r : Int32 × Mem} (hf : f_X9_isLetter_35 S x3 xt0 xt1 = some r) : Mj v p l e (rmF 2 34) s m args below meth c 4 (MQ below (Qc v (some (.int r.1)) r.2) args s 0 0 (eG v)) 0 S 35 [(3, .int x3)] [.int xt0, .int xt1, .ref (eA v (218))] := by
  refine i_iadd hC dX9_isLetter_35 ?_
  refine i_putI hC fl_X9_185 (pln rfl) (lay_p218) rfl (bk_l ⟨rfl, rfl, rfl, rfl⟩) (nf_int _) dX9_isLetter_36 ?_
  refine i_iload_n hC dX9_isLetter_39 rfl ?_
  obtain ⟨k5, hf⟩ := ck_of hf
  obtain rfl := Option.some.inj hf
  exact i_zret hC dX9_isLetter_40 (isb_z k5).1
set_option maxHeartbeats 4000000 in
set_option maxRecDepth 100000 in
theorem b_X9_isLetter_0 {v : EV} {p : Program} {l : Launch} {e : Env} {s : State} {m : MethodId} {args : Array Value} {below : List Frame} {meth : Method} {c : Code} (hC : Cx v p l e s m args meth c RX9 cX9_isLetter 4 (some .boolean)) {S : Mem} {x1 : Int32}  {r : Int32 × Mem} (hf : f_X9_isLetter_0 S x1 = some r) : Mj v p l e (rmF 2 34) s m args below meth c 4 (MQ below (Qc v (some (.int r.1)) r.2) args s 0 0 (eG v)) 0 S 0 [(0, .ref (eA v (218))), (1, .int x1)] [] := by
  refine i_aload_n hC dX9_isLetter_0 rfl ?_
  obtain ⟨r1, hc1, hf⟩ := bd1_of hf
  refine i_callVi hC mv_X9_188 (c_X9_sign hC.2.2.2.2.2.2.2.1 hc1) (pln rfl) (lay_p218) rfl rfl rfl rfl ⟨Nat.le_of_ble_eq_true rfl, Nat.le_of_ble_eq_true rfl⟩ (Nat.le_of_ble_eq_true rfl) dX9_isLetter_1 ?_
  refine i_istore_n hC dX9_isLetter_4 (by decide) ?_
  refine i_iload_n hC dX9_isLetter_5 rfl ?_
  refine i_bipush hC dX9_isLetter_6 lb_97 ?_
  refine i_bipush hC dX9_isLetter_8 lb_122 ?_
  obtain ⟨r2, hc2, hf⟩ := bd1_of hf
  refine i_callSi hC mv_X9_61 (c_X9_isIn hC.2.2.2.2.2.2.2.1 hc2) rfl rfl rfl ⟨Nat.le_of_ble_eq_true rfl, Nat.le_of_ble_eq_true rfl⟩ (Nat.le_of_ble_eq_true rfl) dX9_isLetter_10 ?_
  refine i_istore_n hC dX9_isLetter_13 (by decide) ?_
  refine i_aload_n hC dX9_isLetter_14 rfl ?_
  refine i_getR hC fl_X9_32 (pln rfl) (lay_p218) rfl dX9_isLetter_15 ?_
  refine i_iload_n hC dX9_isLetter_18 rfl ?_
  refine i_iload_n hC dX9_isLetter_19 rfl ?_
  obtain ⟨k3, hf⟩ := ck_of hf
  refine i_iast hC (j0 := ((x1).toNatClampNeg)) (pln rfl) (lay_p225) (bk_l ⟨rfl, rfl, rfl, rfl⟩) (inb_in k3) (Nat.zero_add _) dX9_isLetter_20 ?_
  refine i_aload_n hC dX9_isLetter_21 rfl ?_
  refine i_dup hC dX9_isLetter_22 rfl ?_
  refine i_getI hC fl_X9_185 (pln rfl) (lay_p218) rfl dX9_isLetter_23 ?_
  refine i_iload_n hC dX9_isLetter_26 rfl ?_
  refine i_if_eq hC (tgt := 34) dX9_isLetter_27 (by decide) (fun c4 => ?_) (fun c4 => ?_)
  · replace hf := (if_pos c4).symm.trans hf
    refine i_iconst hC dX9_isLetter_34 li_0 ?_
    exact Mj.to (b_X9_isLetter_35 hC  hf) ⟨rfl, trivial⟩
  · replace hf := (if_neg c4).symm.trans hf
    refine i_iconst hC dX9_isLetter_30 li_1 ?_
    refine i_goto hC (tgt := 35) dX9_isLetter_31 (by decide) ?_
    exact Mj.to (b_X9_isLetter_35 hC  hf) ⟨rfl, trivial⟩
theorem c_X9_isLetter {v : EV} {l : Launch} (hst : Stb v) {S : Mem} {x1 : Int32}  {r : Int32 × Mem} (hf : g_X9_isLetter S x1 = some r) : Con v l yX9_isLetter cX9_isLetter 4 (some .boolean) 2 34 [.ref (eA v (218)), .int x1] S (some (.int r.1)) r.2 := con_of (by decide) hst (Nat.le_of_ble_eq_true rfl) (fun p e s m args below meth c hC => b_X9_isLetter_0 hC  hf)
def f_X9_isBehind_44 (S : Mem) (x2 : Int32) (xt0 : Int32) : Option (Mem) := some (up (up S 28 6 xt0) 28 7 x2)
def f_X9_isBehind_29 (S : Mem) (x1 : Int32) (x2 : Int32) (xt0 : Int32) : Option (Mem) := (if x1 = 0 then f_X9_isBehind_44 (up S 28 9 xt0) x2 (9 : Int32) else f_X9_isBehind_44 (up S 28 9 xt0) x2 (8 : Int32))
def f_X9_isBehind_13 (S : Mem) (x1 : Int32) (x2 : Int32) (xt0 : Int32) : Option (Mem) := (if x1 = 0 then f_X9_isBehind_29 (up S 28 8 xt0) x1 x2 (0 : Int32) else f_X9_isBehind_29 (up S 28 8 xt0) x1 x2 ((up S 28 8 xt0) 28 7))
def f_X9_isBehind_0 (S : Mem) (x1 : Int32) (x2 : Int32) : Option (Mem) := (if x1 = 0 then f_X9_isBehind_13 S x1 x2 (0 : Int32) else f_X9_isBehind_13 S x1 x2 (S 28 6))
def g_X9_isBehind (S : Mem) (x1 : Int32) (x2 : Int32) : Option (Mem) := f_X9_isBehind_0 S x1 x2
set_option maxHeartbeats 4000000 in
set_option maxRecDepth 100000 in
theorem b_X9_isBehind_44 {v : EV} {p : Program} {l : Launch} {e : Env} {s : State} {m : MethodId} {args : Array Value} {below : List Frame} {meth : Method} {c : Code} (hC : Cx v p l e s m args meth c RX9 cX9_isBehind 3 none) {S : Mem} {x2 : Int32} {xt0 : Int32}  {r : Mem} (hf : f_X9_isBehind_44 S x2 xt0 = some r) : Mj v p l e (rmF 1 12) s m args below meth c 3 (MQ below (Qc v (none) r) args s 0 0 (eG v)) 0 S 44 [(0, .ref (eA v (218))), (2, .int x2)] [.int xt0, .ref (eA v (218))] := by
  refine i_putI hC fl_X9_48 (pln rfl) (lay_p218) rfl (bk_l ⟨rfl, rfl, rfl, rfl⟩) (nf_int _) dX9_isBehind_44 ?_
  refine i_aload_n hC dX9_isBehind_47 rfl ?_
  refine i_iload_n hC dX9_isBehind_48 rfl ?_
  refine i_putI hC fl_X9_51 (pln rfl) (lay_p218) rfl (bk_l ⟨rfl, rfl, rfl, rfl⟩) (nf_int _) dX9_isBehind_49 ?_
  obtain rfl := Option.some.inj hf
  exact i_vret hC dX9_isBehind_52
set_option maxHeartbeats 4000000 in
set_option maxRecDepth 100000 in
theorem b_X9_isBehind_29 {v : EV} {p : Program} {l : Launch} {e : Env} {s : State} {m : MethodId} {args : Array Value} {below : List Frame} {meth : Method} {c : Code} (hC : Cx v p l e s m args meth c RX9 cX9_isBehind 3 none) {S : Mem} {x1 : Int32} {x2 : Int32} {xt0 : Int32}  {r : Mem} (hf : f_X9_isBehind_29 S x1 x2 xt0 = some r) : Mj v p l e (rmF 1 12) s m args below meth c 3 (MQ below (Qc v (none) r) args s 0 0 (eG v)) 0 S 29 [(0, .ref (eA v (218))), (1, .int x1), (2, .int x2)] [.int xt0, .ref (eA v (218))] := by
  refine i_putI hC fl_X9_248 (pln rfl) (lay_p218) rfl (bk_l ⟨rfl, rfl, rfl, rfl⟩) (nf_int _) dX9_isBehind_29 ?_
  refine i_aload_n hC dX9_isBehind_32 rfl ?_
  refine i_iload_n hC dX9_isBehind_33 rfl ?_
  refine i_if_eq hC (tgt := 42) dX9_isBehind_34 (by decide) (fun c3 => ?_) (fun c3 => ?_)
  · replace hf := (if_pos c3).symm.trans hf
    refine i_bipush hC dX9_isBehind_42 lb_9 ?_
    exact Mj.to (b_X9_isBehind_44 hC  hf) ⟨rfl, rfl, trivial⟩
  · replace hf := (if_neg c3).symm.trans hf
    refine i_bipush hC dX9_isBehind_37 lb_8 ?_
    refine i_goto hC (tgt := 44) dX9_isBehind_39 (by decide) ?_
    exact Mj.to (b_X9_isBehind_44 hC  hf) ⟨rfl, rfl, trivial⟩
set_option maxHeartbeats 4000000 in
set_option maxRecDepth 100000 in
theorem b_X9_isBehind_13 {v : EV} {p : Program} {l : Launch} {e : Env} {s : State} {m : MethodId} {args : Array Value} {below : List Frame} {meth : Method} {c : Code} (hC : Cx v p l e s m args meth c RX9 cX9_isBehind 3 none) {S : Mem} {x1 : Int32} {x2 : Int32} {xt0 : Int32}  {r : Mem} (hf : f_X9_isBehind_13 S x1 x2 xt0 = some r) : Mj v p l e (rmF 1 12) s m args below meth c 3 (MQ below (Qc v (none) r) args s 0 0 (eG v)) 0 S 13 [(0, .ref (eA v (218))), (1, .int x1), (2, .int x2)] [.int xt0, .ref (eA v (218))] := by
  refine i_putI hC fl_X9_54 (pln rfl) (lay_p218) rfl (bk_l ⟨rfl, rfl, rfl, rfl⟩) (nf_int _) dX9_isBehind_13 ?_
  refine i_aload_n hC dX9_isBehind_16 rfl ?_
  refine i_iload_n hC dX9_isBehind_17 rfl ?_
  refine i_if_eq hC (tgt := 28) dX9_isBehind_18 (by decide) (fun c2 => ?_) (fun c2 => ?_)
  · replace hf := (if_pos c2).symm.trans hf
    refine i_iconst hC dX9_isBehind_28 li_0 ?_
    exact Mj.to (b_X9_isBehind_29 hC  hf) ⟨rfl, rfl, rfl, trivial⟩
  · replace hf := (if_neg c2).symm.trans hf
    refine i_aload_n hC dX9_isBehind_21 rfl ?_
    refine i_getI hC fl_X9_51 (pln rfl) (lay_p218) rfl dX9_isBehind_22 ?_
    refine i_goto hC (tgt := 29) dX9_isBehind_25 (by decide) ?_
    exact Mj.to (b_X9_isBehind_29 hC  hf) ⟨rfl, rfl, rfl, trivial⟩
set_option maxHeartbeats 4000000 in
set_option maxRecDepth 100000 in
theorem b_X9_isBehind_0 {v : EV} {p : Program} {l : Launch} {e : Env} {s : State} {m : MethodId} {args : Array Value} {below : List Frame} {meth : Method} {c : Code} (hC : Cx v p l e s m args meth c RX9 cX9_isBehind 3 none) {S : Mem} {x1 : Int32} {x2 : Int32}  {r : Mem} (hf : f_X9_isBehind_0 S x1 x2 = some r) : Mj v p l e (rmF 1 12) s m args below meth c 3 (MQ below (Qc v (none) r) args s 0 0 (eG v)) 0 S 0 [(0, .ref (eA v (218))), (1, .int x1), (2, .int x2)] [] := by
  refine i_aload_n hC dX9_isBehind_0 rfl ?_
  refine i_iload_n hC dX9_isBehind_1 rfl ?_
  refine i_if_eq hC (tgt := 12) dX9_isBehind_2 (by decide) (fun c1 => ?_) (fun c1 => ?_)
  · replace hf := (if_pos c1).symm.trans hf
    refine i_iconst hC dX9_isBehind_12 li_0 ?_
    exact Mj.to (b_X9_isBehind_13 hC  hf) ⟨rfl, rfl, rfl, trivial⟩
  · replace hf := (if_neg c1).symm.trans hf
    refine i_aload_n hC dX9_isBehind_5 rfl ?_
    refine i_getI hC fl_X9_48 (pln rfl) (lay_p218) rfl dX9_isBehind_6 ?_
    refine i_goto hC (tgt := 13) dX9_isBehind_9 (by decide) ?_
    exact Mj.to (b_X9_isBehind_13 hC  hf) ⟨rfl, rfl, rfl, trivial⟩
theorem c_X9_isBehind {v : EV} {l : Launch} (hst : Stb v) {S : Mem} {x1 x2 : Int32}  {r : Mem} (hf : g_X9_isBehind S x1 x2 = some r) : Con v l yX9_isBehind cX9_isBehind 3 none 1 12 [.ref (eA v (218)), .int x1, .int x2] S (none) r := con_of (by decide) hst (Nat.le_of_ble_eq_true rfl) (fun p e s m args below meth c hC => b_X9_isBehind_0 hC  hf)
def f_X9_fault_0 (S : Mem)  : Option (Int32) := some (S 28 10)
def g_X9_fault (S : Mem)  : Option (Int32) := f_X9_fault_0 S
set_option maxHeartbeats 4000000 in
set_option maxRecDepth 100000 in
theorem b_X9_fault_0 {v : EV} {p : Program} {l : Launch} {e : Env} {s : State} {m : MethodId} {args : Array Value} {below : List Frame} {meth : Method} {c : Code} (hC : Cx v p l e s m args meth c RX9 cX9_fault 1 (some .int)) {S : Mem}  {r : Int32} (hf : f_X9_fault_0 S = some r) : Mj v p l e (rmF 1 12) s m args below meth c 1 (MQ below (Qc v (some (.int r)) S) args s 0 0 (eG v)) 0 S 0 [(0, .ref (eA v (218)))] [] := by
  refine i_aload_n hC dX9_fault_0 rfl ?_
  refine i_getI hC fl_X9_25 (pln rfl) (lay_p218) rfl dX9_fault_1 ?_
  obtain rfl := Option.some.inj hf
  exact i_iret hC dX9_fault_4
theorem c_X9_fault {v : EV} {l : Launch} (hst : Stb v) {S : Mem}  {r : Int32} (hf : g_X9_fault S = some r) : Con v l yX9_fault cX9_fault 1 (some .int) 1 12 [.ref (eA v (218))] S (some (.int r)) S := con_of (by decide) hst (Nat.le_of_ble_eq_true rfl) (fun p e s m args below meth c hC => b_X9_fault_0 hC  hf)
def f_X9_reason_73 (S : Mem) (xt0 : Int32) : Option (Int32) := some xt0
def f_X9_reason_36 (S : Mem) (x1 : Int32) (x2 : Int32) : Option (Int32) := (if x1 = 0 then (if x2 = 0 then f_X9_reason_73 S (S 28 6) else f_X9_reason_73 S (S 28 7)) else (if x2 = 0 then f_X9_reason_73 S (S 28 8) else f_X9_reason_73 S (S 28 9)))
def f_X9_reason_33 (S : Mem)  : Option (Int32) := some (-4 : Int32)
def f_X9_reason_0 (S : Mem) (x1 : Int32) (x2 : Int32) : Option (Int32) := bd1 (g_X9_isIn x1 (0 : Int32) (1 : Int32)) (fun r1 => (if r1 = 0 then some (-2 : Int32) else (if x1 = 0 then (if (S 28 6) = 0 then f_X9_reason_33 S else f_X9_reason_36 S x1 x2) else (if (S 28 8) = 0 then f_X9_reason_33 S else f_X9_reason_36 S x1 x2))))
def g_X9_reason (S : Mem) (x1 : Int32) (x2 : Int32) : Option (Int32) := f_X9_reason_0 S x1 x2
set_option maxHeartbeats 4000000 in
set_option maxRecDepth 100000 in
theorem b_X9_reason_73 {v : EV} {p : Program} {l : Launch} {e : Env} {s : State} {m : MethodId} {args : Array Value} {below : List Frame} {meth : Method} {c : Code} (hC : Cx v p l e s m args meth c RX9 cX9_reason 3 (some .int)) {S : Mem} {xt0 : Int32}  {r : Int32} (hf : f_X9_reason_73 S xt0 = some r) : Mj v p l e (rmF 2 34) s m args below meth c 3 (MQ below (Qc v (some (.int r)) S) args s 0 0 (eG v)) 0 S 73 [] [.int xt0] := by
  obtain rfl := Option.some.inj hf
  exact i_iret hC dX9_reason_73
set_option maxHeartbeats 4000000 in
set_option maxRecDepth 100000 in
theorem b_X9_reason_36 {v : EV} {p : Program} {l : Launch} {e : Env} {s : State} {m : MethodId} {args : Array Value} {below : List Frame} {meth : Method} {c : Code} (hC : Cx v p l e s m args meth c RX9 cX9_reason 3 (some .int)) {S : Mem} {x1 : Int32} {x2 : Int32}  {r : Int32} (hf : f_X9_reason_36 S x1 x2 = some r) : Mj v p l e (rmF 2 34) s m args below meth c 3 (MQ below (Qc v (some (.int r)) S) args s 0 0 (eG v)) 0 S 36 [(0, .ref (eA v (218))), (1, .int x1), (2, .int x2)] [] := by
  refine i_iload_n hC dX9_reason_36 rfl ?_
  refine i_if_ne hC (tgt := 58) dX9_reason_37 (by decide) (fun c5 => ?_) (fun c5 => ?_)
  · replace hf := (if_neg c5).symm.trans hf
    refine i_iload_n hC dX9_reason_58 rfl ?_
    refine i_if_eq hC (tgt := 69) dX9_reason_59 (by decide) (fun c6 => ?_) (fun c6 => ?_)
    · replace hf := (if_pos c6).symm.trans hf
      refine i_aload_n hC dX9_reason_69 rfl ?_
      refine i_getI hC fl_X9_54 (pln rfl) (lay_p218) rfl dX9_reason_70 ?_
      exact Mj.to (b_X9_reason_73 hC  hf) trivial
    · replace hf := (if_neg c6).symm.trans hf
      refine i_aload_n hC dX9_reason_62 rfl ?_
      refine i_getI hC fl_X9_248 (pln rfl) (lay_p218) rfl dX9_reason_63 ?_
      refine i_goto hC (tgt := 73) dX9_reason_66 (by decide) ?_
      exact Mj.to (b_X9_reason_73 hC  hf) trivial
  · replace hf := (if_pos c5).symm.trans hf
    refine i_iload_n hC dX9_reason_40 rfl ?_
    refine i_if_eq hC (tgt := 51) dX9_reason_41 (by decide) (fun c7 => ?_) (fun c7 => ?_)
    · replace hf := (if_pos c7).symm.trans hf
      refine i_aload_n hC dX9_reason_51 rfl ?_
      refine i_getI hC fl_X9_48 (pln rfl) (lay_p218) rfl dX9_reason_52 ?_
      refine i_goto hC (tgt := 73) dX9_reason_55 (by decide) ?_
      exact Mj.to (b_X9_reason_73 hC  hf) trivial
    · replace hf := (if_neg c7).symm.trans hf
      refine i_aload_n hC dX9_reason_44 rfl ?_
      refine i_getI hC fl_X9_51 (pln rfl) (lay_p218) rfl dX9_reason_45 ?_
      refine i_goto hC (tgt := 73) dX9_reason_48 (by decide) ?_
      exact Mj.to (b_X9_reason_73 hC  hf) trivial
set_option maxHeartbeats 4000000 in
set_option maxRecDepth 100000 in
theorem b_X9_reason_33 {v : EV} {p : Program} {l : Launch} {e : Env} {s : State} {m : MethodId} {args : Array Value} {below : List Frame} {meth : Method} {c : Code} (hC : Cx v p l e s m args meth c RX9 cX9_reason 3 (some .int)) {S : Mem}  {r : Int32} (hf : f_X9_reason_33 S = some r) : Mj v p l e (rmF 2 34) s m args below meth c 3 (MQ below (Qc v (some (.int r)) S) args s 0 0 (eG v)) 0 S 33 [] [] := by
  refine i_bipush hC dX9_reason_33 lb_m4 ?_
  obtain rfl := Option.some.inj hf
  exact i_iret hC dX9_reason_35
set_option maxHeartbeats 4000000 in
set_option maxRecDepth 100000 in
theorem b_X9_reason_0 {v : EV} {p : Program} {l : Launch} {e : Env} {s : State} {m : MethodId} {args : Array Value} {below : List Frame} {meth : Method} {c : Code} (hC : Cx v p l e s m args meth c RX9 cX9_reason 3 (some .int)) {S : Mem} {x1 : Int32} {x2 : Int32}  {r : Int32} (hf : f_X9_reason_0 S x1 x2 = some r) : Mj v p l e (rmF 2 34) s m args below meth c 3 (MQ below (Qc v (some (.int r)) S) args s 0 0 (eG v)) 0 S 0 [(0, .ref (eA v (218))), (1, .int x1), (2, .int x2)] [] := by
  refine i_iload_n hC dX9_reason_0 rfl ?_
  refine i_iconst hC dX9_reason_1 li_0 ?_
  refine i_iconst hC dX9_reason_2 li_1 ?_
  obtain ⟨r1, hc1, hf⟩ := bd1_of hf
  refine i_callSi hC mv_X9_61 (c_X9_isIn hC.2.2.2.2.2.2.2.1 hc1) rfl rfl rfl ⟨Nat.le_of_ble_eq_true rfl, Nat.le_of_ble_eq_true rfl⟩ (Nat.le_of_ble_eq_true rfl) dX9_reason_3 ?_
  refine i_if_ne hC (tgt := 12) dX9_reason_6 (by decide) (fun c2 => ?_) (fun c2 => ?_)
  · replace hf := (if_neg c2).symm.trans hf
    refine i_iload_n hC dX9_reason_12 rfl ?_
    refine i_if_ne hC (tgt := 26) dX9_reason_13 (by decide) (fun c3 => ?_) (fun c3 => ?_)
    · replace hf := (if_neg c3).symm.trans hf
      refine i_aload_n hC dX9_reason_26 rfl ?_
      refine i_getI hC fl_X9_54 (pln rfl) (lay_p218) rfl dX9_reason_27 ?_
      refine i_if_ne hC (tgt := 36) dX9_reason_30 (by decide) (fun c4 => ?_) (fun c4 => ?_)
      · replace hf := (if_neg c4).symm.trans hf
        exact Mj.to (b_X9_reason_36 hC  hf) ⟨rfl, rfl, rfl, trivial⟩
      · replace hf := (if_pos c4).symm.trans hf
        exact Mj.to (b_X9_reason_33 hC  hf) trivial
    · replace hf := (if_pos c3).symm.trans hf
      refine i_aload_n hC dX9_reason_16 rfl ?_
      refine i_getI hC fl_X9_48 (pln rfl) (lay_p218) rfl dX9_reason_17 ?_
      refine i_if_ne hC (tgt := 36) dX9_reason_20 (by decide) (fun c8 => ?_) (fun c8 => ?_)
      · replace hf := (if_neg c8).symm.trans hf
        exact Mj.to (b_X9_reason_36 hC  hf) ⟨rfl, rfl, rfl, trivial⟩
      · replace hf := (if_pos c8).symm.trans hf
        refine i_goto hC (tgt := 33) dX9_reason_23 (by decide) ?_
        exact Mj.to (b_X9_reason_33 hC  hf) trivial
  · replace hf := (if_pos c2).symm.trans hf
    refine i_bipush hC dX9_reason_9 lb_m2 ?_
    obtain rfl := Option.some.inj hf
    exact i_iret hC dX9_reason_11
theorem c_X9_reason {v : EV} {l : Launch} (hst : Stb v) {S : Mem} {x1 x2 : Int32}  {r : Int32} (hf : g_X9_reason S x1 x2 = some r) : Con v l yX9_reason cX9_reason 3 (some .int) 2 34 [.ref (eA v (218)), .int x1, .int x2] S (some (.int r)) S := con_of (by decide) hst (Nat.le_of_ble_eq_true rfl) (fun p e s m args below meth c hC => b_X9_reason_0 hC  hf)
def f_X9_isLine_27 (S : Mem) (xt0 : Int32) : Option (Int32) := ck (isb xt0) (some xt0)
def f_X9_isLine_26 (S : Mem)  : Option (Int32) := f_X9_isLine_27 S (0 : Int32)
def f_X9_isLine_0 (S : Mem) (x1 : Int32) (x2 : Int32) : Option (Int32) := bd1 (g_X9_isDriver S x1) (fun r1 => (if r1 = 0 then f_X9_isLine_26 S else bd1 (g_X9_of S x1 (5 : Int32)) (fun r4 => bd1 (g_X9_isIn x2 (1 : Int32) r4) (fun r5 => (if r5 = 0 then f_X9_isLine_26 S else f_X9_isLine_27 S (1 : Int32))))))
def g_X9_isLine (S : Mem) (x1 : Int32) (x2 : Int32) : Option (Int32) := f_X9_isLine_0 S x1 x2
set_option maxHeartbeats 4000000 in
set_option maxRecDepth 100000 in
theorem b_X9_isLine_27 {v : EV} {p : Program} {l : Launch} {e : Env} {s : State} {m : MethodId} {args : Array Value} {below : List Frame} {meth : Method} {c : Code} (hC : Cx v p l e s m args meth c RX9 cX9_isLine 3 (some .boolean)) {S : Mem} {xt0 : Int32}  {r : Int32} (hf : f_X9_isLine_27 S xt0 = some r) : Mj v p l e (rmF 3 55) s m args below meth c 3 (MQ below (Qc v (some (.int r)) S) args s 0 0 (eG v)) 0 S 27 [] [.int xt0] := by
  obtain ⟨k3, hf⟩ := ck_of hf
  obtain rfl := Option.some.inj hf
  exact i_zret hC dX9_isLine_27 (isb_z k3).1
set_option maxHeartbeats 4000000 in
set_option maxRecDepth 100000 in
theorem b_X9_isLine_26 {v : EV} {p : Program} {l : Launch} {e : Env} {s : State} {m : MethodId} {args : Array Value} {below : List Frame} {meth : Method} {c : Code} (hC : Cx v p l e s m args meth c RX9 cX9_isLine 3 (some .boolean)) {S : Mem}  {r : Int32} (hf : f_X9_isLine_26 S = some r) : Mj v p l e (rmF 3 55) s m args below meth c 3 (MQ below (Qc v (some (.int r)) S) args s 0 0 (eG v)) 0 S 26 [] [] := by
  refine i_iconst hC dX9_isLine_26 li_0 ?_
  exact Mj.to (b_X9_isLine_27 hC  hf) trivial
set_option maxHeartbeats 4000000 in
set_option maxRecDepth 100000 in
theorem b_X9_isLine_0 {v : EV} {p : Program} {l : Launch} {e : Env} {s : State} {m : MethodId} {args : Array Value} {below : List Frame} {meth : Method} {c : Code} (hC : Cx v p l e s m args meth c RX9 cX9_isLine 3 (some .boolean)) {S : Mem} {x1 : Int32} {x2 : Int32}  {r : Int32} (hf : f_X9_isLine_0 S x1 x2 = some r) : Mj v p l e (rmF 3 55) s m args below meth c 3 (MQ below (Qc v (some (.int r)) S) args s 0 0 (eG v)) 0 S 0 [(0, .ref (eA v (218))), (1, .int x1), (2, .int x2)] [] := by
  refine i_aload_n hC dX9_isLine_0 rfl ?_
  refine i_iload_n hC dX9_isLine_1 rfl ?_
  obtain ⟨r1, hc1, hf⟩ := bd1_of hf
  refine i_callVi hC mv_X9_65 (c_X9_isDriver hC.2.2.2.2.2.2.2.1 hc1) (pln rfl) (lay_p218) rfl rfl rfl rfl ⟨Nat.le_of_ble_eq_true rfl, Nat.le_of_ble_eq_true rfl⟩ (Nat.le_of_ble_eq_true rfl) dX9_isLine_2 ?_
  refine i_if_eq hC (tgt := 26) dX9_isLine_5 (by decide) (fun c2 => ?_) (fun c2 => ?_)
  · replace hf := (if_pos c2).symm.trans hf
    exact Mj.to (b_X9_isLine_26 hC  hf) trivial
  · replace hf := (if_neg c2).symm.trans hf
    refine i_iload_n hC dX9_isLine_8 rfl ?_
    refine i_iconst hC dX9_isLine_9 li_1 ?_
    refine i_aload_n hC dX9_isLine_10 rfl ?_
    refine i_iload_n hC dX9_isLine_11 rfl ?_
    refine i_iconst hC dX9_isLine_12 li_5 ?_
    obtain ⟨r4, hc4, hf⟩ := bd1_of hf
    refine i_callVi hC mv_X9_69 (c_X9_of hC.2.2.2.2.2.2.2.1 hc4) (pln rfl) (lay_p218) rfl rfl rfl rfl ⟨Nat.le_of_ble_eq_true rfl, Nat.le_of_ble_eq_true rfl⟩ (Nat.le_of_ble_eq_true rfl) dX9_isLine_13 ?_
    obtain ⟨r5, hc5, hf⟩ := bd1_of hf
    refine i_callSi hC mv_X9_61 (c_X9_isIn hC.2.2.2.2.2.2.2.1 hc5) rfl rfl rfl ⟨Nat.le_of_ble_eq_true rfl, Nat.le_of_ble_eq_true rfl⟩ (Nat.le_of_ble_eq_true rfl) dX9_isLine_16 ?_
    refine i_if_eq hC (tgt := 26) dX9_isLine_19 (by decide) (fun c6 => ?_) (fun c6 => ?_)
    · replace hf := (if_pos c6).symm.trans hf
      exact Mj.to (b_X9_isLine_26 hC  hf) trivial
    · replace hf := (if_neg c6).symm.trans hf
      refine i_iconst hC dX9_isLine_22 li_1 ?_
      refine i_goto hC (tgt := 27) dX9_isLine_23 (by decide) ?_
      exact Mj.to (b_X9_isLine_27 hC  hf) trivial
theorem c_X9_isLine {v : EV} {l : Launch} (hst : Stb v) {S : Mem} {x1 x2 : Int32}  {r : Int32} (hf : g_X9_isLine S x1 x2 = some r) : Con v l yX9_isLine cX9_isLine 3 (some .boolean) 3 55 [.ref (eA v (218)), .int x1, .int x2] S (some (.int r)) S := con_of (by decide) hst (Nat.le_of_ble_eq_true rfl) (fun p e s m args below meth c hC => b_X9_isLine_0 hC  hf)
def f_X9_alike_19 (S : Mem) (xt0 : Int32) : Option (Int32) := some xt0
def f_X9_alike_0 (S : Mem) (x1 : Int32) (x2 : Int32) : Option (Int32) := bd1 (g_X9_areDrivers S x1 x2) (fun r1 => (if r1 = 0 then f_X9_alike_19 S (-1 : Int32) else bd1 (g_X9_alikeTo S x1 x2) (fun r3 => f_X9_alike_19 S r3)))
def g_X9_alike (S : Mem) (x1 : Int32) (x2 : Int32) : Option (Int32) := f_X9_alike_0 S x1 x2
set_option maxHeartbeats 4000000 in
set_option maxRecDepth 100000 in
theorem b_X9_alike_19 {v : EV} {p : Program} {l : Launch} {e : Env} {s : State} {m : MethodId} {args : Array Value} {below : List Frame} {meth : Method} {c : Code} (hC : Cx v p l e s m args meth c RX9 cX9_alike 3 (some .int)) {S : Mem} {xt0 : Int32}  {r : Int32} (hf : f_X9_alike_19 S xt0 = some r) : Mj v p l e (rmF 4 79) s m args below meth c 3 (MQ below (Qc v (some (.int r)) S) args s 0 0 (eG v)) 0 S 19 [] [.int xt0] := by
  obtain rfl := Option.some.inj hf
  exact i_iret hC dX9_alike_19
set_option maxHeartbeats 4000000 in
set_option maxRecDepth 100000 in
theorem b_X9_alike_0 {v : EV} {p : Program} {l : Launch} {e : Env} {s : State} {m : MethodId} {args : Array Value} {below : List Frame} {meth : Method} {c : Code} (hC : Cx v p l e s m args meth c RX9 cX9_alike 3 (some .int)) {S : Mem} {x1 : Int32} {x2 : Int32}  {r : Int32} (hf : f_X9_alike_0 S x1 x2 = some r) : Mj v p l e (rmF 4 79) s m args below meth c 3 (MQ below (Qc v (some (.int r)) S) args s 0 0 (eG v)) 0 S 0 [(0, .ref (eA v (218))), (1, .int x1), (2, .int x2)] [] := by
  refine i_aload_n hC dX9_alike_0 rfl ?_
  refine i_iload_n hC dX9_alike_1 rfl ?_
  refine i_iload_n hC dX9_alike_2 rfl ?_
  obtain ⟨r1, hc1, hf⟩ := bd1_of hf
  refine i_callVi hC mv_X9_162 (c_X9_areDrivers hC.2.2.2.2.2.2.2.1 hc1) (pln rfl) (lay_p218) rfl rfl rfl rfl ⟨Nat.le_of_ble_eq_true rfl, Nat.le_of_ble_eq_true rfl⟩ (Nat.le_of_ble_eq_true rfl) dX9_alike_3 ?_
  refine i_if_eq hC (tgt := 18) dX9_alike_6 (by decide) (fun c2 => ?_) (fun c2 => ?_)
  · replace hf := (if_pos c2).symm.trans hf
    refine i_iconst hC dX9_alike_18 li_m1 ?_
    exact Mj.to (b_X9_alike_19 hC  hf) trivial
  · replace hf := (if_neg c2).symm.trans hf
    refine i_aload_n hC dX9_alike_9 rfl ?_
    refine i_iload_n hC dX9_alike_10 rfl ?_
    refine i_iload_n hC dX9_alike_11 rfl ?_
    obtain ⟨r3, hc3, hf⟩ := bd1_of hf
    refine i_callVi hC mv_X9_131 (c_X9_alikeTo hC.2.2.2.2.2.2.2.1 hc3) (pln rfl) (lay_p218) rfl rfl rfl rfl ⟨Nat.le_of_ble_eq_true rfl, Nat.le_of_ble_eq_true rfl⟩ (Nat.le_of_ble_eq_true rfl) dX9_alike_12 ?_
    refine i_goto hC (tgt := 19) dX9_alike_15 (by decide) ?_
    exact Mj.to (b_X9_alike_19 hC  hf) trivial
theorem c_X9_alike {v : EV} {l : Launch} (hst : Stb v) {S : Mem} {x1 x2 : Int32}  {r : Int32} (hf : g_X9_alike S x1 x2 = some r) : Con v l yX9_alike cX9_alike 3 (some .int) 4 79 [.ref (eA v (218)), .int x1, .int x2] S (some (.int r)) S := con_of (by decide) hst (Nat.le_of_ble_eq_true rfl) (fun p e s m args below meth c hC => b_X9_alike_0 hC  hf)
def f_X9_holders_44 (ih16 : (Int32 × Int32) → Option (Int32)) (S : Mem) (x1 : Int32) (x2 : Int32) (x4 : Int32) (xt0 : Int32) (xt1 : Int32) : Option (Int32) := ih16 ((xt1 + xt0), (x4 + (1 : Int32)))
def f_X9_holders_16_b (ih16 : (Int32 × Int32) → Option (Int32)) (S : Mem) (x1 : Int32) (x2 : Int32) (x3 : Int32) (x4 : Int32) : Option (Int32) := (if (S 20 1) ≤ x4 then some x3 else bd1 (g_X9_alikeTo S x1 x4) (fun r4 => (if r4 < x2 then f_X9_holders_44 ih16 S x1 x2 x4 (0 : Int32) x3 else f_X9_holders_44 ih16 S x1 x2 x4 (1 : Int32) x3)))
def f_X9_holders_16 (S : Mem) (x1 : Int32) (x2 : Int32) (x3 : Int32) (x4 : Int32) : Option (Int32) := lp (fun ih16 s9 => f_X9_holders_16_b ih16 S x1 x2 s9.1 s9.2) 2000 (x3, x4)
def f_X9_holders_0 (S : Mem) (x1 : Int32) (x2 : Int32) : Option (Int32) := bd1 (g_X9_isLine S x1 x2) (fun r1 => (if r1 = 0 then some (-1 : Int32) else f_X9_holders_16 S x1 x2 (0 : Int32) (0 : Int32)))
def g_X9_holders (S : Mem) (x1 : Int32) (x2 : Int32) : Option (Int32) := f_X9_holders_0 S x1 x2
set_option maxHeartbeats 4000000 in
set_option maxRecDepth 100000 in
theorem b_X9_holders_44 {v : EV} {p : Program} {l : Launch} {e : Env} {s : State} {m : MethodId} {args : Array Value} {below : List Frame} {meth : Method} {c : Code} (hC : Cx v p l e s m args meth c RX9 cX9_holders 5 (some .int)) {S : Mem} {x1 : Int32} {x2 : Int32} {x4 : Int32} {xt0 : Int32} {xt1 : Int32}  {r : Int32} {ih16 : (Int32 × Int32) → Option (Int32)} (hih16 : ∀ s9 : (Int32 × Int32), ih16 s9 = some r → Mj v p l e (rmF 4 79) s m args below meth c 5 (MQ below (Qc v (some (.int r)) S) args s 0 0 (eG v)) 0 S 16 [(0, .ref (eA v (218))), (1, .int x1), (2, .int x2), (3, .int (s9.1)), (4, .int (s9.2))] []) (hf : f_X9_holders_44 ih16 S x1 x2 x4 xt0 xt1 = some r) : Mj v p l e (rmF 4 79) s m args below meth c 5 (MQ below (Qc v (some (.int r)) S) args s 0 0 (eG v)) 0 S 44 [(0, .ref (eA v (218))), (1, .int x1), (2, .int x2), (4, .int x4)] [.int xt0, .int xt1] := by
  refine i_iadd hC dX9_holders_44 ?_
  refine i_istore_n hC dX9_holders_45 (by decide) ?_
  refine i_iinc hC dX9_holders_46 rfl li_1 (by decide) ?_
  refine i_goto hC (tgt := 16) dX9_holders_49 (by decide) ?_
  exact Mj.to (hih16 _ hf) ⟨rfl, rfl, rfl, rfl, rfl, trivial⟩
set_option maxHeartbeats 4000000 in
set_option maxRecDepth 100000 in
theorem b_X9_holders_16_b {v : EV} {p : Program} {l : Launch} {e : Env} {s : State} {m : MethodId} {args : Array Value} {below : List Frame} {meth : Method} {c : Code} (hC : Cx v p l e s m args meth c RX9 cX9_holders 5 (some .int)) {S : Mem} {x1 : Int32} {x2 : Int32} {x3 : Int32} {x4 : Int32}  {r : Int32} {ih16 : (Int32 × Int32) → Option (Int32)} (hih16 : ∀ s9 : (Int32 × Int32), ih16 s9 = some r → Mj v p l e (rmF 4 79) s m args below meth c 5 (MQ below (Qc v (some (.int r)) S) args s 0 0 (eG v)) 0 S 16 [(0, .ref (eA v (218))), (1, .int x1), (2, .int x2), (3, .int (s9.1)), (4, .int (s9.2))] []) (hf : f_X9_holders_16_b ih16 S x1 x2 x3 x4 = some r) : Mj v p l e (rmF 4 79) s m args below meth c 5 (MQ below (Qc v (some (.int r)) S) args s 0 0 (eG v)) 0 S 16 [(0, .ref (eA v (218))), (1, .int x1), (2, .int x2), (3, .int x3), (4, .int x4)] [] := by
  refine i_iload hC dX9_holders_16 rfl ?_
  refine i_aload_n hC dX9_holders_18 rfl ?_
  refine i_getR hC fl_X9_9 (pln rfl) (lay_p218) rfl dX9_holders_19 ?_
  refine i_iconst hC dX9_holders_22 li_1 ?_
  refine i_iald hC (j0 := 1) (pln rfl) (lay_p219) (inb_in (by decide)) (by decide) dX9_holders_23 ?_
  refine i_icmp_ge hC (tgt := 52) dX9_holders_24 (by decide) (fun c3 => ?_) (fun c3 => ?_)
  · replace hf := (if_pos c3).symm.trans hf
    refine i_iload_n hC dX9_holders_52 rfl ?_
    obtain rfl := Option.some.inj hf
    exact i_iret hC dX9_holders_53
  · replace hf := (if_neg c3).symm.trans hf
    refine i_iload_n hC dX9_holders_27 rfl ?_
    refine i_aload_n hC dX9_holders_28 rfl ?_
    refine i_iload_n hC dX9_holders_29 rfl ?_
    refine i_iload hC dX9_holders_30 rfl ?_
    obtain ⟨r4, hc4, hf⟩ := bd1_of hf
    refine i_callVi hC mv_X9_131 (c_X9_alikeTo hC.2.2.2.2.2.2.2.1 hc4) (pln rfl) (lay_p218) rfl rfl rfl rfl ⟨Nat.le_of_ble_eq_true rfl, Nat.le_of_ble_eq_true rfl⟩ (Nat.le_of_ble_eq_true rfl) dX9_holders_32 ?_
    refine i_iload_n hC dX9_holders_35 rfl ?_
    refine i_icmp_lt hC (tgt := 43) dX9_holders_36 (by decide) (fun c5 => ?_) (fun c5 => ?_)
    · replace hf := (if_pos c5).symm.trans hf
      refine i_iconst hC dX9_holders_43 li_0 ?_
      exact Mj.to (b_X9_holders_44 hC hih16 hf) ⟨rfl, rfl, rfl, rfl, trivial⟩
    · replace hf := (if_neg c5).symm.trans hf
      refine i_iconst hC dX9_holders_39 li_1 ?_
      refine i_goto hC (tgt := 44) dX9_holders_40 (by decide) ?_
      exact Mj.to (b_X9_holders_44 hC hih16 hf) ⟨rfl, rfl, rfl, rfl, trivial⟩
theorem b_X9_holders_16 {v : EV} {p : Program} {l : Launch} {e : Env} {s : State} {m : MethodId} {args : Array Value} {below : List Frame} {meth : Method} {c : Code} (hC : Cx v p l e s m args meth c RX9 cX9_holders 5 (some .int)) {S : Mem} {x1 : Int32} {x2 : Int32} {x3 : Int32} {x4 : Int32}  {r : Int32} (hf : f_X9_holders_16 S x1 x2 x3 x4 = some r) : Mj v p l e (rmF 4 79) s m args below meth c 5 (MQ below (Qc v (some (.int r)) S) args s 0 0 (eG v)) 0 S 16 [(0, .ref (eA v (218))), (1, .int x1), (2, .int x2), (3, .int x3), (4, .int x4)] [] :=
  lp_ind (P := fun s9 : (Int32 × Int32) => Mj v p l e (rmF 4 79) s m args below meth c 5 (MQ below (Qc v (some (.int r)) S) args s 0 0 (eG v)) 0 S 16 [(0, .ref (eA v (218))), (1, .int x1), (2, .int x2), (3, .int (s9.1)), (4, .int (s9.2))] []) (fun ih s9 hih hf => b_X9_holders_16_b hC   hih hf) _ _ hf
set_option maxHeartbeats 4000000 in
set_option maxRecDepth 100000 in
theorem b_X9_holders_0 {v : EV} {p : Program} {l : Launch} {e : Env} {s : State} {m : MethodId} {args : Array Value} {below : List Frame} {meth : Method} {c : Code} (hC : Cx v p l e s m args meth c RX9 cX9_holders 5 (some .int)) {S : Mem} {x1 : Int32} {x2 : Int32}  {r : Int32} (hf : f_X9_holders_0 S x1 x2 = some r) : Mj v p l e (rmF 4 79) s m args below meth c 5 (MQ below (Qc v (some (.int r)) S) args s 0 0 (eG v)) 0 S 0 [(0, .ref (eA v (218))), (1, .int x1), (2, .int x2)] [] := by
  refine i_aload_n hC dX9_holders_0 rfl ?_
  refine i_iload_n hC dX9_holders_1 rfl ?_
  refine i_iload_n hC dX9_holders_2 rfl ?_
  obtain ⟨r1, hc1, hf⟩ := bd1_of hf
  refine i_callVi hC mv_X9_264 (c_X9_isLine hC.2.2.2.2.2.2.2.1 hc1) (pln rfl) (lay_p218) rfl rfl rfl rfl ⟨Nat.le_of_ble_eq_true rfl, Nat.le_of_ble_eq_true rfl⟩ (Nat.le_of_ble_eq_true rfl) dX9_holders_3 ?_
  refine i_if_ne hC (tgt := 11) dX9_holders_6 (by decide) (fun c2 => ?_) (fun c2 => ?_)
  · replace hf := (if_neg c2).symm.trans hf
    refine i_iconst hC dX9_holders_11 li_0 ?_
    refine i_istore_n hC dX9_holders_12 (by decide) ?_
    refine i_iconst hC dX9_holders_13 li_0 ?_
    refine i_istore hC dX9_holders_14 (by decide) ?_
    exact Mj.to (b_X9_holders_16 hC  hf) ⟨rfl, rfl, rfl, rfl, rfl, trivial⟩
  · replace hf := (if_pos c2).symm.trans hf
    refine i_iconst hC dX9_holders_9 li_m1 ?_
    obtain rfl := Option.some.inj hf
    exact i_iret hC dX9_holders_10
theorem c_X9_holders {v : EV} {l : Launch} (hst : Stb v) {S : Mem} {x1 x2 : Int32}  {r : Int32} (hf : g_X9_holders S x1 x2 = some r) : Con v l yX9_holders cX9_holders 5 (some .int) 4 79 [.ref (eA v (218)), .int x1, .int x2] S (some (.int r)) S := con_of (by decide) hst (Nat.le_of_ble_eq_true rfl) (fun p e s m args below meth c hC => b_X9_holders_0 hC  hf)
