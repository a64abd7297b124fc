def f_X9_cut_0 (S : Mem) (x1 : Int32) (x2 : Int32) : Option (Int32 × Mem) := bd1 (g_X9_keeps S) (fun S1 => bd2 (g_X9_ropes S1 x1 x2 (1 : Int32)) (fun r2 S2 => bd2 (g_X9_ends S2 r2) (fun r3 S3 => some (r3, S3))))
def g_X9_cut (S : Mem) (x1 : Int32) (x2 : Int32) : Option (Int32 × Mem) := f_X9_cut_0 S x1 x2
set_option maxHeartbeats 4000000 in
set_option maxRecDepth 100000 in
theorem b_X9_cut_0 {v : EV} {p : Program} {l : Launch} {e : Env} {s : State} {m : MethodId} {args : Array Value} {below : List Frame} {meth : Method} {c : Code} (hC : Cx v p l e s m args meth c RX9 cX9_cut 3 (some .int)) {S : Mem} {x1 : Int32} {x2 : Int32}  {r : Int32 × Mem} (hf : f_X9_cut_0 S x1 x2 = some r) : Mj v p l e (rmF 5 100) s m args below meth c 3 (MQ below (Qc v (some (.int r.1)) r.2) args s 0 0 (eG v)) 0 S 0 [(0, .ref (eA v (218))), (1, .int x1), (2, .int x2)] [] := by
  refine i_aload_n hC dX9_cut_0 rfl ?_
  obtain ⟨S1, hc1, hf⟩ := bd1_of hf
  refine i_callVv hC mv_X9_96 (c_X9_keeps hC.2.2.2.2.2.2.2.1 hc1) (pln rfl) (lay_p218) rfl rfl rfl rfl ⟨Nat.le_of_ble_eq_true rfl, Nat.le_of_ble_eq_true rfl⟩ (Nat.le_of_ble_eq_true rfl) dX9_cut_1 ?_
  refine i_aload_n hC dX9_cut_4 rfl ?_
  refine i_aload_n hC dX9_cut_5 rfl ?_
  refine i_iload_n hC dX9_cut_6 rfl ?_
  refine i_iload_n hC dX9_cut_7 rfl ?_
  refine i_iconst hC dX9_cut_8 li_1 ?_
  obtain ⟨r2, S2, hc2, hf⟩ := bd2_of hf
  refine i_callVi hC mv_X9_168 (c_X9_ropes hC.2.2.2.2.2.2.2.1 hc2) (pln rfl) (lay_p218) rfl rfl rfl rfl ⟨Nat.le_of_ble_eq_true rfl, Nat.le_of_ble_eq_true rfl⟩ (Nat.le_of_ble_eq_true rfl) dX9_cut_9 ?_
  obtain ⟨r3, S3, hc3, hf⟩ := bd2_of hf
  refine i_callVi hC mv_X9_102 (c_X9_ends hC.2.2.2.2.2.2.2.1 hc3) (pln rfl) (lay_p218) rfl rfl rfl rfl ⟨Nat.le_of_ble_eq_true rfl, Nat.le_of_ble_eq_true rfl⟩ (Nat.le_of_ble_eq_true rfl) dX9_cut_12 ?_
  obtain rfl := Option.some.inj hf
  exact i_iret hC dX9_cut_15
theorem c_X9_cut {v : EV} {l : Launch} (hst : Stb v) {S : Mem} {x1 x2 : Int32}  {r : Int32 × Mem} (hf : g_X9_cut S x1 x2 = some r) : Con v l yX9_cut cX9_cut 3 (some .int) 5 100 [.ref (eA v (218)), .int x1, .int x2] S (some (.int r.1)) r.2 := con_of (by decide) hst (Nat.le_of_ble_eq_true rfl) (fun p e s m args below meth c hC => b_X9_cut_0 hC  hf)
def f_X9_readsCommand_114 (S : Mem) (xt0 : Int32) : Option (Int32 × Mem) := ck (isb xt0) (some (xt0, S))
def f_X9_readsCommand_113 (S : Mem)  : Option (Int32 × Mem) := f_X9_readsCommand_114 S (0 : Int32)
def f_X9_readsCommand_140 (S : Mem) (xt0 : Int32) : Option (Int32 × Mem) := ck (isb xt0) (some (xt0, S))
def f_X9_readsCommand_139 (S : Mem)  : Option (Int32 × Mem) := f_X9_readsCommand_140 S (0 : Int32)
def f_X9_readsCommand_174 (S : Mem) (xt0 : Int32) : Option (Int32 × Mem) := ck (isb xt0) (some (xt0, S))
def f_X9_readsCommand_169 (S : Mem)  : Option (Int32 × Mem) := f_X9_readsCommand_174 S (1 : Int32)
def f_X9_readsCommand_0 (S : Mem)  : Option (Int32 × Mem) := bd2 (g_X9_isWord S) (fun r1 S1 => (if r1 = 0 then some ((0 : Int32), S1) else ck (inb ((3 : Int32) * (S1 28 16)) 39) ((if ((up (up S1 26 ((((3 : Int32) * (S1 28 16))).toNatClampNeg) (S1 28 17)) 28 16 (((up S1 26 ((((3 : Int32) * (S1 28 16))).toNatClampNeg) (S1 28 17)) 28 16) + (1 : Int32))) 28 17) = (3 : Int32) then bd2 (g_X9_isDigit (up (up S1 26 ((((3 : Int32) * (S1 28 16))).toNatClampNeg) (S1 28 17)) 28 16 (((up S1 26 ((((3 : Int32) * (S1 28 16))).toNatClampNeg) (S1 28 17)) 28 16) + (1 : Int32))) (((3 : Int32) * (S1 28 16)) + (1 : Int32))) (fun r4 S4 => (if r4 = 0 then f_X9_readsCommand_113 S4 else bd2 (g_X9_isSign S4 (32 : Int32)) (fun r7 S7 => (if r7 = 0 then f_X9_readsCommand_113 S7 else bd2 (g_X9_isLetter S7 (((3 : Int32) * (S1 28 16)) + (2 : Int32))) (fun r9 S9 => (if r9 = 0 then f_X9_readsCommand_113 S9 else f_X9_readsCommand_114 S9 (1 : Int32))))))) else if ((up (up S1 26 ((((3 : Int32) * (S1 28 16))).toNatClampNeg) (S1 28 17)) 28 16 (((up S1 26 ((((3 : Int32) * (S1 28 16))).toNatClampNeg) (S1 28 17)) 28 16) + (1 : Int32))) 28 17) = (4 : Int32) then bd2 (g_X9_isDigit (up (up S1 26 ((((3 : Int32) * (S1 28 16))).toNatClampNeg) (S1 28 17)) 28 16 (((up S1 26 ((((3 : Int32) * (S1 28 16))).toNatClampNeg) (S1 28 17)) 28 16) + (1 : Int32))) (((3 : Int32) * (S1 28 16)) + (1 : Int32))) (fun r12 S12 => ck (isb r12) (some (r12, S12))) else if ((up (up S1 26 ((((3 : Int32) * (S1 28 16))).toNatClampNeg) (S1 28 17)) 28 16 (((up S1 26 ((((3 : Int32) * (S1 28 16))).toNatClampNeg) (S1 28 17)) 28 16) + (1 : Int32))) 28 17) = (5 : Int32) then bd2 (g_X9_isDigit (up (up S1 26 ((((3 : Int32) * (S1 28 16))).toNatClampNeg) (S1 28 17)) 28 16 (((up S1 26 ((((3 : Int32) * (S1 28 16))).toNatClampNeg) (S1 28 17)) 28 16) + (1 : Int32))) (((3 : Int32) * (S1 28 16)) + (1 : Int32))) (fun r15 S15 => ck (isb r15) (some (r15, S15))) else if ((up (up S1 26 ((((3 : Int32) * (S1 28 16))).toNatClampNeg) (S1 28 17)) 28 16 (((up S1 26 ((((3 : Int32) * (S1 28 16))).toNatClampNeg) (S1 28 17)) 28 16) + (1 : Int32))) 28 17) = (6 : Int32) then bd2 (g_X9_isDigit (up (up S1 26 ((((3 : Int32) * (S1 28 16))).toNatClampNeg) (S1 28 17)) 28 16 (((up S1 26 ((((3 : Int32) * (S1 28 16))).toNatClampNeg) (S1 28 17)) 28 16) + (1 : Int32))) (((3 : Int32) * (S1 28 16)) + (1 : Int32))) (fun r18 S18 => (if r18 = 0 then f_X9_readsCommand_139 S18 else bd2 (g_X9_isDigit S18 (((3 : Int32) * (S1 28 16)) + (2 : Int32))) (fun r21 S21 => (if r21 = 0 then f_X9_readsCommand_139 S21 else f_X9_readsCommand_140 S21 (1 : Int32))))) else if ((up (up S1 26 ((((3 : Int32) * (S1 28 16))).toNatClampNeg) (S1 28 17)) 28 16 (((up S1 26 ((((3 : Int32) * (S1 28 16))).toNatClampNeg) (S1 28 17)) 28 16) + (1 : Int32))) 28 17) = (7 : Int32) then bd2 (g_X9_isDigit (up (up S1 26 ((((3 : Int32) * (S1 28 16))).toNatClampNeg) (S1 28 17)) 28 16 (((up S1 26 ((((3 : Int32) * (S1 28 16))).toNatClampNeg) (S1 28 17)) 28 16) + (1 : Int32))) (((3 : Int32) * (S1 28 16)) + (1 : Int32))) (fun r24 S24 => (if r24 = 0 then f_X9_readsCommand_139 S24 else bd2 (g_X9_isDigit S24 (((3 : Int32) * (S1 28 16)) + (2 : Int32))) (fun r26 S26 => (if r26 = 0 then f_X9_readsCommand_139 S26 else f_X9_readsCommand_140 S26 (1 : Int32))))) else if ((up (up S1 26 ((((3 : Int32) * (S1 28 16))).toNatClampNeg) (S1 28 17)) 28 16 (((up S1 26 ((((3 : Int32) * (S1 28 16))).toNatClampNeg) (S1 28 17)) 28 16) + (1 : Int32))) 28 17) = (8 : Int32) then ck (inb (((3 : Int32) * (S1 28 16)) + (1 : Int32)) 39) (bd2 (g_X9_isSign (up (up (up S1 26 ((((3 : Int32) * (S1 28 16))).toNatClampNeg) (S1 28 17)) 28 16 (((up S1 26 ((((3 : Int32) * (S1 28 16))).toNatClampNeg) (S1 28 17)) 28 16) + (1 : Int32))) 26 (((((3 : Int32) * (S1 28 16)) + (1 : Int32))).toNatClampNeg) (1 : Int32)) (32 : Int32)) (fun r30 S30 => (if r30 = 0 then f_X9_readsCommand_169 S30 else bd2 (g_X9_isDigit S30 (((3 : Int32) * (S1 28 16)) + (1 : Int32))) (fun r33 S33 => (if r33 = 0 then f_X9_readsCommand_174 S33 (0 : Int32) else f_X9_readsCommand_169 S33))))) else bd2 (g_X9_isDigit (up (up S1 26 ((((3 : Int32) * (S1 28 16))).toNatClampNeg) (S1 28 17)) 28 16 (((up S1 26 ((((3 : Int32) * (S1 28 16))).toNatClampNeg) (S1 28 17)) 28 16) + (1 : Int32))) (((3 : Int32) * (S1 28 16)) + (1 : Int32))) (fun r36 S36 => ck (isb r36) (some (r36, S36)))))))
def g_X9_readsCommand (S : Mem)  : Option (Int32 × Mem) := f_X9_readsCommand_0 S
set_option maxHeartbeats 4000000 in
set_option maxRecDepth 100000 in
theorem b_X9_readsCommand_114 {v : EV} {p : Program} {l : Launch} {e : Env} {s : State} {m : MethodId} {args : Array Value} {below : List Frame} {meth : Method} {c : Code} (hC : Cx v p l e s m args meth c RX9 cX9_readsCommand 2 (some .boolean)) {S : Mem} {xt0 : Int32}  {r : Int32 × Mem} (hf : f_X9_readsCommand_114 S xt0 = some r) : Mj v p l e (rmF 7 142) s m args below meth c 2 (MQ below (Qc v (some (.int r.1)) r.2) args s 0 0 (eG v)) 0 S 114 [] [.int xt0] := by
  obtain ⟨k6, hf⟩ := ck_of hf
  obtain rfl := Option.some.inj hf
  exact i_zret hC dX9_readsCommand_114 (isb_z k6).1
set_option maxHeartbeats 4000000 in
set_option maxRecDepth 100000 in
theorem b_X9_readsCommand_113 {v : EV} {p : Program} {l : Launch} {e : Env} {s : State} {m : MethodId} {args : Array Value} {below : List Frame} {meth : Method} {c : Code} (hC : Cx v p l e s m args meth c RX9 cX9_readsCommand 2 (some .boolean)) {S : Mem}  {r : Int32 × Mem} (hf : f_X9_readsCommand_113 S = some r) : Mj v p l e (rmF 7 142) s m args below meth c 2 (MQ below (Qc v (some (.int r.1)) r.2) args s 0 0 (eG v)) 0 S 113 [] [] := by
  refine i_iconst hC dX9_readsCommand_113 li_0 ?_
  exact Mj.to (b_X9_readsCommand_114 hC  hf) trivial
set_option maxHeartbeats 4000000 in
set_option maxRecDepth 100000 in
theorem b_X9_readsCommand_140 {v : EV} {p : Program} {l : Launch} {e : Env} {s : State} {m : MethodId} {args : Array Value} {below : List Frame} {meth : Method} {c : Code} (hC : Cx v p l e s m args meth c RX9 cX9_readsCommand 2 (some .boolean)) {S : Mem} {xt0 : Int32}  {r : Int32 × Mem} (hf : f_X9_readsCommand_140 S xt0 = some r) : Mj v p l e (rmF 7 142) s m args below meth c 2 (MQ below (Qc v (some (.int r.1)) r.2) args s 0 0 (eG v)) 0 S 140 [] [.int xt0] := by
  obtain ⟨k20, hf⟩ := ck_of hf
  obtain rfl := Option.some.inj hf
  exact i_zret hC dX9_readsCommand_140 (isb_z k20).1
set_option maxHeartbeats 4000000 in
set_option maxRecDepth 100000 in
theorem b_X9_readsCommand_139 {v : EV} {p : Program} {l : Launch} {e : Env} {s : State} {m : MethodId} {args : Array Value} {below : List Frame} {meth : Method} {c : Code} (hC : Cx v p l e s m args meth c RX9 cX9_readsCommand 2 (some .boolean)) {S : Mem}  {r : Int32 × Mem} (hf : f_X9_readsCommand_139 S = some r) : Mj v p l e (rmF 7 142) s m args below meth c 2 (MQ below (Qc v (some (.int r.1)) r.2) args s 0 0 (eG v)) 0 S 139 [] [] := by
  refine i_iconst hC dX9_readsCommand_139 li_0 ?_
  exact Mj.to (b_X9_readsCommand_140 hC  hf) trivial
set_option maxHeartbeats 4000000 in
set_option maxRecDepth 100000 in
theorem b_X9_readsCommand_174 {v : EV} {p : Program} {l : Launch} {e : Env} {s : State} {m : MethodId} {args : Array Value} {below : List Frame} {meth : Method} {c : Code} (hC : Cx v p l e s m args meth c RX9 cX9_readsCommand 2 (some .boolean)) {S : Mem} {xt0 : Int32}  {r : Int32 × Mem} (hf : f_X9_readsCommand_174 S xt0 = some r) : Mj v p l e (rmF 7 142) s m args below meth c 2 (MQ below (Qc v (some (.int r.1)) r.2) args s 0 0 (eG v)) 0 S 174 [] [.int xt0] := by
  obtain ⟨k32, hf⟩ := ck_of hf
  obtain rfl := Option.some.inj hf
  exact i_zret hC dX9_readsCommand_174 (isb_z k32).1
set_option maxHeartbeats 4000000 in
set_option maxRecDepth 100000 in
theorem b_X9_readsCommand_169 {v : EV} {p : Program} {l : Launch} {e : Env} {s : State} {m : MethodId} {args : Array Value} {below : List Frame} {meth : Method} {c : Code} (hC : Cx v p l e s m args meth c RX9 cX9_readsCommand 2 (some .boolean)) {S : Mem}  {r : Int32 × Mem} (hf : f_X9_readsCommand_169 S = some r) : Mj v p l e (rmF 7 142) s m args below meth c 2 (MQ below (Qc v (some (.int r.1)) r.2) args s 0 0 (eG v)) 0 S 169 [] [] := by
  refine i_iconst hC dX9_readsCommand_169 li_1 ?_
  refine i_goto hC (tgt := 174) dX9_readsCommand_170 (by decide) ?_
  exact Mj.to (b_X9_readsCommand_174 hC  hf) trivial
set_option maxHeartbeats 4000000 in
set_option maxRecDepth 100000 in
theorem b_X9_readsCommand_0 {v : EV} {p : Program} {l : Launch} {e : Env} {s : State} {m : MethodId} {args : Array Value} {below : List Frame} {meth : Method} {c : Code} (hC : Cx v p l e s m args meth c RX9 cX9_readsCommand 2 (some .boolean)) {S : Mem}  {r : Int32 × Mem} (hf : f_X9_readsCommand_0 S = some r) : Mj v p l e (rmF 7 142) s m args below meth c 2 (MQ below (Qc v (some (.int r.1)) r.2) args s 0 0 (eG v)) 0 S 0 [(0, .ref (eA v (218)))] [] := by
  refine i_aload_n hC dX9_readsCommand_0 rfl ?_
  obtain ⟨r1, S1, hc1, hf⟩ := bd2_of hf
  refine i_callVi hC mv_X9_229 (c_X9_isWord hC.2.2.2.2.2.2.2.1 hc1) (pln rfl) (lay_p218) rfl rfl rfl rfl ⟨Nat.le_of_ble_eq_true rfl, Nat.le_of_ble_eq_true rfl⟩ (Nat.le_of_ble_eq_true rfl) dX9_readsCommand_1 ?_
  refine i_if_ne hC (tgt := 9) dX9_readsCommand_4 (by decide) (fun c2 => ?_) (fun c2 => ?_)
  · replace hf := (if_neg c2).symm.trans hf
    refine i_iconst hC dX9_readsCommand_9 li_3 ?_
    refine i_aload_n hC dX9_readsCommand_10 rfl ?_
    refine i_getI hC fl_X9_233 (pln rfl) (lay_p218) rfl dX9_readsCommand_11 ?_
    refine i_imul hC dX9_readsCommand_14 ?_
    refine i_istore_n hC dX9_readsCommand_15 (by decide) ?_
    refine i_aload_n hC dX9_readsCommand_16 rfl ?_
    refine i_getR hC fl_X9_32 (pln rfl) (lay_p218) rfl dX9_readsCommand_17 ?_
    refine i_iload_n hC dX9_readsCommand_20 rfl ?_
    refine i_aload_n hC dX9_readsCommand_21 rfl ?_
    refine i_getI hC fl_X9_226 (pln rfl) (lay_p218) rfl dX9_readsCommand_22 ?_
    obtain ⟨k3, hf⟩ := ck_of hf
    refine i_iast hC (j0 := ((((3 : Int32) * (S1 28 16))).toNatClampNeg)) (pln rfl) (lay_p225) (bk_l ⟨rfl, rfl, rfl, rfl⟩) (inb_in k3) (Nat.zero_add _) dX9_readsCommand_25 ?_
    refine i_aload_n hC dX9_readsCommand_26 rfl ?_
    refine i_dup hC dX9_readsCommand_27 rfl ?_
    refine i_getI hC fl_X9_233 (pln rfl) (lay_p218) rfl dX9_readsCommand_28 ?_
    refine i_iconst hC dX9_readsCommand_31 li_1 ?_
    refine i_iadd hC dX9_readsCommand_32 ?_
    refine i_putI hC fl_X9_233 (pln rfl) (lay_p218) rfl (bk_l ⟨rfl, rfl, rfl, rfl⟩) (nf_int _) dX9_readsCommand_33 ?_
    refine i_aload_n hC dX9_readsCommand_36 rfl ?_
    refine i_getI hC fl_X9_226 (pln rfl) (lay_p218) rfl dX9_readsCommand_37 ?_
    by_cases c11 : ((up (up S1 26 ((((3 : Int32) * (S1 28 16))).toNatClampNeg) (S1 28 17)) 28 16 (((up S1 26 ((((3 : Int32) * (S1 28 16))).toNatClampNeg) (S1 28 17)) 28 16) + (1 : Int32))) 28 17) = (3 : Int32)
    · replace hf := (if_pos c11).symm.trans hf
      refine i_tabIn hC (tgt := 80) dX9_readsCommand_40 c11 (show ((3 : Int32)).toInt = 3 by decide) (by decide) (by decide) rfl (by decide) ?_
      refine i_aload_n hC dX9_readsCommand_80 rfl ?_
      refine i_iload_n hC dX9_readsCommand_81 rfl ?_
      refine i_iconst hC dX9_readsCommand_82 li_1 ?_
      refine i_iadd hC dX9_readsCommand_83 ?_
      obtain ⟨r4, S4, hc4, hf⟩ := bd2_of hf
      refine i_callVi hC mv_X9_236 (c_X9_isDigit hC.2.2.2.2.2.2.2.1 hc4) (pln rfl) (lay_p218) rfl rfl rfl rfl ⟨Nat.le_of_ble_eq_true rfl, Nat.le_of_ble_eq_true rfl⟩ (Nat.le_of_ble_eq_true rfl) dX9_readsCommand_84 ?_
      refine i_if_eq hC (tgt := 113) dX9_readsCommand_87 (by decide) (fun c5 => ?_) (fun c5 => ?_)
      · replace hf := (if_pos c5).symm.trans hf
        exact Mj.to (b_X9_readsCommand_113 hC  hf) trivial
      · replace hf := (if_neg c5).symm.trans hf
        refine i_aload_n hC dX9_readsCommand_90 rfl ?_
        refine i_bipush hC dX9_readsCommand_91 lb_32 ?_
        obtain ⟨r7, S7, hc7, hf⟩ := bd2_of hf
        refine i_callVi hC mv_X9_239 (c_X9_isSign hC.2.2.2.2.2.2.2.1 hc7) (pln rfl) (lay_p218) rfl rfl rfl rfl ⟨Nat.le_of_ble_eq_true rfl, Nat.le_of_ble_eq_true rfl⟩ (Nat.le_of_ble_eq_true rfl) dX9_readsCommand_93 ?_
        refine i_if_eq hC (tgt := 113) dX9_readsCommand_96 (by decide) (fun c8 => ?_) (fun c8 => ?_)
        · replace hf := (if_pos c8).symm.trans hf
          exact Mj.to (b_X9_readsCommand_113 hC  hf) trivial
        · replace hf := (if_neg c8).symm.trans hf
          refine i_aload_n hC dX9_readsCommand_99 rfl ?_
          refine i_iload_n hC dX9_readsCommand_100 rfl ?_
          refine i_iconst hC dX9_readsCommand_101 li_2 ?_
          refine i_iadd hC dX9_readsCommand_102 ?_
          obtain ⟨r9, S9, hc9, hf⟩ := bd2_of hf
          refine i_callVi hC mv_X9_242 (c_X9_isLetter hC.2.2.2.2.2.2.2.1 hc9) (pln rfl) (lay_p218) rfl rfl rfl rfl ⟨Nat.le_of_ble_eq_true rfl, Nat.le_of_ble_eq_true rfl⟩ (Nat.le_of_ble_eq_true rfl) dX9_readsCommand_103 ?_
          refine i_if_eq hC (tgt := 113) dX9_readsCommand_106 (by decide) (fun c10 => ?_) (fun c10 => ?_)
          · replace hf := (if_pos c10).symm.trans hf
            exact Mj.to (b_X9_readsCommand_113 hC  hf) trivial
          · replace hf := (if_neg c10).symm.trans hf
            refine i_iconst hC dX9_readsCommand_109 li_1 ?_
            refine i_goto hC (tgt := 114) dX9_readsCommand_110 (by decide) ?_
            exact Mj.to (b_X9_readsCommand_114 hC  hf) trivial
    replace hf := (if_neg c11).symm.trans hf
    by_cases c14 : ((up (up S1 26 ((((3 : Int32) * (S1 28 16))).toNatClampNeg) (S1 28 17)) 28 16 (((up S1 26 ((((3 : Int32) * (S1 28 16))).toNatClampNeg) (S1 28 17)) 28 16) + (1 : Int32))) 28 17) = (4 : Int32)
    · replace hf := (if_pos c14).symm.trans hf
      refine i_tabIn hC (tgt := 175) dX9_readsCommand_40 c14 (show ((4 : Int32)).toInt = 4 by decide) (by decide) (by decide) rfl (by decide) ?_
      refine i_aload_n hC dX9_readsCommand_175 rfl ?_
      refine i_iload_n hC dX9_readsCommand_176 rfl ?_
      refine i_iconst hC dX9_readsCommand_177 li_1 ?_
      refine i_iadd hC dX9_readsCommand_178 ?_
      obtain ⟨r12, S12, hc12, hf⟩ := bd2_of hf
      refine i_callVi hC mv_X9_236 (c_X9_isDigit hC.2.2.2.2.2.2.2.1 hc12) (pln rfl) (lay_p218) rfl rfl rfl rfl ⟨Nat.le_of_ble_eq_true rfl, Nat.le_of_ble_eq_true rfl⟩ (Nat.le_of_ble_eq_true rfl) dX9_readsCommand_179 ?_
      obtain ⟨k13, hf⟩ := ck_of hf
      obtain rfl := Option.some.inj hf
      exact i_zret hC dX9_readsCommand_182 (isb_z k13).1
    replace hf := (if_neg c14).symm.trans hf
    by_cases c17 : ((up (up S1 26 ((((3 : Int32) * (S1 28 16))).toNatClampNeg) (S1 28 17)) 28 16 (((up S1 26 ((((3 : Int32) * (S1 28 16))).toNatClampNeg) (S1 28 17)) 28 16) + (1 : Int32))) 28 17) = (5 : Int32)
    · replace hf := (if_pos c17).symm.trans hf
      refine i_tabIn hC (tgt := 175) dX9_readsCommand_40 c17 (show ((5 : Int32)).toInt = 5 by decide) (by decide) (by decide) rfl (by decide) ?_
      refine i_aload_n hC dX9_readsCommand_175 rfl ?_
      refine i_iload_n hC dX9_readsCommand_176 rfl ?_
      refine i_iconst hC dX9_readsCommand_177 li_1 ?_
      refine i_iadd hC dX9_readsCommand_178 ?_
      obtain ⟨r15, S15, hc15, hf⟩ := bd2_of hf
      refine i_callVi hC mv_X9_236 (c_X9_isDigit hC.2.2.2.2.2.2.2.1 hc15) (pln rfl) (lay_p218) rfl rfl rfl rfl ⟨Nat.le_of_ble_eq_true rfl, Nat.le_of_ble_eq_true rfl⟩ (Nat.le_of_ble_eq_true rfl) dX9_readsCommand_179 ?_
      obtain ⟨k16, hf⟩ := ck_of hf
      obtain rfl := Option.some.inj hf
      exact i_zret hC dX9_readsCommand_182 (isb_z k16).1
    replace hf := (if_neg c17).symm.trans hf
    by_cases c23 : ((up (up S1 26 ((((3 : Int32) * (S1 28 16))).toNatClampNeg) (S1 28 17)) 28 16 (((up S1 26 ((((3 : Int32) * (S1 28 16))).toNatClampNeg) (S1 28 17)) 28 16) + (1 : Int32))) 28 17) = (6 : Int32)
    · replace hf := (if_pos c23).symm.trans hf
      refine i_tabIn hC (tgt := 115) dX9_readsCommand_40 c23 (show ((6 : Int32)).toInt = 6 by decide) (by decide) (by decide) rfl (by decide) ?_
      refine i_aload_n hC dX9_readsCommand_115 rfl ?_
      refine i_iload_n hC dX9_readsCommand_116 rfl ?_
      refine i_iconst hC dX9_readsCommand_117 li_1 ?_
      refine i_iadd hC dX9_readsCommand_118 ?_
      obtain ⟨r18, S18, hc18, hf⟩ := bd2_of hf
      refine i_callVi hC mv_X9_236 (c_X9_isDigit hC.2.2.2.2.2.2.2.1 hc18) (pln rfl) (lay_p218) rfl rfl rfl rfl ⟨Nat.le_of_ble_eq_true rfl, Nat.le_of_ble_eq_true rfl⟩ (Nat.le_of_ble_eq_true rfl) dX9_readsCommand_119 ?_
      refine i_if_eq hC (tgt := 139) dX9_readsCommand_122 (by decide) (fun c19 => ?_) (fun c19 => ?_)
      · replace hf := (if_pos c19).symm.trans hf
        exact Mj.to (b_X9_readsCommand_139 hC  hf) trivial
      · replace hf := (if_neg c19).symm.trans hf
        refine i_aload_n hC dX9_readsCommand_125 rfl ?_
        refine i_iload_n hC dX9_readsCommand_126 rfl ?_
        refine i_iconst hC dX9_readsCommand_127 li_2 ?_
        refine i_iadd hC dX9_readsCommand_128 ?_
        obtain ⟨r21, S21, hc21, hf⟩ := bd2_of hf
        refine i_callVi hC mv_X9_236 (c_X9_isDigit hC.2.2.2.2.2.2.2.1 hc21) (pln rfl) (lay_p218) rfl rfl rfl rfl ⟨Nat.le_of_ble_eq_true rfl, Nat.le_of_ble_eq_true rfl⟩ (Nat.le_of_ble_eq_true rfl) dX9_readsCommand_129 ?_
        refine i_if_eq hC (tgt := 139) dX9_readsCommand_132 (by decide) (fun c22 => ?_) (fun c22 => ?_)
        · replace hf := (if_pos c22).symm.trans hf
          exact Mj.to (b_X9_readsCommand_139 hC  hf) trivial
        · replace hf := (if_neg c22).symm.trans hf
          refine i_iconst hC dX9_readsCommand_135 li_1 ?_
          refine i_goto hC (tgt := 140) dX9_readsCommand_136 (by decide) ?_
          exact Mj.to (b_X9_readsCommand_140 hC  hf) trivial
    replace hf := (if_neg c23).symm.trans hf
    by_cases c28 : ((up (up S1 26 ((((3 : Int32) * (S1 28 16))).toNatClampNeg) (S1 28 17)) 28 16 (((up S1 26 ((((3 : Int32) * (S1 28 16))).toNatClampNeg) (S1 28 17)) 28 16) + (1 : Int32))) 28 17) = (7 : Int32)
    · replace hf := (if_pos c28).symm.trans hf
      refine i_tabIn hC (tgt := 115) dX9_readsCommand_40 c28 (show ((7 : Int32)).toInt = 7 by decide) (by decide) (by decide) rfl (by decide) ?_
      refine i_aload_n hC dX9_readsCommand_115 rfl ?_
      refine i_iload_n hC dX9_readsCommand_116 rfl ?_
      refine i_iconst hC dX9_readsCommand_117 li_1 ?_
      refine i_iadd hC dX9_readsCommand_118 ?_
      obtain ⟨r24, S24, hc24, hf⟩ := bd2_of hf
      refine i_callVi hC mv_X9_236 (c_X9_isDigit hC.2.2.2.2.2.2.2.1 hc24) (pln rfl) (lay_p218) rfl rfl rfl rfl ⟨Nat.le_of_ble_eq_true rfl, Nat.le_of_ble_eq_true rfl⟩ (Nat.le_of_ble_eq_true rfl) dX9_readsCommand_119 ?_
      refine i_if_eq hC (tgt := 139) dX9_readsCommand_122 (by decide) (fun c25 => ?_) (fun c25 => ?_)
      · replace hf := (if_pos c25).symm.trans hf
        exact Mj.to (b_X9_readsCommand_139 hC  hf) trivial
      · replace hf := (if_neg c25).symm.trans hf
        refine i_aload_n hC dX9_readsCommand_125 rfl ?_
        refine i_iload_n hC dX9_readsCommand_126 rfl ?_
        refine i_iconst hC dX9_readsCommand_127 li_2 ?_
        refine i_iadd hC dX9_readsCommand_128 ?_
        obtain ⟨r26, S26, hc26, hf⟩ := bd2_of hf
        refine i_callVi hC mv_X9_236 (c_X9_isDigit hC.2.2.2.2.2.2.2.1 hc26) (pln rfl) (lay_p218) rfl rfl rfl rfl ⟨Nat.le_of_ble_eq_true rfl, Nat.le_of_ble_eq_true rfl⟩ (Nat.le_of_ble_eq_true rfl) dX9_readsCommand_129 ?_
        refine i_if_eq hC (tgt := 139) dX9_readsCommand_132 (by decide) (fun c27 => ?_) (fun c27 => ?_)
        · replace hf := (if_pos c27).symm.trans hf
          exact Mj.to (b_X9_readsCommand_139 hC  hf) trivial
        · replace hf := (if_neg c27).symm.trans hf
          refine i_iconst hC dX9_readsCommand_135 li_1 ?_
          refine i_goto hC (tgt := 140) dX9_readsCommand_136 (by decide) ?_
          exact Mj.to (b_X9_readsCommand_140 hC  hf) trivial
    replace hf := (if_neg c28).symm.trans hf
    by_cases c35 : ((up (up S1 26 ((((3 : Int32) * (S1 28 16))).toNatClampNeg) (S1 28 17)) 28 16 (((up S1 26 ((((3 : Int32) * (S1 28 16))).toNatClampNeg) (S1 28 17)) 28 16) + (1 : Int32))) 28 17) = (8 : Int32)
    · replace hf := (if_pos c35).symm.trans hf
      refine i_tabIn hC (tgt := 141) dX9_readsCommand_40 c35 (show ((8 : Int32)).toInt = 8 by decide) (by decide) (by decide) rfl (by decide) ?_
      refine i_aload_n hC dX9_readsCommand_141 rfl ?_
      refine i_getR hC fl_X9_32 (pln rfl) (lay_p218) rfl dX9_readsCommand_142 ?_
      refine i_iload_n hC dX9_readsCommand_145 rfl ?_
      refine i_iconst hC dX9_readsCommand_146 li_1 ?_
      refine i_iadd hC dX9_readsCommand_147 ?_
      refine i_iconst hC dX9_readsCommand_148 li_1 ?_
      obtain ⟨k29, hf⟩ := ck_of hf
      refine i_iast hC (j0 := (((((3 : Int32) * (S1 28 16)) + (1 : Int32))).toNatClampNeg)) (pln rfl) (lay_p225) (bk_l ⟨rfl, rfl, rfl, rfl⟩) (inb_in k29) (Nat.zero_add _) dX9_readsCommand_149 ?_
      refine i_aload_n hC dX9_readsCommand_150 rfl ?_
      refine i_bipush hC dX9_readsCommand_151 lb_32 ?_
      obtain ⟨r30, S30, hc30, hf⟩ := bd2_of hf
      refine i_callVi hC mv_X9_239 (c_X9_isSign hC.2.2.2.2.2.2.2.1 hc30) (pln rfl) (lay_p218) rfl rfl rfl rfl ⟨Nat.le_of_ble_eq_true rfl, Nat.le_of_ble_eq_true rfl⟩ (Nat.le_of_ble_eq_true rfl) dX9_readsCommand_153 ?_
      refine i_if_eq hC (tgt := 169) dX9_readsCommand_156 (by decide) (fun c31 => ?_) (fun c31 => ?_)
      · replace hf := (if_pos c31).symm.trans hf
        exact Mj.to (b_X9_readsCommand_169 hC  hf) trivial
      · replace hf := (if_neg c31).symm.trans hf
        refine i_aload_n hC dX9_readsCommand_159 rfl ?_
        refine i_iload_n hC dX9_readsCommand_160 rfl ?_
        refine i_iconst hC dX9_readsCommand_161 li_1 ?_
        refine i_iadd hC dX9_readsCommand_162 ?_
        obtain ⟨r33, S33, hc33, hf⟩ := bd2_of hf
        refine i_callVi hC mv_X9_236 (c_X9_isDigit hC.2.2.2.2.2.2.2.1 hc33) (pln rfl) (lay_p218) rfl rfl rfl rfl ⟨Nat.le_of_ble_eq_true rfl, Nat.le_of_ble_eq_true rfl⟩ (Nat.le_of_ble_eq_true rfl) dX9_readsCommand_163 ?_
        refine i_if_eq hC (tgt := 173) dX9_readsCommand_166 (by decide) (fun c34 => ?_) (fun c34 => ?_)
        · replace hf := (if_pos c34).symm.trans hf
          refine i_iconst hC dX9_readsCommand_173 li_0 ?_
          exact Mj.to (b_X9_readsCommand_174 hC  hf) trivial
        · replace hf := (if_neg c34).symm.trans hf
          exact Mj.to (b_X9_readsCommand_169 hC  hf) trivial
    replace hf := (if_neg c35).symm.trans hf
    refine i_tabOut hC (x := ((up (up S1 26 ((((3 : Int32) * (S1 28 16))).toNatClampNeg) (S1 28 17)) 28 16 (((up S1 26 ((((3 : Int32) * (S1 28 16))).toNatClampNeg) (S1 28 17)) 28 16) + (1 : Int32))) 28 17)) (tgt := 175) dX9_readsCommand_40 (by
        have z11 := lv_neT c11 (show ((3 : Int32)).toInt = 3 by decide)
        have z14 := lv_neT c14 (show ((4 : Int32)).toInt = 4 by decide)
        have z17 := lv_neT c17 (show ((5 : Int32)).toInt = 5 by decide)
        have z23 := lv_neT c23 (show ((6 : Int32)).toInt = 6 by decide)
        have z28 := lv_neT c28 (show ((7 : Int32)).toInt = 7 by decide)
        have z35 := lv_neT c35 (show ((8 : Int32)).toInt = 8 by decide)
        omega) (by decide) ?_
    refine i_aload_n hC dX9_readsCommand_175 rfl ?_
    refine i_iload_n hC dX9_readsCommand_176 rfl ?_
    refine i_iconst hC dX9_readsCommand_177 li_1 ?_
    refine i_iadd hC dX9_readsCommand_178 ?_
    obtain ⟨r36, S36, hc36, hf⟩ := bd2_of hf
    refine i_callVi hC mv_X9_236 (c_X9_isDigit hC.2.2.2.2.2.2.2.1 hc36) (pln rfl) (lay_p218) rfl rfl rfl rfl ⟨Nat.le_of_ble_eq_true rfl, Nat.le_of_ble_eq_true rfl⟩ (Nat.le_of_ble_eq_true rfl) dX9_readsCommand_179 ?_
    obtain ⟨k37, hf⟩ := ck_of hf
    obtain rfl := Option.some.inj hf
    exact i_zret hC dX9_readsCommand_182 (isb_z k37).1
  · replace hf := (if_pos c2).symm.trans hf
    refine i_iconst hC dX9_readsCommand_7 li_0 ?_
    obtain rfl := Option.some.inj hf
    exact i_zret hC dX9_readsCommand_8 (isb_z (x := (0 : Int32)) (by decide)).1
theorem c_X9_readsCommand {v : EV} {l : Launch} (hst : Stb v) {S : Mem}  {r : Int32 × Mem} (hf : g_X9_readsCommand S = some r) : Con v l yX9_readsCommand cX9_readsCommand 2 (some .boolean) 7 142 [.ref (eA v (218))] S (some (.int r.1)) r.2 := con_of (by decide) hst (Nat.le_of_ble_eq_true rfl) (fun p e s m args below meth c hC => b_X9_readsCommand_0 hC  hf)
def f_X9_reachedBy_29 (ih4 : (Int32 × Int32) → Option (Int32)) (S : Mem) (x1 : Int32) (x3 : Int32) (xt0 : Int32) (xt1 : Int32) : Option (Int32) := ih4 ((xt1 + xt0), (x3 + (1 : Int32)))
def f_X9_reachedBy_4_b (ih4 : (Int32 × Int32) → Option (Int32)) (S : Mem) (x1 : Int32) (x2 : Int32) (x3 : Int32) : Option (Int32) := (if (S 20 1) ≤ x3 then some x2 else bd1 (g_X9_isReached S x1 x3) (fun r2 => (if r2 = 0 then f_X9_reachedBy_29 ih4 S x1 x3 (0 : Int32) x2 else f_X9_reachedBy_29 ih4 S x1 x3 (1 : Int32) x2)))
def f_X9_reachedBy_4 (S : Mem) (x1 : Int32) (x2 : Int32) (x3 : Int32) : Option (Int32) := lp (fun ih4 s9 => f_X9_reachedBy_4_b ih4 S x1 s9.1 s9.2) 2000 (x2, x3)
def f_X9_reachedBy_0 (S : Mem) (x1 : Int32) : Option (Int32) := f_X9_reachedBy_4 S x1 (0 : Int32) (0 : Int32)
def g_X9_reachedBy (S : Mem) (x1 : Int32) : Option (Int32) := f_X9_reachedBy_0 S x1
set_option maxHeartbeats 4000000 in
set_option maxRecDepth 100000 in
theorem b_X9_reachedBy_29 {v : EV} {p : Program} {l : Launch} {e : Env} {s : State} {m : MethodId} {args : Array Value} {below : List Frame} {meth : Method} {c : Code} (hC : Cx v p l e s m args meth c RX9 cX9_reachedBy 4 (some .int)) {S : Mem} {x1 : Int32} {x3 : Int32} {xt0 : Int32} {xt1 : Int32}  {r : Int32} {ih4 : (Int32 × Int32) → Option (Int32)} (hih4 : ∀ s9 : (Int32 × Int32), ih4 s9 = some r → Mj v p l e (rmF 5 98) s m args below meth c 4 (MQ below (Qc v (some (.int r)) S) args s 0 0 (eG v)) 0 S 4 [(0, .ref (eA v (218))), (1, .int x1), (2, .int (s9.1)), (3, .int (s9.2))] []) (hf : f_X9_reachedBy_29 ih4 S x1 x3 xt0 xt1 = some r) : Mj v p l e (rmF 5 98) s m args below meth c 4 (MQ below (Qc v (some (.int r)) S) args s 0 0 (eG v)) 0 S 29 [(0, .ref (eA v (218))), (1, .int x1), (3, .int x3)] [.int xt0, .int xt1] := by
  refine i_iadd hC dX9_reachedBy_29 ?_
  refine i_istore_n hC dX9_reachedBy_30 (by decide) ?_
  refine i_iinc hC dX9_reachedBy_31 rfl li_1 (by decide) ?_
  refine i_goto hC (tgt := 4) dX9_reachedBy_34 (by decide) ?_
  exact Mj.to (hih4 _ hf) ⟨rfl, rfl, rfl, rfl, trivial⟩
set_option maxHeartbeats 4000000 in
set_option maxRecDepth 100000 in
theorem b_X9_reachedBy_4_b {v : EV} {p : Program} {l : Launch} {e : Env} {s : State} {m : MethodId} {args : Array Value} {below : List Frame} {meth : Method} {c : Code} (hC : Cx v p l e s m args meth c RX9 cX9_reachedBy 4 (some .int)) {S : Mem} {x1 : Int32} {x2 : Int32} {x3 : Int32}  {r : Int32} {ih4 : (Int32 × Int32) → Option (Int32)} (hih4 : ∀ s9 : (Int32 × Int32), ih4 s9 = some r → Mj v p l e (rmF 5 98) s m args below meth c 4 (MQ below (Qc v (some (.int r)) S) args s 0 0 (eG v)) 0 S 4 [(0, .ref (eA v (218))), (1, .int x1), (2, .int (s9.1)), (3, .int (s9.2))] []) (hf : f_X9_reachedBy_4_b ih4 S x1 x2 x3 = some r) : Mj v p l e (rmF 5 98) s m args below meth c 4 (MQ below (Qc v (some (.int r)) S) args s 0 0 (eG v)) 0 S 4 [(0, .ref (eA v (218))), (1, .int x1), (2, .int x2), (3, .int x3)] [] := by
  refine i_iload_n hC dX9_reachedBy_4 rfl ?_
  refine i_aload_n hC dX9_reachedBy_5 rfl ?_
  refine i_getR hC fl_X9_9 (pln rfl) (lay_p218) rfl dX9_reachedBy_6 ?_
  refine i_iconst hC dX9_reachedBy_9 li_1 ?_
  refine i_iald hC (j0 := 1) (pln rfl) (lay_p219) (inb_in (by decide)) (by decide) dX9_reachedBy_10 ?_
  refine i_icmp_ge hC (tgt := 37) dX9_reachedBy_11 (by decide) (fun c1 => ?_) (fun c1 => ?_)
  · replace hf := (if_pos c1).symm.trans hf
    refine i_iload_n hC dX9_reachedBy_37 rfl ?_
    obtain rfl := Option.some.inj hf
    exact i_iret hC dX9_reachedBy_38
  · replace hf := (if_neg c1).symm.trans hf
    refine i_iload_n hC dX9_reachedBy_14 rfl ?_
    refine i_aload_n hC dX9_reachedBy_15 rfl ?_
    refine i_iload_n hC dX9_reachedBy_16 rfl ?_
    refine i_iload_n hC dX9_reachedBy_17 rfl ?_
    obtain ⟨r2, hc2, hf⟩ := bd1_of hf
    refine i_callVi hC mv_X9_108 (c_X9_isReached hC.2.2.2.2.2.2.2.1 hc2) (pln rfl) (lay_p218) rfl rfl rfl rfl ⟨Nat.le_of_ble_eq_true rfl, Nat.le_of_ble_eq_true rfl⟩ (Nat.le_of_ble_eq_true rfl) dX9_reachedBy_18 ?_
    refine i_if_eq hC (tgt := 28) dX9_reachedBy_21 (by decide) (fun c3 => ?_) (fun c3 => ?_)
    · replace hf := (if_pos c3).symm.trans hf
      refine i_iconst hC dX9_reachedBy_28 li_0 ?_
      exact Mj.to (b_X9_reachedBy_29 hC hih4 hf) ⟨rfl, rfl, rfl, trivial⟩
    · replace hf := (if_neg c3).symm.trans hf
      refine i_iconst hC dX9_reachedBy_24 li_1 ?_
      refine i_goto hC (tgt := 29) dX9_reachedBy_25 (by decide) ?_
      exact Mj.to (b_X9_reachedBy_29 hC hih4 hf) ⟨rfl, rfl, rfl, trivial⟩
theorem b_X9_reachedBy_4 {v : EV} {p : Program} {l : Launch} {e : Env} {s : State} {m : MethodId} {args : Array Value} {below : List Frame} {meth : Method} {c : Code} (hC : Cx v p l e s m args meth c RX9 cX9_reachedBy 4 (some .int)) {S : Mem} {x1 : Int32} {x2 : Int32} {x3 : Int32}  {r : Int32} (hf : f_X9_reachedBy_4 S x1 x2 x3 = some r) : Mj v p l e (rmF 5 98) s m args below meth c 4 (MQ below (Qc v (some (.int r)) S) args s 0 0 (eG v)) 0 S 4 [(0, .ref (eA v (218))), (1, .int x1), (2, .int x2), (3, .int x3)] [] :=
  lp_ind (P := fun s9 : (Int32 × Int32) => Mj v p l e (rmF 5 98) s m args below meth c 4 (MQ below (Qc v (some (.int r)) S) args s 0 0 (eG v)) 0 S 4 [(0, .ref (eA v (218))), (1, .int x1), (2, .int (s9.1)), (3, .int (s9.2))] []) (fun ih s9 hih hf => b_X9_reachedBy_4_b hC   hih hf) _ _ hf
set_option maxHeartbeats 4000000 in
set_option maxRecDepth 100000 in
theorem b_X9_reachedBy_0 {v : EV} {p : Program} {l : Launch} {e : Env} {s : State} {m : MethodId} {args : Array Value} {below : List Frame} {meth : Method} {c : Code} (hC : Cx v p l e s m args meth c RX9 cX9_reachedBy 4 (some .int)) {S : Mem} {x1 : Int32}  {r : Int32} (hf : f_X9_reachedBy_0 S x1 = some r) : Mj v p l e (rmF 5 98) s m args below meth c 4 (MQ below (Qc v (some (.int r)) S) args s 0 0 (eG v)) 0 S 0 [(0, .ref (eA v (218))), (1, .int x1)] [] := by
  refine i_iconst hC dX9_reachedBy_0 li_0 ?_
  refine i_istore_n hC dX9_reachedBy_1 (by decide) ?_
  refine i_iconst hC dX9_reachedBy_2 li_0 ?_
  refine i_istore_n hC dX9_reachedBy_3 (by decide) ?_
  exact Mj.to (b_X9_reachedBy_4 hC  hf) ⟨rfl, rfl, rfl, rfl, trivial⟩
theorem c_X9_reachedBy {v : EV} {l : Launch} (hst : Stb v) {S : Mem} {x1 : Int32}  {r : Int32} (hf : g_X9_reachedBy S x1 = some r) : Con v l yX9_reachedBy cX9_reachedBy 4 (some .int) 5 98 [.ref (eA v (218)), .int x1] S (some (.int r)) S := con_of (by decide) hst (Nat.le_of_ble_eq_true rfl) (fun p e s m args below meth c hC => b_X9_reachedBy_0 hC  hf)
def f_X9_reaches_23 (S : Mem) (xt0 : Int32) : Option (Int32) := ck (isb xt0) (some xt0)
def f_X9_reaches_22 (S : Mem)  : Option (Int32) := f_X9_reaches_23 S (0 : Int32)
def f_X9_reaches_0 (S : Mem) (x1 : Int32) (x2 : Int32) : Option (Int32) := bd1 (g_X9_areDrivers S x1 x2) (fun r1 => (if r1 = 0 then f_X9_reaches_22 S else bd1 (g_X9_isReached S x1 x2) (fun r4 => (if r4 = 0 then f_X9_reaches_22 S else f_X9_reaches_23 S (1 : Int32)))))
def g_X9_reaches (S : Mem) (x1 : Int32) (x2 : Int32) : Option (Int32) := f_X9_reaches_0 S x1 x2
set_option maxHeartbeats 4000000 in
set_option maxRecDepth 100000 in
theorem b_X9_reaches_23 {v : EV} {p : Program} {l : Launch} {e : Env} {s : State} {m : MethodId} {args : Array Value} {below : List Frame} {meth : Method} {c : Code} (hC : Cx v p l e s m args meth c RX9 cX9_reaches 3 (some .boolean)) {S : Mem} {xt0 : Int32}  {r : Int32} (hf : f_X9_reaches_23 S xt0 = some r) : Mj v p l e (rmF 5 98) s m args below meth c 3 (MQ below (Qc v (some (.int r)) S) args s 0 0 (eG v)) 0 S 23 [] [.int xt0] := by
  obtain ⟨k3, hf⟩ := ck_of hf
  obtain rfl := Option.some.inj hf
  exact i_zret hC dX9_reaches_23 (isb_z k3).1
set_option maxHeartbeats 4000000 in
set_option maxRecDepth 100000 in
theorem b_X9_reaches_22 {v : EV} {p : Program} {l : Launch} {e : Env} {s : State} {m : MethodId} {args : Array Value} {below : List Frame} {meth : Method} {c : Code} (hC : Cx v p l e s m args meth c RX9 cX9_reaches 3 (some .boolean)) {S : Mem}  {r : Int32} (hf : f_X9_reaches_22 S = some r) : Mj v p l e (rmF 5 98) s m args below meth c 3 (MQ below (Qc v (some (.int r)) S) args s 0 0 (eG v)) 0 S 22 [] [] := by
  refine i_iconst hC dX9_reaches_22 li_0 ?_
  exact Mj.to (b_X9_reaches_23 hC  hf) trivial
set_option maxHeartbeats 4000000 in
set_option maxRecDepth 100000 in
theorem b_X9_reaches_0 {v : EV} {p : Program} {l : Launch} {e : Env} {s : State} {m : MethodId} {args : Array Value} {below : List Frame} {meth : Method} {c : Code} (hC : Cx v p l e s m args meth c RX9 cX9_reaches 3 (some .boolean)) {S : Mem} {x1 : Int32} {x2 : Int32}  {r : Int32} (hf : f_X9_reaches_0 S x1 x2 = some r) : Mj v p l e (rmF 5 98) s m args below meth c 3 (MQ below (Qc v (some (.int r)) S) args s 0 0 (eG v)) 0 S 0 [(0, .ref (eA v (218))), (1, .int x1), (2, .int x2)] [] := by
  refine i_aload_n hC dX9_reaches_0 rfl ?_
  refine i_iload_n hC dX9_reaches_1 rfl ?_
  refine i_iload_n hC dX9_reaches_2 rfl ?_
  obtain ⟨r1, hc1, hf⟩ := bd1_of hf
  refine i_callVi hC mv_X9_162 (c_X9_areDrivers hC.2.2.2.2.2.2.2.1 hc1) (pln rfl) (lay_p218) rfl rfl rfl rfl ⟨Nat.le_of_ble_eq_true rfl, Nat.le_of_ble_eq_true rfl⟩ (Nat.le_of_ble_eq_true rfl) dX9_reaches_3 ?_
  refine i_if_eq hC (tgt := 22) dX9_reaches_6 (by decide) (fun c2 => ?_) (fun c2 => ?_)
  · replace hf := (if_pos c2).symm.trans hf
    exact Mj.to (b_X9_reaches_22 hC  hf) trivial
  · replace hf := (if_neg c2).symm.trans hf
    refine i_aload_n hC dX9_reaches_9 rfl ?_
    refine i_iload_n hC dX9_reaches_10 rfl ?_
    refine i_iload_n hC dX9_reaches_11 rfl ?_
    obtain ⟨r4, hc4, hf⟩ := bd1_of hf
    refine i_callVi hC mv_X9_108 (c_X9_isReached hC.2.2.2.2.2.2.2.1 hc4) (pln rfl) (lay_p218) rfl rfl rfl rfl ⟨Nat.le_of_ble_eq_true rfl, Nat.le_of_ble_eq_true rfl⟩ (Nat.le_of_ble_eq_true rfl) dX9_reaches_12 ?_
    refine i_if_eq hC (tgt := 22) dX9_reaches_15 (by decide) (fun c5 => ?_) (fun c5 => ?_)
    · replace hf := (if_pos c5).symm.trans hf
      exact Mj.to (b_X9_reaches_22 hC  hf) trivial
    · replace hf := (if_neg c5).symm.trans hf
      refine i_iconst hC dX9_reaches_18 li_1 ?_
      refine i_goto hC (tgt := 23) dX9_reaches_19 (by decide) ?_
      exact Mj.to (b_X9_reaches_23 hC  hf) trivial
theorem c_X9_reaches {v : EV} {l : Launch} (hst : Stb v) {S : Mem} {x1 x2 : Int32}  {r : Int32} (hf : g_X9_reaches S x1 x2 = some r) : Con v l yX9_reaches cX9_reaches 3 (some .boolean) 5 98 [.ref (eA v (218)), .int x1, .int x2] S (some (.int r)) S := con_of (by decide) hst (Nat.le_of_ble_eq_true rfl) (fun p e s m args below meth c hC => b_X9_reaches_0 hC  hf)
def f_X9_wouldVote_23 (S : Mem) (xt0 : Int32) : Option (Int32) := ck (isb xt0) (some xt0)
def f_X9_wouldVote_22 (S : Mem)  : Option (Int32) := f_X9_wouldVote_23 S (0 : Int32)
def f_X9_wouldVote_0 (S : Mem) (x1 : Int32) (x2 : Int32) : Option (Int32) := bd1 (g_X9_areDrivers S x1 x2) (fun r1 => (if r1 = 0 then f_X9_wouldVote_22 S else bd1 (g_X9_wouldGive S x1 x2) (fun r4 => (if r4 = 0 then f_X9_wouldVote_22 S else f_X9_wouldVote_23 S (1 : Int32)))))
def g_X9_wouldVote (S : Mem) (x1 : Int32) (x2 : Int32) : Option (Int32) := f_X9_wouldVote_0 S x1 x2
set_option maxHeartbeats 4000000 in
set_option maxRecDepth 100000 in
theorem b_X9_wouldVote_23 {v : EV} {p : Program} {l : Launch} {e : Env} {s : State} {m : MethodId} {args : Array Value} {below : List Frame} {meth : Method} {c : Code} (hC : Cx v p l e s m args meth c RX9 cX9_wouldVote 3 (some .boolean)) {S : Mem} {xt0 : Int32}  {r : Int32} (hf : f_X9_wouldVote_23 S xt0 = some r) : Mj v p l e (rmF 6 124) s m args below meth c 3 (MQ below (Qc v (some (.int r)) S) args s 0 0 (eG v)) 0 S 23 [] [.int xt0] := by
  obtain ⟨k3, hf⟩ := ck_of hf
  obtain rfl := Option.some.inj hf
  exact i_zret hC dX9_wouldVote_23 (isb_z k3).1
set_option maxHeartbeats 4000000 in
set_option maxRecDepth 100000 in
theorem b_X9_wouldVote_22 {v : EV} {p : Program} {l : Launch} {e : Env} {s : State} {m : MethodId} {args : Array Value} {below : List Frame} {meth : Method} {c : Code} (hC : Cx v p l e s m args meth c RX9 cX9_wouldVote 3 (some .boolean)) {S : Mem}  {r : Int32} (hf : f_X9_wouldVote_22 S = some r) : Mj v p l e (rmF 6 124) s m args below meth c 3 (MQ below (Qc v (some (.int r)) S) args s 0 0 (eG v)) 0 S 22 [] [] := by
  refine i_iconst hC dX9_wouldVote_22 li_0 ?_
  exact Mj.to (b_X9_wouldVote_23 hC  hf) trivial
set_option maxHeartbeats 4000000 in
set_option maxRecDepth 100000 in
theorem b_X9_wouldVote_0 {v : EV} {p : Program} {l : Launch} {e : Env} {s : State} {m : MethodId} {args : Array Value} {below : List Frame} {meth : Method} {c : Code} (hC : Cx v p l e s m args meth c RX9 cX9_wouldVote 3 (some .boolean)) {S : Mem} {x1 : Int32} {x2 : Int32}  {r : Int32} (hf : f_X9_wouldVote_0 S x1 x2 = some r) : Mj v p l e (rmF 6 124) s m args below meth c 3 (MQ below (Qc v (some (.int r)) S) args s 0 0 (eG v)) 0 S 0 [(0, .ref (eA v (218))), (1, .int x1), (2, .int x2)] [] := by
  refine i_aload_n hC dX9_wouldVote_0 rfl ?_
  refine i_iload_n hC dX9_wouldVote_1 rfl ?_
  refine i_iload_n hC dX9_wouldVote_2 rfl ?_
  obtain ⟨r1, hc1, hf⟩ := bd1_of hf
  refine i_callVi hC mv_X9_162 (c_X9_areDrivers hC.2.2.2.2.2.2.2.1 hc1) (pln rfl) (lay_p218) rfl rfl rfl rfl ⟨Nat.le_of_ble_eq_true rfl, Nat.le_of_ble_eq_true rfl⟩ (Nat.le_of_ble_eq_true rfl) dX9_wouldVote_3 ?_
  refine i_if_eq hC (tgt := 22) dX9_wouldVote_6 (by decide) (fun c2 => ?_) (fun c2 => ?_)
  · replace hf := (if_pos c2).symm.trans hf
    exact Mj.to (b_X9_wouldVote_22 hC  hf) trivial
  · replace hf := (if_neg c2).symm.trans hf
    refine i_aload_n hC dX9_wouldVote_9 rfl ?_
    refine i_iload_n hC dX9_wouldVote_10 rfl ?_
    refine i_iload_n hC dX9_wouldVote_11 rfl ?_
    obtain ⟨r4, hc4, hf⟩ := bd1_of hf
    refine i_callVi hC mv_X9_267 (c_X9_wouldGive hC.2.2.2.2.2.2.2.1 hc4) (pln rfl) (lay_p218) rfl rfl rfl rfl ⟨Nat.le_of_ble_eq_true rfl, Nat.le_of_ble_eq_true rfl⟩ (Nat.le_of_ble_eq_true rfl) dX9_wouldVote_12 ?_
    refine i_if_eq hC (tgt := 22) dX9_wouldVote_15 (by decide) (fun c5 => ?_) (fun c5 => ?_)
    · replace hf := (if_pos c5).symm.trans hf
      exact Mj.to (b_X9_wouldVote_22 hC  hf) trivial
    · replace hf := (if_neg c5).symm.trans hf
      refine i_iconst hC dX9_wouldVote_18 li_1 ?_
      refine i_goto hC (tgt := 23) dX9_wouldVote_19 (by decide) ?_
      exact Mj.to (b_X9_wouldVote_23 hC  hf) trivial
theorem c_X9_wouldVote {v : EV} {l : Launch} (hst : Stb v) {S : Mem} {x1 x2 : Int32}  {r : Int32} (hf : g_X9_wouldVote S x1 x2 = some r) : Con v l yX9_wouldVote cX9_wouldVote 3 (some .boolean) 6 124 [.ref (eA v (218)), .int x1, .int x2] S (some (.int r)) S := con_of (by decide) hst (Nat.le_of_ble_eq_true rfl) (fun p e s m args below meth c hC => b_X9_wouldVote_0 hC  hf)
def f_X9_couldLead_76 (ih17 : (Int32 × Int32) → Option (Int32)) (S : Mem) (x1 : Int32) (x3 : Int32) (x4 : Int32) : Option (Int32) := ih17 (x3, (x4 + (1 : Int32)))
def f_X9_couldLead_74 (ih17 : (Int32 × Int32) → Option (Int32)) (S : Mem) (x1 : Int32) (x4 : Int32) (xt0 : Int32) (xt1 : Int32) : Option (Int32) := f_X9_couldLead_76 ih17 S x1 (xt1 + xt0) x4
def f_X9_couldLead_17_b (ih17 : (Int32 × Int32) → Option (Int32)) (S : Mem) (x1 : Int32) (x3 : Int32) (x4 : Int32) : Option (Int32) := (if (S 20 1) ≤ x4 then some x3 else bd1 (g_X9_isReached S x1 x4) (fun r4 => (if r4 = 0 then f_X9_couldLead_76 ih17 S x1 x3 x4 else bd1 (g_X9_of S x4 (1 : Int32)) (fun r6 => bd1 (g_X9_of S x1 (1 : Int32)) (fun r7 => (if r6 ≤ (r7 + (1 : Int32)) then bd1 (g_X9_wouldGive S x4 x1) (fun r9 => (if r9 = 0 then f_X9_couldLead_74 ih17 S x1 x4 (0 : Int32) x3 else f_X9_couldLead_74 ih17 S x1 x4 (1 : Int32) x3)) else some (0 : Int32)))))))
def f_X9_couldLead_17 (S : Mem) (x1 : Int32) (x3 : Int32) (x4 : Int32) : Option (Int32) := lp (fun ih17 s9 => f_X9_couldLead_17_b ih17 S x1 s9.1 s9.2) 2000 (x3, x4)
def f_X9_couldLead_0 (S : Mem) (x1 : Int32) : Option (Int32) := bd1 (g_X9_codeOfAsking S x1) (fun r1 => (if r1 = 0 then f_X9_couldLead_17 S x1 (1 : Int32) (0 : Int32) else some r1))
def g_X9_couldLead (S : Mem) (x1 : Int32) : Option (Int32) := f_X9_couldLead_0 S x1
set_option maxHeartbeats 4000000 in
set_option maxRecDepth 100000 in
theorem b_X9_couldLead_76 {v : EV} {p : Program} {l : Launch} {e : Env} {s : State} {m : MethodId} {args : Array Value} {below : List Frame} {meth : Method} {c : Code} (hC : Cx v p l e s m args meth c RX9 cX9_couldLead 5 (some .int)) {S : Mem} {x1 : Int32} {x3 : Int32} {x4 : Int32}  {r : Int32} {ih17 : (Int32 × Int32) → Option (Int32)} (hih17 : ∀ s9 : (Int32 × Int32), ih17 s9 = some r → Mj v p l e (rmF 6 124) s m args below meth c 5 (MQ below (Qc v (some (.int r)) S) args s 0 0 (eG v)) 0 S 17 [(0, .ref (eA v (218))), (1, .int x1), (3, .int (s9.1)), (4, .int (s9.2))] []) (hf : f_X9_couldLead_76 ih17 S x1 x3 x4 = some r) : Mj v p l e (rmF 6 124) s m args below meth c 5 (MQ below (Qc v (some (.int r)) S) args s 0 0 (eG v)) 0 S 76 [(0, .ref (eA v (218))), (1, .int x1), (3, .int x3), (4, .int x4)] [] := by
  refine i_iinc hC dX9_couldLead_76 rfl li_1 (by decide) ?_
  refine i_goto hC (tgt := 17) dX9_couldLead_79 (by decide) ?_
  exact Mj.to (hih17 _ hf) ⟨rfl, rfl, rfl, rfl, trivial⟩
set_option maxHeartbeats 4000000 in
set_option maxRecDepth 100000 in
theorem b_X9_couldLead_74 {v : EV} {p : Program} {l : Launch} {e : Env} {s : State} {m : MethodId} {args : Array Value} {below : List Frame} {meth : Method} {c : Code} (hC : Cx v p l e s m args meth c RX9 cX9_couldLead 5 (some .int)) {S : Mem} {x1 : Int32} {x4 : Int32} {xt0 : Int32} {xt1 : Int32}  {r : Int32} {ih17 : (Int32 × Int32) → Option (Int32)} (hih17 : ∀ s9 : (Int32 × Int32), ih17 s9 = some r → Mj v p l e (rmF 6 124) s m args below meth c 5 (MQ below (Qc v (some (.int r)) S) args s 0 0 (eG v)) 0 S 17 [(0, .ref (eA v (218))), (1, .int x1), (3, .int (s9.1)), (4, .int (s9.2))] []) (hf : f_X9_couldLead_74 ih17 S x1 x4 xt0 xt1 = some r) : Mj v p l e (rmF 6 124) s m args below meth c 5 (MQ below (Qc v (some (.int r)) S) args s 0 0 (eG v)) 0 S 74 [(0, .ref (eA v (218))), (1, .int x1), (4, .int x4)] [.int xt0, .int xt1] := by
  refine i_iadd hC dX9_couldLead_74 ?_
  refine i_istore_n hC dX9_couldLead_75 (by decide) ?_
  exact Mj.to (b_X9_couldLead_76 hC hih17 hf) ⟨rfl, rfl, rfl, rfl, trivial⟩
set_option maxHeartbeats 4000000 in
set_option maxRecDepth 100000 in
theorem b_X9_couldLead_17_b {v : EV} {p : Program} {l : Launch} {e : Env} {s : State} {m : MethodId} {args : Array Value} {below : List Frame} {meth : Method} {c : Code} (hC : Cx v p l e s m args meth c RX9 cX9_couldLead 5 (some .int)) {S : Mem} {x1 : Int32} {x3 : Int32} {x4 : Int32}  {r : Int32} {ih17 : (Int32 × Int32) → Option (Int32)} (hih17 : ∀ s9 : (Int32 × Int32), ih17 s9 = some r → Mj v p l e (rmF 6 124) s m args below meth c 5 (MQ below (Qc v (some (.int r)) S) args s 0 0 (eG v)) 0 S 17 [(0, .ref (eA v (218))), (1, .int x1), (3, .int (s9.1)), (4, .int (s9.2))] []) (hf : f_X9_couldLead_17_b ih17 S x1 x3 x4 = some r) : Mj v p l e (rmF 6 124) s m args below meth c 5 (MQ below (Qc v (some (.int r)) S) args s 0 0 (eG v)) 0 S 17 [(0, .ref (eA v (218))), (1, .int x1), (3, .int x3), (4, .int x4)] [] := by
  refine i_iload hC dX9_couldLead_17 rfl ?_
  refine i_aload_n hC dX9_couldLead_19 rfl ?_
  refine i_getR hC fl_X9_9 (pln rfl) (lay_p218) rfl dX9_couldLead_20 ?_
  refine i_iconst hC dX9_couldLead_23 li_1 ?_
  refine i_iald hC (j0 := 1) (pln rfl) (lay_p219) (inb_in (by decide)) (by decide) dX9_couldLead_24 ?_
  refine i_icmp_ge hC (tgt := 82) dX9_couldLead_25 (by decide) (fun c3 => ?_) (fun c3 => ?_)
  · replace hf := (if_pos c3).symm.trans hf
    refine i_iload_n hC dX9_couldLead_82 rfl ?_
    obtain rfl := Option.some.inj hf
    exact i_iret hC dX9_couldLead_83
  · replace hf := (if_neg c3).symm.trans hf
    refine i_aload_n hC dX9_couldLead_28 rfl ?_
    refine i_iload_n hC dX9_couldLead_29 rfl ?_
    refine i_iload hC dX9_couldLead_30 rfl ?_
    obtain ⟨r4, hc4, hf⟩ := bd1_of hf
    refine i_callVi hC mv_X9_108 (c_X9_isReached hC.2.2.2.2.2.2.2.1 hc4) (pln rfl) (lay_p218) rfl rfl rfl rfl ⟨Nat.le_of_ble_eq_true rfl, Nat.le_of_ble_eq_true rfl⟩ (Nat.le_of_ble_eq_true rfl) dX9_couldLead_32 ?_
    refine i_if_eq hC (tgt := 76) dX9_couldLead_35 (by decide) (fun c5 => ?_) (fun c5 => ?_)
    · replace hf := (if_pos c5).symm.trans hf
      exact Mj.to (b_X9_couldLead_76 hC hih17 hf) ⟨rfl, rfl, rfl, rfl, trivial⟩
    · replace hf := (if_neg c5).symm.trans hf
      refine i_aload_n hC dX9_couldLead_38 rfl ?_
      refine i_iload hC dX9_couldLead_39 rfl ?_
      refine i_iconst hC dX9_couldLead_41 li_1 ?_
      obtain ⟨r6, hc6, hf⟩ := bd1_of hf
      refine i_callVi hC mv_X9_69 (c_X9_of hC.2.2.2.2.2.2.2.1 hc6) (pln rfl) (lay_p218) rfl rfl rfl rfl ⟨Nat.le_of_ble_eq_true rfl, Nat.le_of_ble_eq_true rfl⟩ (Nat.le_of_ble_eq_true rfl) dX9_couldLead_42 ?_
      refine i_aload_n hC dX9_couldLead_45 rfl ?_
      refine i_iload_n hC dX9_couldLead_46 rfl ?_
      refine i_iconst hC dX9_couldLead_47 li_1 ?_
      obtain ⟨r7, hc7, hf⟩ := bd1_of hf
      refine i_callVi hC mv_X9_69 (c_X9_of hC.2.2.2.2.2.2.2.1 hc7) (pln rfl) (lay_p218) rfl rfl rfl rfl ⟨Nat.le_of_ble_eq_true rfl, Nat.le_of_ble_eq_true rfl⟩ (Nat.le_of_ble_eq_true rfl) dX9_couldLead_48 ?_
      refine i_iconst hC dX9_couldLead_51 li_1 ?_
      refine i_iadd hC dX9_couldLead_52 ?_
      refine i_icmp_le hC (tgt := 58) dX9_couldLead_53 (by decide) (fun c8 => ?_) (fun c8 => ?_)
      · replace hf := (if_pos c8).symm.trans hf
        refine i_iload_n hC dX9_couldLead_58 rfl ?_
        refine i_aload_n hC dX9_couldLead_59 rfl ?_
        refine i_iload hC dX9_couldLead_60 rfl ?_
        refine i_iload_n hC dX9_couldLead_62 rfl ?_
        obtain ⟨r9, hc9, hf⟩ := bd1_of hf
        refine i_callVi hC mv_X9_267 (c_X9_wouldGive hC.2.2.2.2.2.2.2.1 hc9) (pln rfl) (lay_p218) rfl rfl rfl rfl ⟨Nat.le_of_ble_eq_true rfl, Nat.le_of_ble_eq_true rfl⟩ (Nat.le_of_ble_eq_true rfl) dX9_couldLead_63 ?_
        refine i_if_eq hC (tgt := 73) dX9_couldLead_66 (by decide) (fun c10 => ?_) (fun c10 => ?_)
        · replace hf := (if_pos c10).symm.trans hf
          refine i_iconst hC dX9_couldLead_73 li_0 ?_
          exact Mj.to (b_X9_couldLead_74 hC hih17 hf) ⟨rfl, rfl, rfl, trivial⟩
        · replace hf := (if_neg c10).symm.trans hf
          refine i_iconst hC dX9_couldLead_69 li_1 ?_
          refine i_goto hC (tgt := 74) dX9_couldLead_70 (by decide) ?_
          exact Mj.to (b_X9_couldLead_74 hC hih17 hf) ⟨rfl, rfl, rfl, trivial⟩
      · replace hf := (if_neg c8).symm.trans hf
        refine i_iconst hC dX9_couldLead_56 li_0 ?_
        obtain rfl := Option.some.inj hf
        exact i_iret hC dX9_couldLead_57
theorem b_X9_couldLead_17 {v : EV} {p : Program} {l : Launch} {e : Env} {s : State} {m : MethodId} {args : Array Value} {below : List Frame} {meth : Method} {c : Code} (hC : Cx v p l e s m args meth c RX9 cX9_couldLead 5 (some .int)) {S : Mem} {x1 : Int32} {x3 : Int32} {x4 : Int32}  {r : Int32} (hf : f_X9_couldLead_17 S x1 x3 x4 = some r) : Mj v p l e (rmF 6 124) s m args below meth c 5 (MQ below (Qc v (some (.int r)) S) args s 0 0 (eG v)) 0 S 17 [(0, .ref (eA v (218))), (1, .int x1), (3, .int x3), (4, .int x4)] [] :=
  lp_ind (P := fun s9 : (Int32 × Int32) => Mj v p l e (rmF 6 124) s m args below meth c 5 (MQ below (Qc v (some (.int r)) S) args s 0 0 (eG v)) 0 S 17 [(0, .ref (eA v (218))), (1, .int x1), (3, .int (s9.1)), (4, .int (s9.2))] []) (fun ih s9 hih hf => b_X9_couldLead_17_b hC   hih hf) _ _ hf
set_option maxHeartbeats 4000000 in
set_option maxRecDepth 100000 in
theorem b_X9_couldLead_0 {v : EV} {p : Program} {l : Launch} {e : Env} {s : State} {m : MethodId} {args : Array Value} {below : List Frame} {meth : Method} {c : Code} (hC : Cx v p l e s m args meth c RX9 cX9_couldLead 5 (some .int)) {S : Mem} {x1 : Int32}  {r : Int32} (hf : f_X9_couldLead_0 S x1 = some r) : Mj v p l e (rmF 6 124) s m args below meth c 5 (MQ below (Qc v (some (.int r)) S) args s 0 0 (eG v)) 0 S 0 [(0, .ref (eA v (218))), (1, .int x1)] [] := by
  refine i_aload_n hC dX9_couldLead_0 rfl ?_
  refine i_iload_n hC dX9_couldLead_1 rfl ?_
  obtain ⟨r1, hc1, hf⟩ := bd1_of hf
  refine i_callVi hC mv_X9_270 (c_X9_codeOfAsking hC.2.2.2.2.2.2.2.1 hc1) (pln rfl) (lay_p218) rfl rfl rfl rfl ⟨Nat.le_of_ble_eq_true rfl, Nat.le_of_ble_eq_true rfl⟩ (Nat.le_of_ble_eq_true rfl) dX9_couldLead_2 ?_
  refine i_istore_n hC dX9_couldLead_5 (by decide) ?_
  refine i_iload_n hC dX9_couldLead_6 rfl ?_
  refine i_if_eq hC (tgt := 12) dX9_couldLead_7 (by decide) (fun c2 => ?_) (fun c2 => ?_)
  · replace hf := (if_pos c2).symm.trans hf
    refine i_iconst hC dX9_couldLead_12 li_1 ?_
    refine i_istore_n hC dX9_couldLead_13 (by decide) ?_
    refine i_iconst hC dX9_couldLead_14 li_0 ?_
    refine i_istore hC dX9_couldLead_15 (by decide) ?_
    exact Mj.to (b_X9_couldLead_17 hC  hf) ⟨rfl, rfl, rfl, rfl, trivial⟩
  · replace hf := (if_neg c2).symm.trans hf
    refine i_iload_n hC dX9_couldLead_10 rfl ?_
    obtain rfl := Option.some.inj hf
    exact i_iret hC dX9_couldLead_11
theorem c_X9_couldLead {v : EV} {l : Launch} (hst : Stb v) {S : Mem} {x1 : Int32}  {r : Int32} (hf : g_X9_couldLead S x1 = some r) : Con v l yX9_couldLead cX9_couldLead 5 (some .int) 6 124 [.ref (eA v (218)), .int x1] S (some (.int r)) S := con_of (by decide) hst (Nat.le_of_ble_eq_true rfl) (fun p e s m args below meth c hC => b_X9_couldLead_0 hC  hf)
def f_X9_ranked_50 (ih2 : Int32 → Option (Int32)) (ih17 : (Int32 × Int32) → Option (Int32)) (S : Mem) (x1 : Int32) (x2 : Int32) (x4 : Int32) (xt0 : Int32) (xt1 : Int32) : Option (Int32) := ih17 ((xt1 + xt0), (x4 + (1 : Int32)))
def f_X9_ranked_49 (ih2 : Int32 → Option (Int32)) (ih17 : (Int32 × Int32) → Option (Int32)) (S : Mem) (x1 : Int32) (x2 : Int32) (x4 : Int32) (xt0 : Int32) : Option (Int32) := f_X9_ranked_50 ih2 ih17 S x1 x2 x4 (0 : Int32) xt0
def f_X9_ranked_17_b (ih2 : Int32 → Option (Int32)) (ih17 : (Int32 × Int32) → Option (Int32)) (S : Mem) (x1 : Int32) (x2 : Int32) (x3 : Int32) (x4 : Int32) : Option (Int32) := (if (S 20 1) ≤ x4 then (if x3 = x1 then some x2 else ih2 ((x2 + (1 : Int32)))) else (if x4 = x2 then f_X9_ranked_49 ih2 ih17 S x1 x2 x4 x3 else bd1 (g_X9_isAhead S x4 x2) (fun r5 => (if r5 = 0 then f_X9_ranked_49 ih2 ih17 S x1 x2 x4 x3 else f_X9_ranked_50 ih2 ih17 S x1 x2 x4 (1 : Int32) x3))))
def f_X9_ranked_17 (ih2 : Int32 → Option (Int32)) (S : Mem) (x1 : Int32) (x2 : Int32) (x3 : Int32) (x4 : Int32) : Option (Int32) := lp (fun ih17 s9 => f_X9_ranked_17_b ih2 ih17 S x1 x2 s9.1 s9.2) 2000 (x3, x4)
def f_X9_ranked_2_b (ih2 : Int32 → Option (Int32)) (S : Mem) (x1 : Int32) (x2 : Int32) : Option (Int32) := (if (S 20 1) ≤ x2 then some (-1 : Int32) else f_X9_ranked_17 ih2 S x1 x2 (0 : Int32) (0 : Int32))
def f_X9_ranked_2 (S : Mem) (x1 : Int32) (x2 : Int32) : Option (Int32) := lp (fun ih2 s9 => f_X9_ranked_2_b ih2 S x1 s9) 2000 (x2)
def f_X9_ranked_0 (S : Mem) (x1 : Int32) : Option (Int32) := f_X9_ranked_2 S x1 (0 : Int32)
def g_X9_ranked (S : Mem) (x1 : Int32) : Option (Int32) := f_X9_ranked_0 S x1
set_option maxHeartbeats 4000000 in
set_option maxRecDepth 100000 in
theorem b_X9_ranked_50 {v : EV} {p : Program} {l : Launch} {e : Env} {s : State} {m : MethodId} {args : Array Value} {below : List Frame} {meth : Method} {c : Code} (hC : Cx v p l e s m args meth c RX9 cX9_ranked 5 (some .int)) {S : Mem} {x1 : Int32} {x2 : Int32} {x4 : Int32} {xt0 : Int32} {xt1 : Int32}  {r : Int32} {ih2 : Int32 → Option (Int32)} (hih2 : ∀ s9 : Int32, ih2 s9 = some r → Mj v p l e (rmF 6 124) s m args below meth c 5 (MQ below (Qc v (some (.int r)) S) args s 0 0 (eG v)) 0 S 2 [(0, .ref (eA v (218))), (1, .int x1), (2, .int (s9))] []) {ih17 : (Int32 × Int32) → Option (Int32)} (hih17 : ∀ s9 : (Int32 × Int32), ih17 s9 = some r → Mj v p l e (rmF 6 124) s m args below meth c 5 (MQ below (Qc v (some (.int r)) S) args s 0 0 (eG v)) 0 S 17 [(0, .ref (eA v (218))), (1, .int x1), (2, .int x2), (3, .int (s9.1)), (4, .int (s9.2))] []) (hf : f_X9_ranked_50 ih2 ih17 S x1 x2 x4 xt0 xt1 = some r) : Mj v p l e (rmF 6 124) s m args below meth c 5 (MQ below (Qc v (some (.int r)) S) args s 0 0 (eG v)) 0 S 50 [(0, .ref (eA v (218))), (1, .int x1), (2, .int x2), (4, .int x4)] [.int xt0, .int xt1] := by
  refine i_iadd hC dX9_ranked_50 ?_
  refine i_istore_n hC dX9_ranked_51 (by decide) ?_
  refine i_iinc hC dX9_ranked_52 rfl li_1 (by decide) ?_
  refine i_goto hC (tgt := 17) dX9_ranked_55 (by decide) ?_
  exact Mj.to (hih17 _ hf) ⟨rfl, rfl, rfl, rfl, rfl, trivial⟩
set_option maxHeartbeats 4000000 in
set_option maxRecDepth 100000 in
theorem b_X9_ranked_49 {v : EV} {p : Program} {l : Launch} {e : Env} {s : State} {m : MethodId} {args : Array Value} {below : List Frame} {meth : Method} {c : Code} (hC : Cx v p l e s m args meth c RX9 cX9_ranked 5 (some .int)) {S : Mem} {x1 : Int32} {x2 : Int32} {x4 : Int32} {xt0 : Int32}  {r : Int32} {ih2 : Int32 → Option (Int32)} (hih2 : ∀ s9 : Int32, ih2 s9 = some r → Mj v p l e (rmF 6 124) s m args below meth c 5 (MQ below (Qc v (some (.int r)) S) args s 0 0 (eG v)) 0 S 2 [(0, .ref (eA v (218))), (1, .int x1), (2, .int (s9))] []) {ih17 : (Int32 × Int32) → Option (Int32)} (hih17 : ∀ s9 : (Int32 × Int32), ih17 s9 = some r → Mj v p l e (rmF 6 124) s m args below meth c 5 (MQ below (Qc v (some (.int r)) S) args s 0 0 (eG v)) 0 S 17 [(0, .ref (eA v (218))), (1, .int x1), (2, .int x2), (3, .int (s9.1)), (4, .int (s9.2))] []) (hf : f_X9_ranked_49 ih2 ih17 S x1 x2 x4 xt0 = some r) : Mj v p l e (rmF 6 124) s m args below meth c 5 (MQ below (Qc v (some (.int r)) S) args s 0 0 (eG v)) 0 S 49 [(0, .ref (eA v (218))), (1, .int x1), (2, .int x2), (4, .int x4)] [.int xt0] := by
  refine i_iconst hC dX9_ranked_49 li_0 ?_
  exact Mj.to (b_X9_ranked_50 hC hih2 hih17 hf) ⟨rfl, rfl, rfl, rfl, trivial⟩
set_option maxHeartbeats 4000000 in
set_option maxRecDepth 100000 in
theorem b_X9_ranked_17_b {v : EV} {p : Program} {l : Launch} {e : Env} {s : State} {m : MethodId} {args : Array Value} {below : List Frame} {meth : Method} {c : Code} (hC : Cx v p l e s m args meth c RX9 cX9_ranked 5 (some .int)) {S : Mem} {x1 : Int32} {x2 : Int32} {x3 : Int32} {x4 : Int32}  {r : Int32} {ih2 : Int32 → Option (Int32)} (hih2 : ∀ s9 : Int32, ih2 s9 = some r → Mj v p l e (rmF 6 124) s m args below meth c 5 (MQ below (Qc v (some (.int r)) S) args s 0 0 (eG v)) 0 S 2 [(0, .ref (eA v (218))), (1, .int x1), (2, .int (s9))] []) {ih17 : (Int32 × Int32) → Option (Int32)} (hih17 : ∀ s9 : (Int32 × Int32), ih17 s9 = some r → Mj v p l e (rmF 6 124) s m args below meth c 5 (MQ below (Qc v (some (.int r)) S) args s 0 0 (eG v)) 0 S 17 [(0, .ref (eA v (218))), (1, .int x1), (2, .int x2), (3, .int (s9.1)), (4, .int (s9.2))] []) (hf : f_X9_ranked_17_b ih2 ih17 S x1 x2 x3 x4 = some r) : Mj v p l e (rmF 6 124) s m args below meth c 5 (MQ below (Qc v (some (.int r)) S) args s 0 0 (eG v)) 0 S 17 [(0, .ref (eA v (218))), (1, .int x1), (2, .int x2), (3, .int x3), (4, .int x4)] [] := by
  refine i_iload hC dX9_ranked_17 rfl ?_
  refine i_aload_n hC dX9_ranked_19 rfl ?_
  refine i_getR hC fl_X9_9 (pln rfl) (lay_p218) rfl dX9_ranked_20 ?_
  refine i_iconst hC dX9_ranked_23 li_1 ?_
  refine i_iald hC (j0 := 1) (pln rfl) (lay_p219) (inb_in (by decide)) (by decide) dX9_ranked_24 ?_
  refine i_icmp_ge hC (tgt := 58) dX9_ranked_25 (by decide) (fun c2 => ?_) (fun c2 => ?_)
  · replace hf := (if_pos c2).symm.trans hf
    refine i_iload_n hC dX9_ranked_58 rfl ?_
    refine i_iload_n hC dX9_ranked_59 rfl ?_
    refine i_icmp_ne hC (tgt := 65) dX9_ranked_60 (by decide) (fun c3 => ?_) (fun c3 => ?_)
    · replace hf := (if_neg c3).symm.trans hf
      refine i_iinc hC dX9_ranked_65 rfl li_1 (by decide) ?_
      refine i_goto hC (tgt := 2) dX9_ranked_68 (by decide) ?_
      exact Mj.to (hih2 _ hf) ⟨rfl, rfl, rfl, trivial⟩
    · replace hf := (if_pos c3).symm.trans hf
      refine i_iload_n hC dX9_ranked_63 rfl ?_
      obtain rfl := Option.some.inj hf
      exact i_iret hC dX9_ranked_64
  · replace hf := (if_neg c2).symm.trans hf
    refine i_iload_n hC dX9_ranked_28 rfl ?_
    refine i_iload hC dX9_ranked_29 rfl ?_
    refine i_iload_n hC dX9_ranked_31 rfl ?_
    refine i_icmp_eq hC (tgt := 49) dX9_ranked_32 (by decide) (fun c4 => ?_) (fun c4 => ?_)
    · replace hf := (if_pos c4).symm.trans hf
      exact Mj.to (b_X9_ranked_49 hC hih2 hih17 hf) ⟨rfl, rfl, rfl, rfl, trivial⟩
    · replace hf := (if_neg c4).symm.trans hf
      refine i_aload_n hC dX9_ranked_35 rfl ?_
      refine i_iload hC dX9_ranked_36 rfl ?_
      refine i_iload_n hC dX9_ranked_38 rfl ?_
      obtain ⟨r5, hc5, hf⟩ := bd1_of hf
      refine i_callVi hC mv_X9_273 (c_X9_isAhead hC.2.2.2.2.2.2.2.1 hc5) (pln rfl) (lay_p218) rfl rfl rfl rfl ⟨Nat.le_of_ble_eq_true rfl, Nat.le_of_ble_eq_true rfl⟩ (Nat.le_of_ble_eq_true rfl) dX9_ranked_39 ?_
      refine i_if_eq hC (tgt := 49) dX9_ranked_42 (by decide) (fun c6 => ?_) (fun c6 => ?_)
      · replace hf := (if_pos c6).symm.trans hf
        exact Mj.to (b_X9_ranked_49 hC hih2 hih17 hf) ⟨rfl, rfl, rfl, rfl, trivial⟩
      · replace hf := (if_neg c6).symm.trans hf
        refine i_iconst hC dX9_ranked_45 li_1 ?_
        refine i_goto hC (tgt := 50) dX9_ranked_46 (by decide) ?_
        exact Mj.to (b_X9_ranked_50 hC hih2 hih17 hf) ⟨rfl, rfl, rfl, rfl, trivial⟩
theorem b_X9_ranked_17 {v : EV} {p : Program} {l : Launch} {e : Env} {s : State} {m : MethodId} {args : Array Value} {below : List Frame} {meth : Method} {c : Code} (hC : Cx v p l e s m args meth c RX9 cX9_ranked 5 (some .int)) {S : Mem} {x1 : Int32} {x2 : Int32} {x3 : Int32} {x4 : Int32}  {r : Int32} {ih2 : Int32 → Option (Int32)} (hih2 : ∀ s9 : Int32, ih2 s9 = some r → Mj v p l e (rmF 6 124) s m args below meth c 5 (MQ below (Qc v (some (.int r)) S) args s 0 0 (eG v)) 0 S 2 [(0, .ref (eA v (218))), (1, .int x1), (2, .int (s9))] []) (hf : f_X9_ranked_17 ih2 S x1 x2 x3 x4 = some r) : Mj v p l e (rmF 6 124) s m args below meth c 5 (MQ below (Qc v (some (.int r)) S) args s 0 0 (eG v)) 0 S 17 [(0, .ref (eA v (218))), (1, .int x1), (2, .int x2), (3, .int x3), (4, .int x4)] [] :=
  lp_ind (P := fun s9 : (Int32 × Int32) => Mj v p l e (rmF 6 124) s m args below meth c 5 (MQ below (Qc v (some (.int r)) S) args s 0 0 (eG v)) 0 S 17 [(0, .ref (eA v (218))), (1, .int x1), (2, .int x2), (3, .int (s9.1)), (4, .int (s9.2))] []) (fun ih s9 hih hf => b_X9_ranked_17_b hC  hih2 hih hf) _ _ hf
set_option maxHeartbeats 4000000 in
set_option maxRecDepth 100000 in
theorem b_X9_ranked_2_b {v : EV} {p : Program} {l : Launch} {e : Env} {s : State} {m : MethodId} {args : Array Value} {below : List Frame} {meth : Method} {c : Code} (hC : Cx v p l e s m args meth c RX9 cX9_ranked 5 (some .int)) {S : Mem} {x1 : Int32} {x2 : Int32}  {r : Int32} {ih2 : Int32 → Option (Int32)} (hih2 : ∀ s9 : Int32, ih2 s9 = some r → Mj v p l e (rmF 6 124) s m args below meth c 5 (MQ below (Qc v (some (.int r)) S) args s 0 0 (eG v)) 0 S 2 [(0, .ref (eA v (218))), (1, .int x1), (2, .int (s9))] []) (hf : f_X9_ranked_2_b ih2 S x1 x2 = some r) : Mj v p l e (rmF 6 124) s m args below meth c 5 (MQ below (Qc v (some (.int r)) S) args s 0 0 (eG v)) 0 S 2 [(0, .ref (eA v (218))), (1, .int x1), (2, .int x2)] [] := by
  refine i_iload_n hC dX9_ranked_2 rfl ?_
  refine i_aload_n hC dX9_ranked_3 rfl ?_
  refine i_getR hC fl_X9_9 (pln rfl) (lay_p218) rfl dX9_ranked_4 ?_
  refine i_iconst hC dX9_ranked_7 li_1 ?_
  refine i_iald hC (j0 := 1) (pln rfl) (lay_p219) (inb_in (by decide)) (by decide) dX9_ranked_8 ?_
  refine i_icmp_ge hC (tgt := 71) dX9_ranked_9 (by decide) (fun c1 => ?_) (fun c1 => ?_)
  · replace hf := (if_pos c1).symm.trans hf
    refine i_iconst hC dX9_ranked_71 li_m1 ?_
    obtain rfl := Option.some.inj hf
    exact i_iret hC dX9_ranked_72
  · replace hf := (if_neg c1).symm.trans hf
    refine i_iconst hC dX9_ranked_12 li_0 ?_
    refine i_istore_n hC dX9_ranked_13 (by decide) ?_
    refine i_iconst hC dX9_ranked_14 li_0 ?_
    refine i_istore hC dX9_ranked_15 (by decide) ?_
    exact Mj.to (b_X9_ranked_17 hC hih2 hf) ⟨rfl, rfl, rfl, rfl, rfl, trivial⟩
theorem b_X9_ranked_2 {v : EV} {p : Program} {l : Launch} {e : Env} {s : State} {m : MethodId} {args : Array Value} {below : List Frame} {meth : Method} {c : Code} (hC : Cx v p l e s m args meth c RX9 cX9_ranked 5 (some .int)) {S : Mem} {x1 : Int32} {x2 : Int32}  {r : Int32} (hf : f_X9_ranked_2 S x1 x2 = some r) : Mj v p l e (rmF 6 124) s m args below meth c 5 (MQ below (Qc v (some (.int r)) S) args s 0 0 (eG v)) 0 S 2 [(0, .ref (eA v (218))), (1, .int x1), (2, .int x2)] [] :=
  lp_ind (P := fun s9 : Int32 => Mj v p l e (rmF 6 124) s m args below meth c 5 (MQ below (Qc v (some (.int r)) S) args s 0 0 (eG v)) 0 S 2 [(0, .ref (eA v (218))), (1, .int x1), (2, .int (s9))] []) (fun ih s9 hih hf => b_X9_ranked_2_b hC   hih hf) _ _ hf
set_option maxHeartbeats 4000000 in
set_option maxRecDepth 100000 in
theorem b_X9_ranked_0 {v : EV} {p : Program} {l : Launch} {e : Env} {s : State} {m : MethodId} {args : Array Value} {below : List Frame} {meth : Method} {c : Code} (hC : Cx v p l e s m args meth c RX9 cX9_ranked 5 (some .int)) {S : Mem} {x1 : Int32}  {r : Int32} (hf : f_X9_ranked_0 S x1 = some r) : Mj v p l e (rmF 6 124) s m args below meth c 5 (MQ below (Qc v (some (.int r)) S) args s 0 0 (eG v)) 0 S 0 [(0, .ref (eA v (218))), (1, .int x1)] [] := by
  refine i_iconst hC dX9_ranked_0 li_0 ?_
  refine i_istore_n hC dX9_ranked_1 (by decide) ?_
  exact Mj.to (b_X9_ranked_2 hC  hf) ⟨rfl, rfl, rfl, trivial⟩
theorem c_X9_ranked {v : EV} {l : Launch} (hst : Stb v) {S : Mem} {x1 : Int32}  {r : Int32} (hf : g_X9_ranked S x1 = some r) : Con v l yX9_ranked cX9_ranked 5 (some .int) 6 124 [.ref (eA v (218)), .int x1] S (some (.int r)) S := con_of (by decide) hst (Nat.le_of_ble_eq_true rfl) (fun p e s m args below meth c hC => b_X9_ranked_0 hC  hf)
