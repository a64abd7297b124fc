def f_X9_tie_0 (S : Mem) (x1 : Int32) (x2 : Int32) : Option (Int32 × Mem) := bd1 (g_X9_keeps S) (fun S1 => bd2 (g_X9_ropes S1 x1 x2 (0 : Int32)) (fun r2 S2 => bd2 (g_X9_ends S2 r2) (fun r3 S3 => some (r3, S3))))
def g_X9_tie (S : Mem) (x1 : Int32) (x2 : Int32) : Option (Int32 × Mem) := f_X9_tie_0 S x1 x2
set_option maxHeartbeats 4000000 in
set_option maxRecDepth 100000 in
theorem b_X9_tie_0 {v : EV} {p : Program} {l : Launch} {e : Env} {s : State} {m : MethodId} {args : Array Value} {below : List Frame} {meth : Method} {c : Code} (hC : Cx v p l e s m args meth c RX9 cX9_tie 3 (some .int)) {S : Mem} {x1 : Int32} {x2 : Int32}  {r : Int32 × Mem} (hf : f_X9_tie_0 S x1 x2 = some r) : Mj v p l e (rmF 5 100) s m args below meth c 3 (MQ below (Qc v (some (.int r.1)) r.2) args s 0 0 (eG v)) 0 S 0 [(0, .ref (eA v (218))), (1, .int x1), (2, .int x2)] [] := by
  refine i_aload_n hC dX9_tie_0 rfl ?_
  obtain ⟨S1, hc1, hf⟩ := bd1_of hf
  refine i_callVv hC mv_X9_96 (c_X9_keeps hC.2.2.2.2.2.2.2.1 hc1) (pln rfl) (lay_p218) rfl rfl rfl rfl ⟨Nat.le_of_ble_eq_true rfl, Nat.le_of_ble_eq_true rfl⟩ (Nat.le_of_ble_eq_true rfl) dX9_tie_1 ?_
  refine i_aload_n hC dX9_tie_4 rfl ?_
  refine i_aload_n hC dX9_tie_5 rfl ?_
  refine i_iload_n hC dX9_tie_6 rfl ?_
  refine i_iload_n hC dX9_tie_7 rfl ?_
  refine i_iconst hC dX9_tie_8 li_0 ?_
  obtain ⟨r2, S2, hc2, hf⟩ := bd2_of hf
  refine i_callVi hC mv_X9_168 (c_X9_ropes hC.2.2.2.2.2.2.2.1 hc2) (pln rfl) (lay_p218) rfl rfl rfl rfl ⟨Nat.le_of_ble_eq_true rfl, Nat.le_of_ble_eq_true rfl⟩ (Nat.le_of_ble_eq_true rfl) dX9_tie_9 ?_
  obtain ⟨r3, S3, hc3, hf⟩ := bd2_of hf
  refine i_callVi hC mv_X9_102 (c_X9_ends hC.2.2.2.2.2.2.2.1 hc3) (pln rfl) (lay_p218) rfl rfl rfl rfl ⟨Nat.le_of_ble_eq_true rfl, Nat.le_of_ble_eq_true rfl⟩ (Nat.le_of_ble_eq_true rfl) dX9_tie_12 ?_
  obtain rfl := Option.some.inj hf
  exact i_iret hC dX9_tie_15
theorem c_X9_tie {v : EV} {l : Launch} (hst : Stb v) {S : Mem} {x1 x2 : Int32}  {r : Int32 × Mem} (hf : g_X9_tie S x1 x2 = some r) : Con v l yX9_tie cX9_tie 3 (some .int) 5 100 [.ref (eA v (218)), .int x1, .int x2] S (some (.int r.1)) r.2 := con_of (by decide) hst (Nat.le_of_ble_eq_true rfl) (fun p e s m args below meth c hC => b_X9_tie_0 hC  hf)
def f_X9_isWord_4_b (ih4 : (Int32 × Int32) → Option (Int32 × Mem)) (S : Mem) (x1 : Int32) (x2 : Int32) : Option (Int32 × Mem) := (if (8 : Int32) < x2 then some ((0 : Int32), (up S 28 15 ((S 28 15) + x1))) else bd1 (g_X9_wordOf x2) (fun r2 => ck (decide (r2 < 9)) (bd1 (g_X9_alikeHere S r2) (fun r4 => bd1 (g_X9_wordOf x2) (fun r5 => ck (decide (r5 < 9)) (bd1 (g_J0_length_8abf5 S r5) (fun r7 => (if r4 = r7 then some ((1 : Int32), (up (up S 28 17 x2) 28 15 (((up S 28 17 x2) 28 15) + r4))) else bd1 (g_X9_greater x1 r4) (fun r9 => ih4 (r9, (x2 + (1 : Int32))))))))))))
def f_X9_isWord_4 (S : Mem) (x1 : Int32) (x2 : Int32) : Option (Int32 × Mem) := lp (fun ih4 s9 => f_X9_isWord_4_b ih4 S s9.1 s9.2) 2000 (x1, x2)
def f_X9_isWord_0 (S : Mem)  : Option (Int32 × Mem) := f_X9_isWord_4 S (0 : Int32) (0 : Int32)
def g_X9_isWord (S : Mem)  : Option (Int32 × Mem) := f_X9_isWord_0 S
set_option maxHeartbeats 4000000 in
set_option maxRecDepth 100000 in
theorem b_X9_isWord_4_b {v : EV} {p : Program} {l : Launch} {e : Env} {s : State} {m : MethodId} {args : Array Value} {below : List Frame} {meth : Method} {c : Code} (hC : Cx v p l e s m args meth c RX9 cX9_isWord 4 (some .boolean)) {S : Mem} {x1 : Int32} {x2 : Int32}  {r : Int32 × Mem} {ih4 : (Int32 × Int32) → Option (Int32 × Mem)} (hih4 : ∀ s9 : (Int32 × Int32), ih4 s9 = some r → Mj v p l e (rmF 6 119) s m args below meth c 4 (MQ below (Qc v (some (.int r.1)) r.2) args s 0 0 (eG v)) 0 S 4 [(0, .ref (eA v (218))), (1, .int (s9.1)), (2, .int (s9.2))] []) (hf : f_X9_isWord_4_b ih4 S x1 x2 = some r) : Mj v p l e (rmF 6 119) s m args below meth c 4 (MQ below (Qc v (some (.int r.1)) r.2) args s 0 0 (eG v)) 0 S 4 [(0, .ref (eA v (218))), (1, .int x1), (2, .int x2)] [] := by
  refine i_iload_n hC dX9_isWord_4 rfl ?_
  refine i_bipush hC dX9_isWord_5 lb_8 ?_
  refine i_icmp_gt hC (tgt := 59) dX9_isWord_7 (by decide) (fun c1 => ?_) (fun c1 => ?_)
  · replace hf := (if_pos c1).symm.trans hf
    refine i_aload_n hC dX9_isWord_59 rfl ?_
    refine i_dup hC dX9_isWord_60 rfl ?_
    refine i_getI hC fl_X9_185 (pln rfl) (lay_p218) rfl dX9_isWord_61 ?_
    refine i_iload_n hC dX9_isWord_64 rfl ?_
    refine i_iadd hC dX9_isWord_65 ?_
    refine i_putI hC fl_X9_185 (pln rfl) (lay_p218) rfl (bk_l ⟨rfl, rfl, rfl, rfl⟩) (nf_int _) dX9_isWord_66 ?_
    refine i_iconst hC dX9_isWord_69 li_0 ?_
    obtain rfl := Option.some.inj hf
    exact i_zret hC dX9_isWord_70 (isb_z (x := (0 : Int32)) (by decide)).1
  · replace hf := (if_neg c1).symm.trans hf
    refine i_aload_n hC dX9_isWord_10 rfl ?_
    refine i_iload_n hC dX9_isWord_11 rfl ?_
    obtain ⟨r2, hc2, hf⟩ := bd1_of hf
    refine i_callSi hC mv_X9_218 (c_X9_wordOf hC.2.2.2.2.2.2.2.1 hc2) rfl rfl rfl ⟨Nat.le_of_ble_eq_true rfl, Nat.le_of_ble_eq_true rfl⟩ (Nat.le_of_ble_eq_true rfl) dX9_isWord_12 ?_
    obtain ⟨k3, hf⟩ := ck_of hf
    obtain ⟨r4, hc4, hf⟩ := bd1_of hf
    refine i_callVi hC mv_X9_222 (c_X9_alikeHere hC.2.2.2.2.2.2.2.1 (of_decide_eq_true k3) hc4) (pln rfl) (lay_p218) rfl rfl rfl rfl ⟨Nat.le_of_ble_eq_true rfl, Nat.le_of_ble_eq_true rfl⟩ (Nat.le_of_ble_eq_true rfl) dX9_isWord_15 ?_
    refine i_istore_n hC dX9_isWord_18 (by decide) ?_
    refine i_iload_n hC dX9_isWord_19 rfl ?_
    refine i_iload_n hC dX9_isWord_20 rfl ?_
    obtain ⟨r5, hc5, hf⟩ := bd1_of hf
    refine i_callSi hC mv_X9_218 (c_X9_wordOf hC.2.2.2.2.2.2.2.1 hc5) rfl rfl rfl ⟨Nat.le_of_ble_eq_true rfl, Nat.le_of_ble_eq_true rfl⟩ (Nat.le_of_ble_eq_true rfl) dX9_isWord_21 ?_
    obtain ⟨k6, hf⟩ := ck_of hf
    obtain ⟨r7, hc7, hf⟩ := bd1_of hf
    refine i_callT hC (of_decide_eq_true k6) mv_X9_209 (c_J0_length_8abf5 hC.2.2.2.2.2.2.2.1 (of_decide_eq_true k6) hc7) rfl rfl rfl ⟨Nat.le_of_ble_eq_true rfl, Nat.le_of_ble_eq_true rfl⟩ (Nat.le_of_ble_eq_true rfl) dX9_isWord_24 ?_
    refine i_icmp_ne hC (tgt := 47) dX9_isWord_27 (by decide) (fun c8 => ?_) (fun c8 => ?_)
    · replace hf := (if_neg c8).symm.trans hf
      refine i_iload_n hC dX9_isWord_47 rfl ?_
      refine i_iload_n hC dX9_isWord_48 rfl ?_
      obtain ⟨r9, hc9, hf⟩ := bd1_of hf
      refine i_callSi hC mv_X9_75 (c_X9_greater hC.2.2.2.2.2.2.2.1 hc9) rfl rfl rfl ⟨Nat.le_of_ble_eq_true rfl, Nat.le_of_ble_eq_true rfl⟩ (Nat.le_of_ble_eq_true rfl) dX9_isWord_49 ?_
      refine i_istore_n hC dX9_isWord_52 (by decide) ?_
      refine i_iinc hC dX9_isWord_53 rfl li_1 (by decide) ?_
      refine i_goto hC (tgt := 4) dX9_isWord_56 (by decide) ?_
      exact Mj.to (hih4 _ hf) ⟨rfl, rfl, rfl, trivial⟩
    · replace hf := (if_pos c8).symm.trans hf
      refine i_aload_n hC dX9_isWord_30 rfl ?_
      refine i_iload_n hC dX9_isWord_31 rfl ?_
      refine i_putI hC fl_X9_226 (pln rfl) (lay_p218) rfl (bk_l ⟨rfl, rfl, rfl, rfl⟩) (nf_int _) dX9_isWord_32 ?_
      refine i_aload_n hC dX9_isWord_35 rfl ?_
      refine i_dup hC dX9_isWord_36 rfl ?_
      refine i_getI hC fl_X9_185 (pln rfl) (lay_p218) rfl dX9_isWord_37 ?_
      refine i_iload_n hC dX9_isWord_40 rfl ?_
      refine i_iadd hC dX9_isWord_41 ?_
      refine i_putI hC fl_X9_185 (pln rfl) (lay_p218) rfl (bk_l ⟨rfl, rfl, rfl, rfl⟩) (nf_int _) dX9_isWord_42 ?_
      refine i_iconst hC dX9_isWord_45 li_1 ?_
      obtain rfl := Option.some.inj hf
      exact i_zret hC dX9_isWord_46 (isb_z (x := (1 : Int32)) (by decide)).1
theorem b_X9_isWord_4 {v : EV} {p : Program} {l : Launch} {e : Env} {s : State} {m : MethodId} {args : Array Value} {below : List Frame} {meth : Method} {c : Code} (hC : Cx v p l e s m args meth c RX9 cX9_isWord 4 (some .boolean)) {S : Mem} {x1 : Int32} {x2 : Int32}  {r : Int32 × Mem} (hf : f_X9_isWord_4 S x1 x2 = some r) : Mj v p l e (rmF 6 119) s m args below meth c 4 (MQ below (Qc v (some (.int r.1)) r.2) args s 0 0 (eG v)) 0 S 4 [(0, .ref (eA v (218))), (1, .int x1), (2, .int x2)] [] :=
  lp_ind (P := fun s9 : (Int32 × Int32) => Mj v p l e (rmF 6 119) s m args below meth c 4 (MQ below (Qc v (some (.int r.1)) r.2) args s 0 0 (eG v)) 0 S 4 [(0, .ref (eA v (218))), (1, .int (s9.1)), (2, .int (s9.2))] []) (fun ih s9 hih hf => b_X9_isWord_4_b hC   hih hf) _ _ hf
set_option maxHeartbeats 4000000 in
set_option maxRecDepth 100000 in
theorem b_X9_isWord_0 {v : EV} {p : Program} {l : Launch} {e : Env} {s : State} {m : MethodId} {args : Array Value} {below : List Frame} {meth : Method} {c : Code} (hC : Cx v p l e s m args meth c RX9 cX9_isWord 4 (some .boolean)) {S : Mem}  {r : Int32 × Mem} (hf : f_X9_isWord_0 S = some r) : Mj v p l e (rmF 6 119) s m args below meth c 4 (MQ below (Qc v (some (.int r.1)) r.2) args s 0 0 (eG v)) 0 S 0 [(0, .ref (eA v (218)))] [] := by
  refine i_iconst hC dX9_isWord_0 li_0 ?_
  refine i_istore_n hC dX9_isWord_1 (by decide) ?_
  refine i_iconst hC dX9_isWord_2 li_0 ?_
  refine i_istore_n hC dX9_isWord_3 (by decide) ?_
  exact Mj.to (b_X9_isWord_4 hC  hf) ⟨rfl, rfl, rfl, trivial⟩
theorem c_X9_isWord {v : EV} {l : Launch} (hst : Stb v) {S : Mem}  {r : Int32 × Mem} (hf : g_X9_isWord S = some r) : Con v l yX9_isWord cX9_isWord 4 (some .boolean) 6 119 [.ref (eA v (218))] S (some (.int r.1)) r.2 := con_of (by decide) hst (Nat.le_of_ble_eq_true rfl) (fun p e s m args below meth c hC => b_X9_isWord_0 hC  hf)
def f_X9_isDigit_38 (S : Mem) (x3 : Int32) (xt0 : Int32) (xt1 : Int32) : Option (Int32 × Mem) := ck (isb x3) (some (x3, (up S 28 15 (xt1 + xt0))))
def f_X9_isDigit_0 (S : Mem) (x1 : Int32) : Option (Int32 × Mem) := bd1 (g_X9_sign S) (fun r1 => bd1 (g_X9_isIn r1 (48 : Int32) (57 : Int32)) (fun r2 => ck (inb x1 39) ((if r2 = 0 then f_X9_isDigit_38 (up S 26 ((x1).toNatClampNeg) (r1 - (48 : Int32))) r2 (0 : Int32) ((up S 26 ((x1).toNatClampNeg) (r1 - (48 : Int32))) 28 15) else f_X9_isDigit_38 (up S 26 ((x1).toNatClampNeg) (r1 - (48 : Int32))) r2 (1 : Int32) ((up S 26 ((x1).toNatClampNeg) (r1 - (48 : Int32))) 28 15)))))
def g_X9_isDigit (S : Mem) (x1 : Int32) : Option (Int32 × Mem) := f_X9_isDigit_0 S x1
set_option maxHeartbeats 4000000 in
set_option maxRecDepth 100000 in
theorem b_X9_isDigit_38 {v : EV} {p : Program} {l : Launch} {e : Env} {s : State} {m : MethodId} {args : Array Value} {below : List Frame} {meth : Method} {c : Code} (hC : Cx v p l e s m args meth c RX9 cX9_isDigit 4 (some .boolean)) {S : Mem} {x3 : Int32} {xt0 : Int32} {xt1 : Int32}  {r : Int32 × Mem} (hf : f_X9_isDigit_38 S x3 xt0 xt1 = some r) : Mj v p l e (rmF 2 34) s m args below meth c 4 (MQ below (Qc v (some (.int r.1)) r.2) args s 0 0 (eG v)) 0 S 38 [(3, .int x3)] [.int xt0, .int xt1, .ref (eA v (218))] := by
  refine i_iadd hC dX9_isDigit_38 ?_
  refine i_putI hC fl_X9_185 (pln rfl) (lay_p218) rfl (bk_l ⟨rfl, rfl, rfl, rfl⟩) (nf_int _) dX9_isDigit_39 ?_
  refine i_iload_n hC dX9_isDigit_42 rfl ?_
  obtain ⟨k5, hf⟩ := ck_of hf
  obtain rfl := Option.some.inj hf
  exact i_zret hC dX9_isDigit_43 (isb_z k5).1
set_option maxHeartbeats 4000000 in
set_option maxRecDepth 100000 in
theorem b_X9_isDigit_0 {v : EV} {p : Program} {l : Launch} {e : Env} {s : State} {m : MethodId} {args : Array Value} {below : List Frame} {meth : Method} {c : Code} (hC : Cx v p l e s m args meth c RX9 cX9_isDigit 4 (some .boolean)) {S : Mem} {x1 : Int32}  {r : Int32 × Mem} (hf : f_X9_isDigit_0 S x1 = some r) : Mj v p l e (rmF 2 34) s m args below meth c 4 (MQ below (Qc v (some (.int r.1)) r.2) args s 0 0 (eG v)) 0 S 0 [(0, .ref (eA v (218))), (1, .int x1)] [] := by
  refine i_aload_n hC dX9_isDigit_0 rfl ?_
  obtain ⟨r1, hc1, hf⟩ := bd1_of hf
  refine i_callVi hC mv_X9_188 (c_X9_sign hC.2.2.2.2.2.2.2.1 hc1) (pln rfl) (lay_p218) rfl rfl rfl rfl ⟨Nat.le_of_ble_eq_true rfl, Nat.le_of_ble_eq_true rfl⟩ (Nat.le_of_ble_eq_true rfl) dX9_isDigit_1 ?_
  refine i_istore_n hC dX9_isDigit_4 (by decide) ?_
  refine i_iload_n hC dX9_isDigit_5 rfl ?_
  refine i_bipush hC dX9_isDigit_6 lb_48 ?_
  refine i_bipush hC dX9_isDigit_8 lb_57 ?_
  obtain ⟨r2, hc2, hf⟩ := bd1_of hf
  refine i_callSi hC mv_X9_61 (c_X9_isIn hC.2.2.2.2.2.2.2.1 hc2) rfl rfl rfl ⟨Nat.le_of_ble_eq_true rfl, Nat.le_of_ble_eq_true rfl⟩ (Nat.le_of_ble_eq_true rfl) dX9_isDigit_10 ?_
  refine i_istore_n hC dX9_isDigit_13 (by decide) ?_
  refine i_aload_n hC dX9_isDigit_14 rfl ?_
  refine i_getR hC fl_X9_32 (pln rfl) (lay_p218) rfl dX9_isDigit_15 ?_
  refine i_iload_n hC dX9_isDigit_18 rfl ?_
  refine i_iload_n hC dX9_isDigit_19 rfl ?_
  refine i_bipush hC dX9_isDigit_20 lb_48 ?_
  refine i_isub hC dX9_isDigit_22 ?_
  obtain ⟨k3, hf⟩ := ck_of hf
  refine i_iast hC (j0 := ((x1).toNatClampNeg)) (pln rfl) (lay_p225) (bk_l ⟨rfl, rfl, rfl, rfl⟩) (inb_in k3) (Nat.zero_add _) dX9_isDigit_23 ?_
  refine i_aload_n hC dX9_isDigit_24 rfl ?_
  refine i_dup hC dX9_isDigit_25 rfl ?_
  refine i_getI hC fl_X9_185 (pln rfl) (lay_p218) rfl dX9_isDigit_26 ?_
  refine i_iload_n hC dX9_isDigit_29 rfl ?_
  refine i_if_eq hC (tgt := 37) dX9_isDigit_30 (by decide) (fun c4 => ?_) (fun c4 => ?_)
  · replace hf := (if_pos c4).symm.trans hf
    refine i_iconst hC dX9_isDigit_37 li_0 ?_
    exact Mj.to (b_X9_isDigit_38 hC  hf) ⟨rfl, trivial⟩
  · replace hf := (if_neg c4).symm.trans hf
    refine i_iconst hC dX9_isDigit_33 li_1 ?_
    refine i_goto hC (tgt := 38) dX9_isDigit_34 (by decide) ?_
    exact Mj.to (b_X9_isDigit_38 hC  hf) ⟨rfl, trivial⟩
theorem c_X9_isDigit {v : EV} {l : Launch} (hst : Stb v) {S : Mem} {x1 : Int32}  {r : Int32 × Mem} (hf : g_X9_isDigit S x1 = some r) : Con v l yX9_isDigit cX9_isDigit 4 (some .boolean) 2 34 [.ref (eA v (218)), .int x1] S (some (.int r.1)) r.2 := con_of (by decide) hst (Nat.le_of_ble_eq_true rfl) (fun p e s m args below meth c hC => b_X9_isDigit_0 hC  hf)
def f_X9_lineOf_24 (S : Mem) (x2 : Int32) (xt0 : Int32) (xt1 : Int32) : Option (Int32) := bd1 (g_X9_of S xt1 ((xt0 + x2) - (1 : Int32))) (fun r4 => some r4)
def f_X9_lineOf_0 (S : Mem) (x1 : Int32) (x2 : Int32) (x3 : Int32) : Option (Int32) := bd1 (g_X9_isLine S x1 x2) (fun r1 => (if r1 = 0 then some (-1 : Int32) else (if x3 = 0 then f_X9_lineOf_24 S x2 (10 : Int32) x1 else f_X9_lineOf_24 S x2 (22 : Int32) x1)))
def g_X9_lineOf (S : Mem) (x1 : Int32) (x2 : Int32) (x3 : Int32) : Option (Int32) := f_X9_lineOf_0 S x1 x2 x3
set_option maxHeartbeats 4000000 in
set_option maxRecDepth 100000 in
theorem b_X9_lineOf_24 {v : EV} {p : Program} {l : Launch} {e : Env} {s : State} {m : MethodId} {args : Array Value} {below : List Frame} {meth : Method} {c : Code} (hC : Cx v p l e s m args meth c RX9 cX9_lineOf 4 (some .int)) {S : Mem} {x2 : Int32} {xt0 : Int32} {xt1 : Int32}  {r : Int32} (hf : f_X9_lineOf_24 S x2 xt0 xt1 = some r) : Mj v p l e (rmF 4 77) s m args below meth c 4 (MQ below (Qc v (some (.int r)) S) args s 0 0 (eG v)) 0 S 24 [(2, .int x2)] [.int xt0, .int xt1, .ref (eA v (218))] := by
  refine i_iload_n hC dX9_lineOf_24 rfl ?_
  refine i_iadd hC dX9_lineOf_25 ?_
  refine i_iconst hC dX9_lineOf_26 li_1 ?_
  refine i_isub hC dX9_lineOf_27 ?_
  obtain ⟨r4, hc4, hf⟩ := bd1_of hf
  refine i_callVi hC mv_X9_69 (c_X9_of hC.2.2.2.2.2.2.2.1 hc4) (pln rfl) (lay_p218) rfl rfl rfl rfl ⟨Nat.le_of_ble_eq_true rfl, Nat.le_of_ble_eq_true rfl⟩ (Nat.le_of_ble_eq_true rfl) dX9_lineOf_28 ?_
  obtain rfl := Option.some.inj hf
  exact i_iret hC dX9_lineOf_31
set_option maxHeartbeats 4000000 in
set_option maxRecDepth 100000 in
theorem b_X9_lineOf_0 {v : EV} {p : Program} {l : Launch} {e : Env} {s : State} {m : MethodId} {args : Array Value} {below : List Frame} {meth : Method} {c : Code} (hC : Cx v p l e s m args meth c RX9 cX9_lineOf 4 (some .int)) {S : Mem} {x1 : Int32} {x2 : Int32} {x3 : Int32}  {r : Int32} (hf : f_X9_lineOf_0 S x1 x2 x3 = some r) : Mj v p l e (rmF 4 77) s m args below meth c 4 (MQ below (Qc v (some (.int r)) S) args s 0 0 (eG v)) 0 S 0 [(0, .ref (eA v (218))), (1, .int x1), (2, .int x2), (3, .int x3)] [] := by
  refine i_aload_n hC dX9_lineOf_0 rfl ?_
  refine i_iload_n hC dX9_lineOf_1 rfl ?_
  refine i_iload_n hC dX9_lineOf_2 rfl ?_
  obtain ⟨r1, hc1, hf⟩ := bd1_of hf
  refine i_callVi hC mv_X9_264 (c_X9_isLine hC.2.2.2.2.2.2.2.1 hc1) (pln rfl) (lay_p218) rfl rfl rfl rfl ⟨Nat.le_of_ble_eq_true rfl, Nat.le_of_ble_eq_true rfl⟩ (Nat.le_of_ble_eq_true rfl) dX9_lineOf_3 ?_
  refine i_if_ne hC (tgt := 11) dX9_lineOf_6 (by decide) (fun c2 => ?_) (fun c2 => ?_)
  · replace hf := (if_neg c2).symm.trans hf
    refine i_aload_n hC dX9_lineOf_11 rfl ?_
    refine i_iload_n hC dX9_lineOf_12 rfl ?_
    refine i_iload_n hC dX9_lineOf_13 rfl ?_
    refine i_if_eq hC (tgt := 22) dX9_lineOf_14 (by decide) (fun c3 => ?_) (fun c3 => ?_)
    · replace hf := (if_pos c3).symm.trans hf
      refine i_bipush hC dX9_lineOf_22 lb_10 ?_
      exact Mj.to (b_X9_lineOf_24 hC  hf) ⟨rfl, trivial⟩
    · replace hf := (if_neg c3).symm.trans hf
      refine i_bipush hC dX9_lineOf_17 lb_22 ?_
      refine i_goto hC (tgt := 24) dX9_lineOf_19 (by decide) ?_
      exact Mj.to (b_X9_lineOf_24 hC  hf) ⟨rfl, trivial⟩
  · replace hf := (if_pos c2).symm.trans hf
    refine i_iconst hC dX9_lineOf_9 li_m1 ?_
    obtain rfl := Option.some.inj hf
    exact i_iret hC dX9_lineOf_10
theorem c_X9_lineOf {v : EV} {l : Launch} (hst : Stb v) {S : Mem} {x1 x2 x3 : Int32}  {r : Int32} (hf : g_X9_lineOf S x1 x2 x3 = some r) : Con v l yX9_lineOf cX9_lineOf 4 (some .int) 4 77 [.ref (eA v (218)), .int x1, .int x2, .int x3] S (some (.int r)) S := con_of (by decide) hst (Nat.le_of_ble_eq_true rfl) (fun p e s m args below meth c hC => b_X9_lineOf_0 hC  hf)
def f_X9_leader_69 (ih5 : (Int32 × Int32) → Option (Int32)) (S : Mem) (x2 : Int32) (xt0 : Int32) : Option (Int32) := ih5 (xt0, (x2 + (1 : Int32)))
def f_X9_leader_68 (ih5 : (Int32 × Int32) → Option (Int32)) (S : Mem) (x1 : Int32) (x2 : Int32) : Option (Int32) := f_X9_leader_69 ih5 S x2 x1
def f_X9_leader_64 (ih5 : (Int32 × Int32) → Option (Int32)) (S : Mem) (x2 : Int32) : Option (Int32) := f_X9_leader_69 ih5 S x2 x2
def f_X9_leader_38 (ih5 : (Int32 × Int32) → Option (Int32)) (S : Mem) (x1 : Int32) (x2 : Int32) (xt0 : Int32) : Option (Int32) := (if xt0 = 0 then f_X9_leader_68 ih5 S x1 x2 else (if x1 = (-4 : Int32) then f_X9_leader_64 ih5 S x2 else bd1 (g_X9_of S x2 (1 : Int32)) (fun r6 => bd1 (g_X9_of S x1 (1 : Int32)) (fun r7 => (if r6 ≤ r7 then f_X9_leader_68 ih5 S x1 x2 else f_X9_leader_64 ih5 S x2)))))
def f_X9_leader_37 (ih5 : (Int32 × Int32) → Option (Int32)) (S : Mem) (x1 : Int32) (x2 : Int32) : Option (Int32) := f_X9_leader_38 ih5 S x1 x2 (0 : Int32)
def f_X9_leader_5_b (ih5 : (Int32 × Int32) → Option (Int32)) (S : Mem) (x1 : Int32) (x2 : Int32) : Option (Int32) := (if (S 20 1) ≤ x2 then some x1 else bd1 (g_X9_of S x2 (0 : Int32)) (fun r2 => (if r2 = (2 : Int32) then bd1 (g_X9_isAboard S x2) (fun r9 => (if r9 = 0 then f_X9_leader_37 ih5 S x1 x2 else f_X9_leader_38 ih5 S x1 x2 (1 : Int32))) else f_X9_leader_37 ih5 S x1 x2)))
def f_X9_leader_5 (S : Mem) (x1 : Int32) (x2 : Int32) : Option (Int32) := lp (fun ih5 s9 => f_X9_leader_5_b ih5 S s9.1 s9.2) 2000 (x1, x2)
def f_X9_leader_0 (S : Mem)  : Option (Int32) := f_X9_leader_5 S (-4 : Int32) (0 : Int32)
def g_X9_leader (S : Mem)  : Option (Int32) := f_X9_leader_0 S
set_option maxHeartbeats 4000000 in
set_option maxRecDepth 100000 in
theorem b_X9_leader_69 {v : EV} {p : Program} {l : Launch} {e : Env} {s : State} {m : MethodId} {args : Array Value} {below : List Frame} {meth : Method} {c : Code} (hC : Cx v p l e s m args meth c RX9 cX9_leader 4 (some .int)) {S : Mem} {x2 : Int32} {xt0 : Int32}  {r : Int32} {ih5 : (Int32 × Int32) → Option (Int32)} (hih5 : ∀ s9 : (Int32 × Int32), ih5 s9 = some r → Mj v p l e (rmF 4 76) s m args below meth c 4 (MQ below (Qc v (some (.int r)) S) args s 0 0 (eG v)) 0 S 5 [(0, .ref (eA v (218))), (1, .int (s9.1)), (2, .int (s9.2))] []) (hf : f_X9_leader_69 ih5 S x2 xt0 = some r) : Mj v p l e (rmF 4 76) s m args below meth c 4 (MQ below (Qc v (some (.int r)) S) args s 0 0 (eG v)) 0 S 69 [(0, .ref (eA v (218))), (2, .int x2)] [.int xt0] := by
  refine i_istore_n hC dX9_leader_69 (by decide) ?_
  refine i_iinc hC dX9_leader_70 rfl li_1 (by decide) ?_
  refine i_goto hC (tgt := 5) dX9_leader_73 (by decide) ?_
  exact Mj.to (hih5 _ hf) ⟨rfl, rfl, rfl, trivial⟩
set_option maxHeartbeats 4000000 in
set_option maxRecDepth 100000 in
theorem b_X9_leader_68 {v : EV} {p : Program} {l : Launch} {e : Env} {s : State} {m : MethodId} {args : Array Value} {below : List Frame} {meth : Method} {c : Code} (hC : Cx v p l e s m args meth c RX9 cX9_leader 4 (some .int)) {S : Mem} {x1 : Int32} {x2 : Int32}  {r : Int32} {ih5 : (Int32 × Int32) → Option (Int32)} (hih5 : ∀ s9 : (Int32 × Int32), ih5 s9 = some r → Mj v p l e (rmF 4 76) s m args below meth c 4 (MQ below (Qc v (some (.int r)) S) args s 0 0 (eG v)) 0 S 5 [(0, .ref (eA v (218))), (1, .int (s9.1)), (2, .int (s9.2))] []) (hf : f_X9_leader_68 ih5 S x1 x2 = some r) : Mj v p l e (rmF 4 76) s m args below meth c 4 (MQ below (Qc v (some (.int r)) S) args s 0 0 (eG v)) 0 S 68 [(0, .ref (eA v (218))), (1, .int x1), (2, .int x2)] [] := by
  refine i_iload_n hC dX9_leader_68 rfl ?_
  exact Mj.to (b_X9_leader_69 hC hih5 hf) ⟨rfl, rfl, trivial⟩
set_option maxHeartbeats 4000000 in
set_option maxRecDepth 100000 in
theorem b_X9_leader_64 {v : EV} {p : Program} {l : Launch} {e : Env} {s : State} {m : MethodId} {args : Array Value} {below : List Frame} {meth : Method} {c : Code} (hC : Cx v p l e s m args meth c RX9 cX9_leader 4 (some .int)) {S : Mem} {x2 : Int32}  {r : Int32} {ih5 : (Int32 × Int32) → Option (Int32)} (hih5 : ∀ s9 : (Int32 × Int32), ih5 s9 = some r → Mj v p l e (rmF 4 76) s m args below meth c 4 (MQ below (Qc v (some (.int r)) S) args s 0 0 (eG v)) 0 S 5 [(0, .ref (eA v (218))), (1, .int (s9.1)), (2, .int (s9.2))] []) (hf : f_X9_leader_64 ih5 S x2 = some r) : Mj v p l e (rmF 4 76) s m args below meth c 4 (MQ below (Qc v (some (.int r)) S) args s 0 0 (eG v)) 0 S 64 [(0, .ref (eA v (218))), (2, .int x2)] [] := by
  refine i_iload_n hC dX9_leader_64 rfl ?_
  refine i_goto hC (tgt := 69) dX9_leader_65 (by decide) ?_
  exact Mj.to (b_X9_leader_69 hC hih5 hf) ⟨rfl, rfl, trivial⟩
set_option maxHeartbeats 4000000 in
set_option maxRecDepth 100000 in
theorem b_X9_leader_38 {v : EV} {p : Program} {l : Launch} {e : Env} {s : State} {m : MethodId} {args : Array Value} {below : List Frame} {meth : Method} {c : Code} (hC : Cx v p l e s m args meth c RX9 cX9_leader 4 (some .int)) {S : Mem} {x1 : Int32} {x2 : Int32} {xt0 : Int32}  {r : Int32} {ih5 : (Int32 × Int32) → Option (Int32)} (hih5 : ∀ s9 : (Int32 × Int32), ih5 s9 = some r → Mj v p l e (rmF 4 76) s m args below meth c 4 (MQ below (Qc v (some (.int r)) S) args s 0 0 (eG v)) 0 S 5 [(0, .ref (eA v (218))), (1, .int (s9.1)), (2, .int (s9.2))] []) (hf : f_X9_leader_38 ih5 S x1 x2 xt0 = some r) : Mj v p l e (rmF 4 76) s m args below meth c 4 (MQ below (Qc v (some (.int r)) S) args s 0 0 (eG v)) 0 S 38 [(0, .ref (eA v (218))), (1, .int x1), (2, .int x2)] [.int xt0] := by
  refine i_istore_n hC dX9_leader_38 (by decide) ?_
  refine i_iload_n hC dX9_leader_39 rfl ?_
  refine i_if_eq hC (tgt := 68) dX9_leader_40 (by decide) (fun c4 => ?_) (fun c4 => ?_)
  · replace hf := (if_pos c4).symm.trans hf
    exact Mj.to (b_X9_leader_68 hC hih5 hf) ⟨rfl, rfl, rfl, trivial⟩
  · replace hf := (if_neg c4).symm.trans hf
    refine i_iload_n hC dX9_leader_43 rfl ?_
    refine i_bipush hC dX9_leader_44 lb_m4 ?_
    refine i_icmp_eq hC (tgt := 64) dX9_leader_46 (by decide) (fun c5 => ?_) (fun c5 => ?_)
    · replace hf := (if_pos c5).symm.trans hf
      exact Mj.to (b_X9_leader_64 hC hih5 hf) ⟨rfl, rfl, trivial⟩
    · replace hf := (if_neg c5).symm.trans hf
      refine i_aload_n hC dX9_leader_49 rfl ?_
      refine i_iload_n hC dX9_leader_50 rfl ?_
      refine i_iconst hC dX9_leader_51 li_1 ?_
      obtain ⟨r6, hc6, hf⟩ := bd1_of hf
      refine i_callVi hC mv_X9_69 (c_X9_of hC.2.2.2.2.2.2.2.1 hc6) (pln rfl) (lay_p218) rfl rfl rfl rfl ⟨Nat.le_of_ble_eq_true rfl, Nat.le_of_ble_eq_true rfl⟩ (Nat.le_of_ble_eq_true rfl) dX9_leader_52 ?_
      refine i_aload_n hC dX9_leader_55 rfl ?_
      refine i_iload_n hC dX9_leader_56 rfl ?_
      refine i_iconst hC dX9_leader_57 li_1 ?_
      obtain ⟨r7, hc7, hf⟩ := bd1_of hf
      refine i_callVi hC mv_X9_69 (c_X9_of hC.2.2.2.2.2.2.2.1 hc7) (pln rfl) (lay_p218) rfl rfl rfl rfl ⟨Nat.le_of_ble_eq_true rfl, Nat.le_of_ble_eq_true rfl⟩ (Nat.le_of_ble_eq_true rfl) dX9_leader_58 ?_
      refine i_icmp_le hC (tgt := 68) dX9_leader_61 (by decide) (fun c8 => ?_) (fun c8 => ?_)
      · replace hf := (if_pos c8).symm.trans hf
        exact Mj.to (b_X9_leader_68 hC hih5 hf) ⟨rfl, rfl, rfl, trivial⟩
      · replace hf := (if_neg c8).symm.trans hf
        exact Mj.to (b_X9_leader_64 hC hih5 hf) ⟨rfl, rfl, trivial⟩
set_option maxHeartbeats 4000000 in
set_option maxRecDepth 100000 in
theorem b_X9_leader_37 {v : EV} {p : Program} {l : Launch} {e : Env} {s : State} {m : MethodId} {args : Array Value} {below : List Frame} {meth : Method} {c : Code} (hC : Cx v p l e s m args meth c RX9 cX9_leader 4 (some .int)) {S : Mem} {x1 : Int32} {x2 : Int32}  {r : Int32} {ih5 : (Int32 × Int32) → Option (Int32)} (hih5 : ∀ s9 : (Int32 × Int32), ih5 s9 = some r → Mj v p l e (rmF 4 76) s m args below meth c 4 (MQ below (Qc v (some (.int r)) S) args s 0 0 (eG v)) 0 S 5 [(0, .ref (eA v (218))), (1, .int (s9.1)), (2, .int (s9.2))] []) (hf : f_X9_leader_37 ih5 S x1 x2 = some r) : Mj v p l e (rmF 4 76) s m args below meth c 4 (MQ below (Qc v (some (.int r)) S) args s 0 0 (eG v)) 0 S 37 [(0, .ref (eA v (218))), (1, .int x1), (2, .int x2)] [] := by
  refine i_iconst hC dX9_leader_37 li_0 ?_
  exact Mj.to (b_X9_leader_38 hC hih5 hf) ⟨rfl, rfl, rfl, trivial⟩
set_option maxHeartbeats 4000000 in
set_option maxRecDepth 100000 in
theorem b_X9_leader_5_b {v : EV} {p : Program} {l : Launch} {e : Env} {s : State} {m : MethodId} {args : Array Value} {below : List Frame} {meth : Method} {c : Code} (hC : Cx v p l e s m args meth c RX9 cX9_leader 4 (some .int)) {S : Mem} {x1 : Int32} {x2 : Int32}  {r : Int32} {ih5 : (Int32 × Int32) → Option (Int32)} (hih5 : ∀ s9 : (Int32 × Int32), ih5 s9 = some r → Mj v p l e (rmF 4 76) s m args below meth c 4 (MQ below (Qc v (some (.int r)) S) args s 0 0 (eG v)) 0 S 5 [(0, .ref (eA v (218))), (1, .int (s9.1)), (2, .int (s9.2))] []) (hf : f_X9_leader_5_b ih5 S x1 x2 = some r) : Mj v p l e (rmF 4 76) s m args below meth c 4 (MQ below (Qc v (some (.int r)) S) args s 0 0 (eG v)) 0 S 5 [(0, .ref (eA v (218))), (1, .int x1), (2, .int x2)] [] := by
  refine i_iload_n hC dX9_leader_5 rfl ?_
  refine i_aload_n hC dX9_leader_6 rfl ?_
  refine i_getR hC fl_X9_9 (pln rfl) (lay_p218) rfl dX9_leader_7 ?_
  refine i_iconst hC dX9_leader_10 li_1 ?_
  refine i_iald hC (j0 := 1) (pln rfl) (lay_p219) (inb_in (by decide)) (by decide) dX9_leader_11 ?_
  refine i_icmp_ge hC (tgt := 76) dX9_leader_12 (by decide) (fun c1 => ?_) (fun c1 => ?_)
  · replace hf := (if_pos c1).symm.trans hf
    refine i_iload_n hC dX9_leader_76 rfl ?_
    obtain rfl := Option.some.inj hf
    exact i_iret hC dX9_leader_77
  · replace hf := (if_neg c1).symm.trans hf
    refine i_aload_n hC dX9_leader_15 rfl ?_
    refine i_iload_n hC dX9_leader_16 rfl ?_
    refine i_iconst hC dX9_leader_17 li_0 ?_
    obtain ⟨r2, hc2, hf⟩ := bd1_of hf
    refine i_callVi hC mv_X9_69 (c_X9_of hC.2.2.2.2.2.2.2.1 hc2) (pln rfl) (lay_p218) rfl rfl rfl rfl ⟨Nat.le_of_ble_eq_true rfl, Nat.le_of_ble_eq_true rfl⟩ (Nat.le_of_ble_eq_true rfl) dX9_leader_18 ?_
    refine i_iconst hC dX9_leader_21 li_2 ?_
    refine i_icmp_ne hC (tgt := 37) dX9_leader_22 (by decide) (fun c3 => ?_) (fun c3 => ?_)
    · replace hf := (if_neg c3).symm.trans hf
      exact Mj.to (b_X9_leader_37 hC hih5 hf) ⟨rfl, rfl, rfl, trivial⟩
    · replace hf := (if_pos c3).symm.trans hf
      refine i_aload_n hC dX9_leader_25 rfl ?_
      refine i_iload_n hC dX9_leader_26 rfl ?_
      obtain ⟨r9, hc9, hf⟩ := bd1_of hf
      refine i_callVi hC mv_X9_78 (c_X9_isAboard hC.2.2.2.2.2.2.2.1 hc9) (pln rfl) (lay_p218) rfl rfl rfl rfl ⟨Nat.le_of_ble_eq_true rfl, Nat.le_of_ble_eq_true rfl⟩ (Nat.le_of_ble_eq_true rfl) dX9_leader_27 ?_
      refine i_if_eq hC (tgt := 37) dX9_leader_30 (by decide) (fun c10 => ?_) (fun c10 => ?_)
      · replace hf := (if_pos c10).symm.trans hf
        exact Mj.to (b_X9_leader_37 hC hih5 hf) ⟨rfl, rfl, rfl, trivial⟩
      · replace hf := (if_neg c10).symm.trans hf
        refine i_iconst hC dX9_leader_33 li_1 ?_
        refine i_goto hC (tgt := 38) dX9_leader_34 (by decide) ?_
        exact Mj.to (b_X9_leader_38 hC hih5 hf) ⟨rfl, rfl, rfl, trivial⟩
theorem b_X9_leader_5 {v : EV} {p : Program} {l : Launch} {e : Env} {s : State} {m : MethodId} {args : Array Value} {below : List Frame} {meth : Method} {c : Code} (hC : Cx v p l e s m args meth c RX9 cX9_leader 4 (some .int)) {S : Mem} {x1 : Int32} {x2 : Int32}  {r : Int32} (hf : f_X9_leader_5 S x1 x2 = some r) : Mj v p l e (rmF 4 76) s m args below meth c 4 (MQ below (Qc v (some (.int r)) S) args s 0 0 (eG v)) 0 S 5 [(0, .ref (eA v (218))), (1, .int x1), (2, .int x2)] [] :=
  lp_ind (P := fun s9 : (Int32 × Int32) => Mj v p l e (rmF 4 76) s m args below meth c 4 (MQ below (Qc v (some (.int r)) S) args s 0 0 (eG v)) 0 S 5 [(0, .ref (eA v (218))), (1, .int (s9.1)), (2, .int (s9.2))] []) (fun ih s9 hih hf => b_X9_leader_5_b hC   hih hf) _ _ hf
set_option maxHeartbeats 4000000 in
set_option maxRecDepth 100000 in
theorem b_X9_leader_0 {v : EV} {p : Program} {l : Launch} {e : Env} {s : State} {m : MethodId} {args : Array Value} {below : List Frame} {meth : Method} {c : Code} (hC : Cx v p l e s m args meth c RX9 cX9_leader 4 (some .int)) {S : Mem}  {r : Int32} (hf : f_X9_leader_0 S = some r) : Mj v p l e (rmF 4 76) s m args below meth c 4 (MQ below (Qc v (some (.int r)) S) args s 0 0 (eG v)) 0 S 0 [(0, .ref (eA v (218)))] [] := by
  refine i_bipush hC dX9_leader_0 lb_m4 ?_
  refine i_istore_n hC dX9_leader_2 (by decide) ?_
  refine i_iconst hC dX9_leader_3 li_0 ?_
  refine i_istore_n hC dX9_leader_4 (by decide) ?_
  exact Mj.to (b_X9_leader_5 hC  hf) ⟨rfl, rfl, rfl, trivial⟩
theorem c_X9_leader {v : EV} {l : Launch} (hst : Stb v) {S : Mem}  {r : Int32} (hf : g_X9_leader S = some r) : Con v l yX9_leader cX9_leader 4 (some .int) 4 76 [.ref (eA v (218))] S (some (.int r)) S := con_of (by decide) hst (Nat.le_of_ble_eq_true rfl) (fun p e s m args below meth c hC => b_X9_leader_0 hC  hf)
def f_X9_longer_20 (S : Mem) (xt0 : Int32) : Option (Int32) := some xt0
def f_X9_longer_0 (S : Mem) (x1 : Int32) (x2 : Int32) : Option (Int32) := bd1 (g_X9_areDrivers S x1 x2) (fun r1 => (if r1 = 0 then f_X9_longer_20 S (-4 : Int32) else bd1 (g_X9_longerOf S x1 x2) (fun r3 => f_X9_longer_20 S r3)))
def g_X9_longer (S : Mem) (x1 : Int32) (x2 : Int32) : Option (Int32) := f_X9_longer_0 S x1 x2
set_option maxHeartbeats 4000000 in
set_option maxRecDepth 100000 in
theorem b_X9_longer_20 {v : EV} {p : Program} {l : Launch} {e : Env} {s : State} {m : MethodId} {args : Array Value} {below : List Frame} {meth : Method} {c : Code} (hC : Cx v p l e s m args meth c RX9 cX9_longer 3 (some .int)) {S : Mem} {xt0 : Int32}  {r : Int32} (hf : f_X9_longer_20 S xt0 = some r) : Mj v p l e (rmF 5 100) s m args below meth c 3 (MQ below (Qc v (some (.int r)) S) args s 0 0 (eG v)) 0 S 20 [] [.int xt0] := by
  obtain rfl := Option.some.inj hf
  exact i_iret hC dX9_longer_20
set_option maxHeartbeats 4000000 in
set_option maxRecDepth 100000 in
theorem b_X9_longer_0 {v : EV} {p : Program} {l : Launch} {e : Env} {s : State} {m : MethodId} {args : Array Value} {below : List Frame} {meth : Method} {c : Code} (hC : Cx v p l e s m args meth c RX9 cX9_longer 3 (some .int)) {S : Mem} {x1 : Int32} {x2 : Int32}  {r : Int32} (hf : f_X9_longer_0 S x1 x2 = some r) : Mj v p l e (rmF 5 100) s m args below meth c 3 (MQ below (Qc v (some (.int r)) S) args s 0 0 (eG v)) 0 S 0 [(0, .ref (eA v (218))), (1, .int x1), (2, .int x2)] [] := by
  refine i_aload_n hC dX9_longer_0 rfl ?_
  refine i_iload_n hC dX9_longer_1 rfl ?_
  refine i_iload_n hC dX9_longer_2 rfl ?_
  obtain ⟨r1, hc1, hf⟩ := bd1_of hf
  refine i_callVi hC mv_X9_162 (c_X9_areDrivers hC.2.2.2.2.2.2.2.1 hc1) (pln rfl) (lay_p218) rfl rfl rfl rfl ⟨Nat.le_of_ble_eq_true rfl, Nat.le_of_ble_eq_true rfl⟩ (Nat.le_of_ble_eq_true rfl) dX9_longer_3 ?_
  refine i_if_eq hC (tgt := 18) dX9_longer_6 (by decide) (fun c2 => ?_) (fun c2 => ?_)
  · replace hf := (if_pos c2).symm.trans hf
    refine i_bipush hC dX9_longer_18 lb_m4 ?_
    exact Mj.to (b_X9_longer_20 hC  hf) trivial
  · replace hf := (if_neg c2).symm.trans hf
    refine i_aload_n hC dX9_longer_9 rfl ?_
    refine i_iload_n hC dX9_longer_10 rfl ?_
    refine i_iload_n hC dX9_longer_11 rfl ?_
    obtain ⟨r3, hc3, hf⟩ := bd1_of hf
    refine i_callVi hC mv_X9_105 (c_X9_longerOf hC.2.2.2.2.2.2.2.1 hc3) (pln rfl) (lay_p218) rfl rfl rfl rfl ⟨Nat.le_of_ble_eq_true rfl, Nat.le_of_ble_eq_true rfl⟩ (Nat.le_of_ble_eq_true rfl) dX9_longer_12 ?_
    refine i_goto hC (tgt := 20) dX9_longer_15 (by decide) ?_
    exact Mj.to (b_X9_longer_20 hC  hf) trivial
theorem c_X9_longer {v : EV} {l : Launch} (hst : Stb v) {S : Mem} {x1 x2 : Int32}  {r : Int32} (hf : g_X9_longer S x1 x2 = some r) : Con v l yX9_longer cX9_longer 3 (some .int) 5 100 [.ref (eA v (218)), .int x1, .int x2] S (some (.int r)) S := con_of (by decide) hst (Nat.le_of_ble_eq_true rfl) (fun p e s m args below meth c hC => b_X9_longer_0 hC  hf)
def f_X9_wouldGive_72 (S : Mem) (xt0 : Int32) : Option (Int32) := ck (isb xt0) (some xt0)
def f_X9_wouldGive_71 (S : Mem)  : Option (Int32) := f_X9_wouldGive_72 S (0 : Int32)
def f_X9_wouldGive_51 (S : Mem) (x1 : Int32) (x2 : Int32) (xt0 : Int32) : Option (Int32) := (if xt0 = 0 then f_X9_wouldGive_71 S else bd1 (g_X9_longerOf S x1 x2) (fun r7 => (if 0 < r7 then f_X9_wouldGive_71 S else f_X9_wouldGive_72 S (1 : Int32))))
def f_X9_wouldGive_46 (S : Mem) (x1 : Int32) (x2 : Int32) : Option (Int32) := f_X9_wouldGive_51 S x1 x2 (1 : Int32)
def f_X9_wouldGive_50 (S : Mem) (x1 : Int32) (x2 : Int32) : Option (Int32) := f_X9_wouldGive_51 S x1 x2 (0 : Int32)
def f_X9_wouldGive_0 (S : Mem) (x1 : Int32) (x2 : Int32) : Option (Int32) := (if x1 = x2 then some (1 : Int32) else bd1 (g_X9_of S x2 (1 : Int32)) (fun r2 => bd1 (g_X9_of S x1 (1 : Int32)) (fun r3 => (if r3 < (r2 + (1 : Int32)) then f_X9_wouldGive_46 S x1 x2 else bd1 (g_X9_of S x1 (1 : Int32)) (fun r9 => (if r9 = (r2 + (1 : Int32)) then bd1 (g_X9_of S x1 (4 : Int32)) (fun r11 => (if r11 = (-1 : Int32) then f_X9_wouldGive_46 S x1 x2 else f_X9_wouldGive_50 S x1 x2)) else f_X9_wouldGive_50 S x1 x2))))))
def g_X9_wouldGive (S : Mem) (x1 : Int32) (x2 : Int32) : Option (Int32) := f_X9_wouldGive_0 S x1 x2
set_option maxHeartbeats 4000000 in
set_option maxRecDepth 100000 in
theorem b_X9_wouldGive_72 {v : EV} {p : Program} {l : Launch} {e : Env} {s : State} {m : MethodId} {args : Array Value} {below : List Frame} {meth : Method} {c : Code} (hC : Cx v p l e s m args meth c RX9 cX9_wouldGive 5 (some .boolean)) {S : Mem} {xt0 : Int32}  {r : Int32} (hf : f_X9_wouldGive_72 S xt0 = some r) : Mj v p l e (rmF 5 100) s m args below meth c 5 (MQ below (Qc v (some (.int r)) S) args s 0 0 (eG v)) 0 S 72 [] [.int xt0] := by
  obtain ⟨k6, hf⟩ := ck_of hf
  obtain rfl := Option.some.inj hf
  exact i_zret hC dX9_wouldGive_72 (isb_z k6).1
set_option maxHeartbeats 4000000 in
set_option maxRecDepth 100000 in
theorem b_X9_wouldGive_71 {v : EV} {p : Program} {l : Launch} {e : Env} {s : State} {m : MethodId} {args : Array Value} {below : List Frame} {meth : Method} {c : Code} (hC : Cx v p l e s m args meth c RX9 cX9_wouldGive 5 (some .boolean)) {S : Mem}  {r : Int32} (hf : f_X9_wouldGive_71 S = some r) : Mj v p l e (rmF 5 100) s m args below meth c 5 (MQ below (Qc v (some (.int r)) S) args s 0 0 (eG v)) 0 S 71 [] [] := by
  refine i_iconst hC dX9_wouldGive_71 li_0 ?_
  exact Mj.to (b_X9_wouldGive_72 hC  hf) trivial
set_option maxHeartbeats 4000000 in
set_option maxRecDepth 100000 in
theorem b_X9_wouldGive_51 {v : EV} {p : Program} {l : Launch} {e : Env} {s : State} {m : MethodId} {args : Array Value} {below : List Frame} {meth : Method} {c : Code} (hC : Cx v p l e s m args meth c RX9 cX9_wouldGive 5 (some .boolean)) {S : Mem} {x1 : Int32} {x2 : Int32} {xt0 : Int32}  {r : Int32} (hf : f_X9_wouldGive_51 S x1 x2 xt0 = some r) : Mj v p l e (rmF 5 100) s m args below meth c 5 (MQ below (Qc v (some (.int r)) S) args s 0 0 (eG v)) 0 S 51 [(0, .ref (eA v (218))), (1, .int x1), (2, .int x2)] [.int xt0] := by
  refine i_istore hC dX9_wouldGive_51 (by decide) ?_
  refine i_iload hC dX9_wouldGive_53 rfl ?_
  refine i_if_eq hC (tgt := 71) dX9_wouldGive_55 (by decide) (fun c5 => ?_) (fun c5 => ?_)
  · replace hf := (if_pos c5).symm.trans hf
    exact Mj.to (b_X9_wouldGive_71 hC  hf) trivial
  · replace hf := (if_neg c5).symm.trans hf
    refine i_aload_n hC dX9_wouldGive_58 rfl ?_
    refine i_iload_n hC dX9_wouldGive_59 rfl ?_
    refine i_iload_n hC dX9_wouldGive_60 rfl ?_
    obtain ⟨r7, hc7, hf⟩ := bd1_of hf
    refine i_callVi hC mv_X9_105 (c_X9_longerOf hC.2.2.2.2.2.2.2.1 hc7) (pln rfl) (lay_p218) rfl rfl rfl rfl ⟨Nat.le_of_ble_eq_true rfl, Nat.le_of_ble_eq_true rfl⟩ (Nat.le_of_ble_eq_true rfl) dX9_wouldGive_61 ?_
    refine i_if_gt hC (tgt := 71) dX9_wouldGive_64 (by decide) (fun c8 => ?_) (fun c8 => ?_)
    · replace hf := (if_pos c8).symm.trans hf
      exact Mj.to (b_X9_wouldGive_71 hC  hf) trivial
    · replace hf := (if_neg c8).symm.trans hf
      refine i_iconst hC dX9_wouldGive_67 li_1 ?_
      refine i_goto hC (tgt := 72) dX9_wouldGive_68 (by decide) ?_
      exact Mj.to (b_X9_wouldGive_72 hC  hf) trivial
set_option maxHeartbeats 4000000 in
set_option maxRecDepth 100000 in
theorem b_X9_wouldGive_46 {v : EV} {p : Program} {l : Launch} {e : Env} {s : State} {m : MethodId} {args : Array Value} {below : List Frame} {meth : Method} {c : Code} (hC : Cx v p l e s m args meth c RX9 cX9_wouldGive 5 (some .boolean)) {S : Mem} {x1 : Int32} {x2 : Int32}  {r : Int32} (hf : f_X9_wouldGive_46 S x1 x2 = some r) : Mj v p l e (rmF 5 100) s m args below meth c 5 (MQ below (Qc v (some (.int r)) S) args s 0 0 (eG v)) 0 S 46 [(0, .ref (eA v (218))), (1, .int x1), (2, .int x2)] [] := by
  refine i_iconst hC dX9_wouldGive_46 li_1 ?_
  refine i_goto hC (tgt := 51) dX9_wouldGive_47 (by decide) ?_
  exact Mj.to (b_X9_wouldGive_51 hC  hf) ⟨rfl, rfl, rfl, trivial⟩
set_option maxHeartbeats 4000000 in
set_option maxRecDepth 100000 in
theorem b_X9_wouldGive_50 {v : EV} {p : Program} {l : Launch} {e : Env} {s : State} {m : MethodId} {args : Array Value} {below : List Frame} {meth : Method} {c : Code} (hC : Cx v p l e s m args meth c RX9 cX9_wouldGive 5 (some .boolean)) {S : Mem} {x1 : Int32} {x2 : Int32}  {r : Int32} (hf : f_X9_wouldGive_50 S x1 x2 = some r) : Mj v p l e (rmF 5 100) s m args below meth c 5 (MQ below (Qc v (some (.int r)) S) args s 0 0 (eG v)) 0 S 50 [(0, .ref (eA v (218))), (1, .int x1), (2, .int x2)] [] := by
  refine i_iconst hC dX9_wouldGive_50 li_0 ?_
  exact Mj.to (b_X9_wouldGive_51 hC  hf) ⟨rfl, rfl, rfl, trivial⟩
set_option maxHeartbeats 4000000 in
set_option maxRecDepth 100000 in
theorem b_X9_wouldGive_0 {v : EV} {p : Program} {l : Launch} {e : Env} {s : State} {m : MethodId} {args : Array Value} {below : List Frame} {meth : Method} {c : Code} (hC : Cx v p l e s m args meth c RX9 cX9_wouldGive 5 (some .boolean)) {S : Mem} {x1 : Int32} {x2 : Int32}  {r : Int32} (hf : f_X9_wouldGive_0 S x1 x2 = some r) : Mj v p l e (rmF 5 100) s m args below meth c 5 (MQ below (Qc v (some (.int r)) S) args s 0 0 (eG v)) 0 S 0 [(0, .ref (eA v (218))), (1, .int x1), (2, .int x2)] [] := by
  refine i_iload_n hC dX9_wouldGive_0 rfl ?_
  refine i_iload_n hC dX9_wouldGive_1 rfl ?_
  refine i_icmp_ne hC (tgt := 7) dX9_wouldGive_2 (by decide) (fun c1 => ?_) (fun c1 => ?_)
  · replace hf := (if_neg c1).symm.trans hf
    refine i_aload_n hC dX9_wouldGive_7 rfl ?_
    refine i_iload_n hC dX9_wouldGive_8 rfl ?_
    refine i_iconst hC dX9_wouldGive_9 li_1 ?_
    obtain ⟨r2, hc2, hf⟩ := bd1_of hf
    refine i_callVi hC mv_X9_69 (c_X9_of hC.2.2.2.2.2.2.2.1 hc2) (pln rfl) (lay_p218) rfl rfl rfl rfl ⟨Nat.le_of_ble_eq_true rfl, Nat.le_of_ble_eq_true rfl⟩ (Nat.le_of_ble_eq_true rfl) dX9_wouldGive_10 ?_
    refine i_iconst hC dX9_wouldGive_13 li_1 ?_
    refine i_iadd hC dX9_wouldGive_14 ?_
    refine i_istore_n hC dX9_wouldGive_15 (by decide) ?_
    refine i_aload_n hC dX9_wouldGive_16 rfl ?_
    refine i_iload_n hC dX9_wouldGive_17 rfl ?_
    refine i_iconst hC dX9_wouldGive_18 li_1 ?_
    obtain ⟨r3, hc3, hf⟩ := bd1_of hf
    refine i_callVi hC mv_X9_69 (c_X9_of hC.2.2.2.2.2.2.2.1 hc3) (pln rfl) (lay_p218) rfl rfl rfl rfl ⟨Nat.le_of_ble_eq_true rfl, Nat.le_of_ble_eq_true rfl⟩ (Nat.le_of_ble_eq_true rfl) dX9_wouldGive_19 ?_
    refine i_iload_n hC dX9_wouldGive_22 rfl ?_
    refine i_icmp_lt hC (tgt := 46) dX9_wouldGive_23 (by decide) (fun c4 => ?_) (fun c4 => ?_)
    · replace hf := (if_pos c4).symm.trans hf
      exact Mj.to (b_X9_wouldGive_46 hC  hf) ⟨rfl, rfl, rfl, trivial⟩
    · replace hf := (if_neg c4).symm.trans hf
      refine i_aload_n hC dX9_wouldGive_26 rfl ?_
      refine i_iload_n hC dX9_wouldGive_27 rfl ?_
      refine i_iconst hC dX9_wouldGive_28 li_1 ?_
      obtain ⟨r9, hc9, hf⟩ := bd1_of hf
      refine i_callVi hC mv_X9_69 (c_X9_of hC.2.2.2.2.2.2.2.1 hc9) (pln rfl) (lay_p218) rfl rfl rfl rfl ⟨Nat.le_of_ble_eq_true rfl, Nat.le_of_ble_eq_true rfl⟩ (Nat.le_of_ble_eq_true rfl) dX9_wouldGive_29 ?_
      refine i_iload_n hC dX9_wouldGive_32 rfl ?_
      refine i_icmp_ne hC (tgt := 50) dX9_wouldGive_33 (by decide) (fun c10 => ?_) (fun c10 => ?_)
      · replace hf := (if_neg c10).symm.trans hf
        exact Mj.to (b_X9_wouldGive_50 hC  hf) ⟨rfl, rfl, rfl, trivial⟩
      · replace hf := (if_pos c10).symm.trans hf
        refine i_aload_n hC dX9_wouldGive_36 rfl ?_
        refine i_iload_n hC dX9_wouldGive_37 rfl ?_
        refine i_iconst hC dX9_wouldGive_38 li_4 ?_
        obtain ⟨r11, hc11, hf⟩ := bd1_of hf
        refine i_callVi hC mv_X9_69 (c_X9_of hC.2.2.2.2.2.2.2.1 hc11) (pln rfl) (lay_p218) rfl rfl rfl rfl ⟨Nat.le_of_ble_eq_true rfl, Nat.le_of_ble_eq_true rfl⟩ (Nat.le_of_ble_eq_true rfl) dX9_wouldGive_39 ?_
        refine i_iconst hC dX9_wouldGive_42 li_m1 ?_
        refine i_icmp_ne hC (tgt := 50) dX9_wouldGive_43 (by decide) (fun c12 => ?_) (fun c12 => ?_)
        · replace hf := (if_neg c12).symm.trans hf
          exact Mj.to (b_X9_wouldGive_50 hC  hf) ⟨rfl, rfl, rfl, trivial⟩
        · replace hf := (if_pos c12).symm.trans hf
          exact Mj.to (b_X9_wouldGive_46 hC  hf) ⟨rfl, rfl, rfl, trivial⟩
  · replace hf := (if_pos c1).symm.trans hf
    refine i_iconst hC dX9_wouldGive_5 li_1 ?_
    obtain rfl := Option.some.inj hf
    exact i_zret hC dX9_wouldGive_6 (isb_z (x := (1 : Int32)) (by decide)).1
theorem c_X9_wouldGive {v : EV} {l : Launch} (hst : Stb v) {S : Mem} {x1 x2 : Int32}  {r : Int32} (hf : g_X9_wouldGive S x1 x2 = some r) : Con v l yX9_wouldGive cX9_wouldGive 5 (some .boolean) 5 100 [.ref (eA v (218)), .int x1, .int x2] S (some (.int r)) S := con_of (by decide) hst (Nat.le_of_ble_eq_true rfl) (fun p e s m args below meth c hC => b_X9_wouldGive_0 hC  hf)
def f_X9_codeOfAsking_36 (S : Mem) (xt0 : Int32) : Option (Int32) := some xt0
def f_X9_codeOfAsking_30 (S : Mem)  : Option (Int32) := f_X9_codeOfAsking_36 S (-4 : Int32)
def f_X9_codeOfAsking_0 (S : Mem) (x1 : Int32) : Option (Int32) := bd1 (g_X9_isDriver S x1) (fun r1 => (if r1 = 0 then f_X9_codeOfAsking_36 S (-1 : Int32) else bd1 (g_X9_isAboard S x1) (fun r3 => (if r3 = 0 then f_X9_codeOfAsking_30 S else bd1 (g_X9_of S x1 (0 : Int32)) (fun r5 => (if r5 = (2 : Int32) then f_X9_codeOfAsking_30 S else f_X9_codeOfAsking_36 S (0 : Int32)))))))
def g_X9_codeOfAsking (S : Mem) (x1 : Int32) : Option (Int32) := f_X9_codeOfAsking_0 S x1
set_option maxHeartbeats 4000000 in
set_option maxRecDepth 100000 in
theorem b_X9_codeOfAsking_36 {v : EV} {p : Program} {l : Launch} {e : Env} {s : State} {m : MethodId} {args : Array Value} {below : List Frame} {meth : Method} {c : Code} (hC : Cx v p l e s m args meth c RX9 cX9_codeOfAsking 2 (some .int)) {S : Mem} {xt0 : Int32}  {r : Int32} (hf : f_X9_codeOfAsking_36 S xt0 = some r) : Mj v p l e (rmF 4 76) s m args below meth c 2 (MQ below (Qc v (some (.int r)) S) args s 0 0 (eG v)) 0 S 36 [] [.int xt0] := by
  obtain rfl := Option.some.inj hf
  exact i_iret hC dX9_codeOfAsking_36
set_option maxHeartbeats 4000000 in
set_option maxRecDepth 100000 in
theorem b_X9_codeOfAsking_30 {v : EV} {p : Program} {l : Launch} {e : Env} {s : State} {m : MethodId} {args : Array Value} {below : List Frame} {meth : Method} {c : Code} (hC : Cx v p l e s m args meth c RX9 cX9_codeOfAsking 2 (some .int)) {S : Mem}  {r : Int32} (hf : f_X9_codeOfAsking_30 S = some r) : Mj v p l e (rmF 4 76) s m args below meth c 2 (MQ below (Qc v (some (.int r)) S) args s 0 0 (eG v)) 0 S 30 [] [] := by
  refine i_bipush hC dX9_codeOfAsking_30 lb_m4 ?_
  refine i_goto hC (tgt := 36) dX9_codeOfAsking_32 (by decide) ?_
  exact Mj.to (b_X9_codeOfAsking_36 hC  hf) trivial
set_option maxHeartbeats 4000000 in
set_option maxRecDepth 100000 in
theorem b_X9_codeOfAsking_0 {v : EV} {p : Program} {l : Launch} {e : Env} {s : State} {m : MethodId} {args : Array Value} {below : List Frame} {meth : Method} {c : Code} (hC : Cx v p l e s m args meth c RX9 cX9_codeOfAsking 2 (some .int)) {S : Mem} {x1 : Int32}  {r : Int32} (hf : f_X9_codeOfAsking_0 S x1 = some r) : Mj v p l e (rmF 4 76) s m args below meth c 2 (MQ below (Qc v (some (.int r)) S) args s 0 0 (eG v)) 0 S 0 [(0, .ref (eA v (218))), (1, .int x1)] [] := by
  refine i_aload_n hC dX9_codeOfAsking_0 rfl ?_
  refine i_iload_n hC dX9_codeOfAsking_1 rfl ?_
  obtain ⟨r1, hc1, hf⟩ := bd1_of hf
  refine i_callVi hC mv_X9_65 (c_X9_isDriver hC.2.2.2.2.2.2.2.1 hc1) (pln rfl) (lay_p218) rfl rfl rfl rfl ⟨Nat.le_of_ble_eq_true rfl, Nat.le_of_ble_eq_true rfl⟩ (Nat.le_of_ble_eq_true rfl) dX9_codeOfAsking_2 ?_
  refine i_if_ne hC (tgt := 12) dX9_codeOfAsking_5 (by decide) (fun c2 => ?_) (fun c2 => ?_)
  · replace hf := (if_neg c2).symm.trans hf
    refine i_aload_n hC dX9_codeOfAsking_12 rfl ?_
    refine i_iload_n hC dX9_codeOfAsking_13 rfl ?_
    obtain ⟨r3, hc3, hf⟩ := bd1_of hf
    refine i_callVi hC mv_X9_78 (c_X9_isAboard hC.2.2.2.2.2.2.2.1 hc3) (pln rfl) (lay_p218) rfl rfl rfl rfl ⟨Nat.le_of_ble_eq_true rfl, Nat.le_of_ble_eq_true rfl⟩ (Nat.le_of_ble_eq_true rfl) dX9_codeOfAsking_14 ?_
    refine i_if_eq hC (tgt := 30) dX9_codeOfAsking_17 (by decide) (fun c4 => ?_) (fun c4 => ?_)
    · replace hf := (if_pos c4).symm.trans hf
      exact Mj.to (b_X9_codeOfAsking_30 hC  hf) trivial
    · replace hf := (if_neg c4).symm.trans hf
      refine i_aload_n hC dX9_codeOfAsking_20 rfl ?_
      refine i_iload_n hC dX9_codeOfAsking_21 rfl ?_
      refine i_iconst hC dX9_codeOfAsking_22 li_0 ?_
      obtain ⟨r5, hc5, hf⟩ := bd1_of hf
      refine i_callVi hC mv_X9_69 (c_X9_of hC.2.2.2.2.2.2.2.1 hc5) (pln rfl) (lay_p218) rfl rfl rfl rfl ⟨Nat.le_of_ble_eq_true rfl, Nat.le_of_ble_eq_true rfl⟩ (Nat.le_of_ble_eq_true rfl) dX9_codeOfAsking_23 ?_
      refine i_iconst hC dX9_codeOfAsking_26 li_2 ?_
      refine i_icmp_ne hC (tgt := 35) dX9_codeOfAsking_27 (by decide) (fun c6 => ?_) (fun c6 => ?_)
      · replace hf := (if_neg c6).symm.trans hf
        refine i_iconst hC dX9_codeOfAsking_35 li_0 ?_
        exact Mj.to (b_X9_codeOfAsking_36 hC  hf) trivial
      · replace hf := (if_pos c6).symm.trans hf
        exact Mj.to (b_X9_codeOfAsking_30 hC  hf) trivial
  · replace hf := (if_pos c2).symm.trans hf
    refine i_iconst hC dX9_codeOfAsking_8 li_m1 ?_
    refine i_goto hC (tgt := 36) dX9_codeOfAsking_9 (by decide) ?_
    exact Mj.to (b_X9_codeOfAsking_36 hC  hf) trivial
theorem c_X9_codeOfAsking {v : EV} {l : Launch} (hst : Stb v) {S : Mem} {x1 : Int32}  {r : Int32} (hf : g_X9_codeOfAsking S x1 = some r) : Con v l yX9_codeOfAsking cX9_codeOfAsking 2 (some .int) 4 76 [.ref (eA v (218)), .int x1] S (some (.int r)) S := con_of (by decide) hst (Nat.le_of_ble_eq_true rfl) (fun p e s m args below meth c hC => b_X9_codeOfAsking_0 hC  hf)
def f_X9_isAhead_64 (S : Mem) (xt0 : Int32) : Option (Int32) := ck (isb xt0) (some xt0)
def f_X9_isAhead_20 (S : Mem) (xt0 : Int32) : Option (Int32) := ck (isb xt0) (some xt0)
def f_X9_isAhead_0 (S : Mem) (x1 : Int32) (x2 : Int32) : Option (Int32) := bd1 (g_X9_longerOf S x1 x2) (fun r1 => (if r1 = 0 then bd1 (g_X9_of S x1 (1 : Int32)) (fun r3 => bd1 (g_X9_of S x2 (1 : Int32)) (fun r4 => (if (r3 - r4) = 0 then (if x2 ≤ x1 then f_X9_isAhead_64 S (0 : Int32) else f_X9_isAhead_64 S (1 : Int32)) else (if (r3 - r4) ≤ 0 then f_X9_isAhead_64 S (0 : Int32) else f_X9_isAhead_64 S (1 : Int32))))) else (if r1 ≤ 0 then f_X9_isAhead_20 S (0 : Int32) else f_X9_isAhead_20 S (1 : Int32))))
def g_X9_isAhead (S : Mem) (x1 : Int32) (x2 : Int32) : Option (Int32) := f_X9_isAhead_0 S x1 x2
set_option maxHeartbeats 4000000 in
set_option maxRecDepth 100000 in
theorem b_X9_isAhead_64 {v : EV} {p : Program} {l : Launch} {e : Env} {s : State} {m : MethodId} {args : Array Value} {below : List Frame} {meth : Method} {c : Code} (hC : Cx v p l e s m args meth c RX9 cX9_isAhead 5 (some .boolean)) {S : Mem} {xt0 : Int32}  {r : Int32} (hf : f_X9_isAhead_64 S xt0 = some r) : Mj v p l e (rmF 5 100) s m args below meth c 5 (MQ below (Qc v (some (.int r)) S) args s 0 0 (eG v)) 0 S 64 [] [.int xt0] := by
  obtain ⟨k7, hf⟩ := ck_of hf
  obtain rfl := Option.some.inj hf
  exact i_zret hC dX9_isAhead_64 (isb_z k7).1
set_option maxHeartbeats 4000000 in
set_option maxRecDepth 100000 in
theorem b_X9_isAhead_20 {v : EV} {p : Program} {l : Launch} {e : Env} {s : State} {m : MethodId} {args : Array Value} {below : List Frame} {meth : Method} {c : Code} (hC : Cx v p l e s m args meth c RX9 cX9_isAhead 5 (some .boolean)) {S : Mem} {xt0 : Int32}  {r : Int32} (hf : f_X9_isAhead_20 S xt0 = some r) : Mj v p l e (rmF 5 100) s m args below meth c 5 (MQ below (Qc v (some (.int r)) S) args s 0 0 (eG v)) 0 S 20 [] [.int xt0] := by
  obtain ⟨k10, hf⟩ := ck_of hf
  obtain rfl := Option.some.inj hf
  exact i_zret hC dX9_isAhead_20 (isb_z k10).1
set_option maxHeartbeats 4000000 in
set_option maxRecDepth 100000 in
theorem b_X9_isAhead_0 {v : EV} {p : Program} {l : Launch} {e : Env} {s : State} {m : MethodId} {args : Array Value} {below : List Frame} {meth : Method} {c : Code} (hC : Cx v p l e s m args meth c RX9 cX9_isAhead 5 (some .boolean)) {S : Mem} {x1 : Int32} {x2 : Int32}  {r : Int32} (hf : f_X9_isAhead_0 S x1 x2 = some r) : Mj v p l e (rmF 5 100) s m args below meth c 5 (MQ below (Qc v (some (.int r)) S) args s 0 0 (eG v)) 0 S 0 [(0, .ref (eA v (218))), (1, .int x1), (2, .int x2)] [] := by
  refine i_aload_n hC dX9_isAhead_0 rfl ?_
  refine i_iload_n hC dX9_isAhead_1 rfl ?_
  refine i_iload_n hC dX9_isAhead_2 rfl ?_
  obtain ⟨r1, hc1, hf⟩ := bd1_of hf
  refine i_callVi hC mv_X9_105 (c_X9_longerOf hC.2.2.2.2.2.2.2.1 hc1) (pln rfl) (lay_p218) rfl rfl rfl rfl ⟨Nat.le_of_ble_eq_true rfl, Nat.le_of_ble_eq_true rfl⟩ (Nat.le_of_ble_eq_true rfl) dX9_isAhead_3 ?_
  refine i_istore_n hC dX9_isAhead_6 (by decide) ?_
  refine i_iload_n hC dX9_isAhead_7 rfl ?_
  refine i_if_eq hC (tgt := 21) dX9_isAhead_8 (by decide) (fun c2 => ?_) (fun c2 => ?_)
  · replace hf := (if_pos c2).symm.trans hf
    refine i_aload_n hC dX9_isAhead_21 rfl ?_
    refine i_iload_n hC dX9_isAhead_22 rfl ?_
    refine i_iconst hC dX9_isAhead_23 li_1 ?_
    obtain ⟨r3, hc3, hf⟩ := bd1_of hf
    refine i_callVi hC mv_X9_69 (c_X9_of hC.2.2.2.2.2.2.2.1 hc3) (pln rfl) (lay_p218) rfl rfl rfl rfl ⟨Nat.le_of_ble_eq_true rfl, Nat.le_of_ble_eq_true rfl⟩ (Nat.le_of_ble_eq_true rfl) dX9_isAhead_24 ?_
    refine i_aload_n hC dX9_isAhead_27 rfl ?_
    refine i_iload_n hC dX9_isAhead_28 rfl ?_
    refine i_iconst hC dX9_isAhead_29 li_1 ?_
    obtain ⟨r4, hc4, hf⟩ := bd1_of hf
    refine i_callVi hC mv_X9_69 (c_X9_of hC.2.2.2.2.2.2.2.1 hc4) (pln rfl) (lay_p218) rfl rfl rfl rfl ⟨Nat.le_of_ble_eq_true rfl, Nat.le_of_ble_eq_true rfl⟩ (Nat.le_of_ble_eq_true rfl) dX9_isAhead_30 ?_
    refine i_isub hC dX9_isAhead_33 ?_
    refine i_istore hC dX9_isAhead_34 (by decide) ?_
    refine i_iload hC dX9_isAhead_36 rfl ?_
    refine i_if_eq hC (tgt := 54) dX9_isAhead_38 (by decide) (fun c5 => ?_) (fun c5 => ?_)
    · replace hf := (if_pos c5).symm.trans hf
      refine i_iload_n hC dX9_isAhead_54 rfl ?_
      refine i_iload_n hC dX9_isAhead_55 rfl ?_
      refine i_icmp_ge hC (tgt := 63) dX9_isAhead_56 (by decide) (fun c6 => ?_) (fun c6 => ?_)
      · replace hf := (if_pos c6).symm.trans hf
        refine i_iconst hC dX9_isAhead_63 li_0 ?_
        exact Mj.to (b_X9_isAhead_64 hC  hf) trivial
      · replace hf := (if_neg c6).symm.trans hf
        refine i_iconst hC dX9_isAhead_59 li_1 ?_
        refine i_goto hC (tgt := 64) dX9_isAhead_60 (by decide) ?_
        exact Mj.to (b_X9_isAhead_64 hC  hf) trivial
    · replace hf := (if_neg c5).symm.trans hf
      refine i_iload hC dX9_isAhead_41 rfl ?_
      refine i_if_le hC (tgt := 50) dX9_isAhead_43 (by decide) (fun c8 => ?_) (fun c8 => ?_)
      · replace hf := (if_pos c8).symm.trans hf
        refine i_iconst hC dX9_isAhead_50 li_0 ?_
        refine i_goto hC (tgt := 64) dX9_isAhead_51 (by decide) ?_
        exact Mj.to (b_X9_isAhead_64 hC  hf) trivial
      · replace hf := (if_neg c8).symm.trans hf
        refine i_iconst hC dX9_isAhead_46 li_1 ?_
        refine i_goto hC (tgt := 64) dX9_isAhead_47 (by decide) ?_
        exact Mj.to (b_X9_isAhead_64 hC  hf) trivial
  · replace hf := (if_neg c2).symm.trans hf
    refine i_iload_n hC dX9_isAhead_11 rfl ?_
    refine i_if_le hC (tgt := 19) dX9_isAhead_12 (by decide) (fun c9 => ?_) (fun c9 => ?_)
    · replace hf := (if_pos c9).symm.trans hf
      refine i_iconst hC dX9_isAhead_19 li_0 ?_
      exact Mj.to (b_X9_isAhead_20 hC  hf) trivial
    · replace hf := (if_neg c9).symm.trans hf
      refine i_iconst hC dX9_isAhead_15 li_1 ?_
      refine i_goto hC (tgt := 20) dX9_isAhead_16 (by decide) ?_
      exact Mj.to (b_X9_isAhead_20 hC  hf) trivial
theorem c_X9_isAhead {v : EV} {l : Launch} (hst : Stb v) {S : Mem} {x1 x2 : Int32}  {r : Int32} (hf : g_X9_isAhead S x1 x2 = some r) : Con v l yX9_isAhead cX9_isAhead 5 (some .boolean) 5 100 [.ref (eA v (218)), .int x1, .int x2] S (some (.int r)) S := con_of (by decide) hst (Nat.le_of_ble_eq_true rfl) (fun p e s m args below meth c hC => b_X9_isAhead_0 hC  hf)
def f_X9_doesWait_23 (S : Mem) (xt0 : Int32) : Option (Int32) := ck (isb xt0) (some xt0)
def f_X9_doesWait_22 (S : Mem)  : Option (Int32) := f_X9_doesWait_23 S (0 : Int32)
def f_X9_doesWait_0 (S : Mem) (x1 : Int32) : Option (Int32) := bd1 (g_X9_isAboard S x1) (fun r1 => (if r1 = 0 then f_X9_doesWait_22 S else bd1 (g_X9_of S x1 (0 : Int32)) (fun r4 => (if r4 = (2 : Int32) then f_X9_doesWait_22 S else f_X9_doesWait_23 S (1 : Int32)))))
def g_X9_doesWait (S : Mem) (x1 : Int32) : Option (Int32) := f_X9_doesWait_0 S x1
set_option maxHeartbeats 4000000 in
set_option maxRecDepth 100000 in
theorem b_X9_doesWait_23 {v : EV} {p : Program} {l : Launch} {e : Env} {s : State} {m : MethodId} {args : Array Value} {below : List Frame} {meth : Method} {c : Code} (hC : Cx v p l e s m args meth c RX9 cX9_doesWait 2 (some .boolean)) {S : Mem} {xt0 : Int32}  {r : Int32} (hf : f_X9_doesWait_23 S xt0 = some r) : Mj v p l e (rmF 4 76) s m args below meth c 2 (MQ below (Qc v (some (.int r)) S) args s 0 0 (eG v)) 0 S 23 [] [.int xt0] := by
  obtain ⟨k3, hf⟩ := ck_of hf
  obtain rfl := Option.some.inj hf
  exact i_zret hC dX9_doesWait_23 (isb_z k3).1
set_option maxHeartbeats 4000000 in
set_option maxRecDepth 100000 in
theorem b_X9_doesWait_22 {v : EV} {p : Program} {l : Launch} {e : Env} {s : State} {m : MethodId} {args : Array Value} {below : List Frame} {meth : Method} {c : Code} (hC : Cx v p l e s m args meth c RX9 cX9_doesWait 2 (some .boolean)) {S : Mem}  {r : Int32} (hf : f_X9_doesWait_22 S = some r) : Mj v p l e (rmF 4 76) s m args below meth c 2 (MQ below (Qc v (some (.int r)) S) args s 0 0 (eG v)) 0 S 22 [] [] := by
  refine i_iconst hC dX9_doesWait_22 li_0 ?_
  exact Mj.to (b_X9_doesWait_23 hC  hf) trivial
set_option maxHeartbeats 4000000 in
set_option maxRecDepth 100000 in
theorem b_X9_doesWait_0 {v : EV} {p : Program} {l : Launch} {e : Env} {s : State} {m : MethodId} {args : Array Value} {below : List Frame} {meth : Method} {c : Code} (hC : Cx v p l e s m args meth c RX9 cX9_doesWait 2 (some .boolean)) {S : Mem} {x1 : Int32}  {r : Int32} (hf : f_X9_doesWait_0 S x1 = some r) : Mj v p l e (rmF 4 76) s m args below meth c 2 (MQ below (Qc v (some (.int r)) S) args s 0 0 (eG v)) 0 S 0 [(0, .ref (eA v (218))), (1, .int x1)] [] := by
  refine i_aload_n hC dX9_doesWait_0 rfl ?_
  refine i_iload_n hC dX9_doesWait_1 rfl ?_
  obtain ⟨r1, hc1, hf⟩ := bd1_of hf
  refine i_callVi hC mv_X9_78 (c_X9_isAboard hC.2.2.2.2.2.2.2.1 hc1) (pln rfl) (lay_p218) rfl rfl rfl rfl ⟨Nat.le_of_ble_eq_true rfl, Nat.le_of_ble_eq_true rfl⟩ (Nat.le_of_ble_eq_true rfl) dX9_doesWait_2 ?_
  refine i_if_eq hC (tgt := 22) dX9_doesWait_5 (by decide) (fun c2 => ?_) (fun c2 => ?_)
  · replace hf := (if_pos c2).symm.trans hf
    exact Mj.to (b_X9_doesWait_22 hC  hf) trivial
  · replace hf := (if_neg c2).symm.trans hf
    refine i_aload_n hC dX9_doesWait_8 rfl ?_
    refine i_iload_n hC dX9_doesWait_9 rfl ?_
    refine i_iconst hC dX9_doesWait_10 li_0 ?_
    obtain ⟨r4, hc4, hf⟩ := bd1_of hf
    refine i_callVi hC mv_X9_69 (c_X9_of hC.2.2.2.2.2.2.2.1 hc4) (pln rfl) (lay_p218) rfl rfl rfl rfl ⟨Nat.le_of_ble_eq_true rfl, Nat.le_of_ble_eq_true rfl⟩ (Nat.le_of_ble_eq_true rfl) dX9_doesWait_11 ?_
    refine i_iconst hC dX9_doesWait_14 li_2 ?_
    refine i_icmp_eq hC (tgt := 22) dX9_doesWait_15 (by decide) (fun c5 => ?_) (fun c5 => ?_)
    · replace hf := (if_pos c5).symm.trans hf
      exact Mj.to (b_X9_doesWait_22 hC  hf) trivial
    · replace hf := (if_neg c5).symm.trans hf
      refine i_iconst hC dX9_doesWait_18 li_1 ?_
      refine i_goto hC (tgt := 23) dX9_doesWait_19 (by decide) ?_
      exact Mj.to (b_X9_doesWait_23 hC  hf) trivial
theorem c_X9_doesWait {v : EV} {l : Launch} (hst : Stb v) {S : Mem} {x1 : Int32}  {r : Int32} (hf : g_X9_doesWait S x1 = some r) : Con v l yX9_doesWait cX9_doesWait 2 (some .boolean) 4 76 [.ref (eA v (218)), .int x1] S (some (.int r)) S := con_of (by decide) hst (Nat.le_of_ble_eq_true rfl) (fun p e s m args below meth c hC => b_X9_doesWait_0 hC  hf)
def f_X9_account_0 (S : Mem) (x1 : Int32) : Option (Int32) := (if x1 = (0 : Int32) then ck (inb x1 203) (some (S 20 ((x1).toNatClampNeg))) else if x1 = (1 : Int32) then ck (inb x1 203) (some (S 20 ((x1).toNatClampNeg))) else if x1 = (2 : Int32) then bd1 (g_X9_aboard S) (fun r5 => some r5) else if x1 = (3 : Int32) then bd1 (g_X9_ropesCut S) (fun r7 => some r7) else if x1 = (4 : Int32) then bd1 (g_X9_greatestTerm S) (fun r9 => some r9) else if x1 = (5 : Int32) then ck (inb ((x1 - (5 : Int32)) + (2 : Int32)) 203) (some (S 20 ((((x1 - (5 : Int32)) + (2 : Int32))).toNatClampNeg))) else if x1 = (6 : Int32) then ck (inb ((x1 - (5 : Int32)) + (2 : Int32)) 203) (some (S 20 ((((x1 - (5 : Int32)) + (2 : Int32))).toNatClampNeg))) else if x1 = (7 : Int32) then ck (inb ((x1 - (5 : Int32)) + (2 : Int32)) 203) (some (S 20 ((((x1 - (5 : Int32)) + (2 : Int32))).toNatClampNeg))) else if x1 = (8 : Int32) then ck (inb ((x1 - (5 : Int32)) + (2 : Int32)) 203) (some (S 20 ((((x1 - (5 : Int32)) + (2 : Int32))).toNatClampNeg))) else if x1 = (9 : Int32) then ck (inb ((x1 - (5 : Int32)) + (2 : Int32)) 203) (some (S 20 ((((x1 - (5 : Int32)) + (2 : Int32))).toNatClampNeg))) else if x1 = (10 : Int32) then ck (inb ((x1 - (5 : Int32)) + (2 : Int32)) 203) (some (S 20 ((((x1 - (5 : Int32)) + (2 : Int32))).toNatClampNeg))) else if x1 = (11 : Int32) then some (S 28 14) else if x1 = (12 : Int32) then some (S 28 5) else some (-2 : Int32))
def g_X9_account (S : Mem) (x1 : Int32) : Option (Int32) := f_X9_account_0 S x1
set_option maxHeartbeats 4000000 in
set_option maxRecDepth 100000 in
theorem b_X9_account_0 {v : EV} {p : Program} {l : Launch} {e : Env} {s : State} {m : MethodId} {args : Array Value} {below : List Frame} {meth : Method} {c : Code} (hC : Cx v p l e s m args meth c RX9 cX9_account 2 (some .int)) {S : Mem} {x1 : Int32}  {r : Int32} (hf : f_X9_account_0 S x1 = some r) : Mj v p l e (rmF 4 77) s m args below meth c 2 (MQ below (Qc v (some (.int r)) S) args s 0 0 (eG v)) 0 S 0 [(0, .ref (eA v (218))), (1, .int x1)] [] := by
  refine i_iload_n hC dX9_account_0 rfl ?_
  by_cases c2 : x1 = (0 : Int32)
  · replace hf := (if_pos c2).symm.trans hf
    refine i_tabIn hC (tgt := 68) dX9_account_1 c2 (show ((0 : Int32)).toInt = 0 by decide) (by decide) (by decide) rfl (by decide) ?_
    refine i_aload_n hC dX9_account_68 rfl ?_
    refine i_getR hC fl_X9_9 (pln rfl) (lay_p218) rfl dX9_account_69 ?_
    refine i_iload_n hC dX9_account_72 rfl ?_
    obtain ⟨k1, hf⟩ := ck_of hf
    refine i_iald hC (j0 := ((x1).toNatClampNeg)) (pln rfl) (lay_p219) (inb_in k1) (Nat.zero_add _) dX9_account_73 ?_
    obtain rfl := Option.some.inj hf
    exact i_iret hC dX9_account_74
  replace hf := (if_neg c2).symm.trans hf
  by_cases c4 : x1 = (1 : Int32)
  · replace hf := (if_pos c4).symm.trans hf
    refine i_tabIn hC (tgt := 68) dX9_account_1 c4 (show ((1 : Int32)).toInt = 1 by decide) (by decide) (by decide) rfl (by decide) ?_
    refine i_aload_n hC dX9_account_68 rfl ?_
    refine i_getR hC fl_X9_9 (pln rfl) (lay_p218) rfl dX9_account_69 ?_
    refine i_iload_n hC dX9_account_72 rfl ?_
    obtain ⟨k3, hf⟩ := ck_of hf
    refine i_iald hC (j0 := ((x1).toNatClampNeg)) (pln rfl) (lay_p219) (inb_in k3) (Nat.zero_add _) dX9_account_73 ?_
    obtain rfl := Option.some.inj hf
    exact i_iret hC dX9_account_74
  replace hf := (if_neg c4).symm.trans hf
  by_cases c6 : x1 = (2 : Int32)
  · replace hf := (if_pos c6).symm.trans hf
    refine i_tabIn hC (tgt := 75) dX9_account_1 c6 (show ((2 : Int32)).toInt = 2 by decide) (by decide) (by decide) rfl (by decide) ?_
    refine i_aload_n hC dX9_account_75 rfl ?_
    obtain ⟨r5, hc5, hf⟩ := bd1_of hf
    refine i_callVi hC mv_X9_152 (c_X9_aboard hC.2.2.2.2.2.2.2.1 hc5) (pln rfl) (lay_p218) rfl rfl rfl rfl ⟨Nat.le_of_ble_eq_true rfl, Nat.le_of_ble_eq_true rfl⟩ (Nat.le_of_ble_eq_true rfl) dX9_account_76 ?_
    obtain rfl := Option.some.inj hf
    exact i_iret hC dX9_account_79
  replace hf := (if_neg c6).symm.trans hf
  by_cases c8 : x1 = (3 : Int32)
  · replace hf := (if_pos c8).symm.trans hf
    refine i_tabIn hC (tgt := 80) dX9_account_1 c8 (show ((3 : Int32)).toInt = 3 by decide) (by decide) (by decide) rfl (by decide) ?_
    refine i_aload_n hC dX9_account_80 rfl ?_
    obtain ⟨r7, hc7, hf⟩ := bd1_of hf
    refine i_callVi hC mv_X9_165 (c_X9_ropesCut hC.2.2.2.2.2.2.2.1 hc7) (pln rfl) (lay_p218) rfl rfl rfl rfl ⟨Nat.le_of_ble_eq_true rfl, Nat.le_of_ble_eq_true rfl⟩ (Nat.le_of_ble_eq_true rfl) dX9_account_81 ?_
    obtain rfl := Option.some.inj hf
    exact i_iret hC dX9_account_84
  replace hf := (if_neg c8).symm.trans hf
  by_cases c10 : x1 = (4 : Int32)
  · replace hf := (if_pos c10).symm.trans hf
    refine i_tabIn hC (tgt := 85) dX9_account_1 c10 (show ((4 : Int32)).toInt = 4 by decide) (by decide) (by decide) rfl (by decide) ?_
    refine i_aload_n hC dX9_account_85 rfl ?_
    obtain ⟨r9, hc9, hf⟩ := bd1_of hf
    refine i_callVi hC mv_X9_294 (c_X9_greatestTerm hC.2.2.2.2.2.2.2.1 hc9) (pln rfl) (lay_p218) rfl rfl rfl rfl ⟨Nat.le_of_ble_eq_true rfl, Nat.le_of_ble_eq_true rfl⟩ (Nat.le_of_ble_eq_true rfl) dX9_account_86 ?_
    obtain rfl := Option.some.inj hf
    exact i_iret hC dX9_account_89
  replace hf := (if_neg c10).symm.trans hf
  by_cases c12 : x1 = (5 : Int32)
  · replace hf := (if_pos c12).symm.trans hf
    refine i_tabIn hC (tgt := 90) dX9_account_1 c12 (show ((5 : Int32)).toInt = 5 by decide) (by decide) (by decide) rfl (by decide) ?_
    refine i_aload_n hC dX9_account_90 rfl ?_
    refine i_getR hC fl_X9_9 (pln rfl) (lay_p218) rfl dX9_account_91 ?_
    refine i_iload_n hC dX9_account_94 rfl ?_
    refine i_iconst hC dX9_account_95 li_5 ?_
    refine i_isub hC dX9_account_96 ?_
    refine i_iconst hC dX9_account_97 li_2 ?_
    refine i_iadd hC dX9_account_98 ?_
    obtain ⟨k11, hf⟩ := ck_of hf
    refine i_iald hC (j0 := ((((x1 - (5 : Int32)) + (2 : Int32))).toNatClampNeg)) (pln rfl) (lay_p219) (inb_in k11) (Nat.zero_add _) dX9_account_99 ?_
    obtain rfl := Option.some.inj hf
    exact i_iret hC dX9_account_100
  replace hf := (if_neg c12).symm.trans hf
  by_cases c14 : x1 = (6 : Int32)
  · replace hf := (if_pos c14).symm.trans hf
    refine i_tabIn hC (tgt := 90) dX9_account_1 c14 (show ((6 : Int32)).toInt = 6 by decide) (by decide) (by decide) rfl (by decide) ?_
    refine i_aload_n hC dX9_account_90 rfl ?_
    refine i_getR hC fl_X9_9 (pln rfl) (lay_p218) rfl dX9_account_91 ?_
    refine i_iload_n hC dX9_account_94 rfl ?_
    refine i_iconst hC dX9_account_95 li_5 ?_
    refine i_isub hC dX9_account_96 ?_
    refine i_iconst hC dX9_account_97 li_2 ?_
    refine i_iadd hC dX9_account_98 ?_
    obtain ⟨k13, hf⟩ := ck_of hf
    refine i_iald hC (j0 := ((((x1 - (5 : Int32)) + (2 : Int32))).toNatClampNeg)) (pln rfl) (lay_p219) (inb_in k13) (Nat.zero_add _) dX9_account_99 ?_
    obtain rfl := Option.some.inj hf
    exact i_iret hC dX9_account_100
  replace hf := (if_neg c14).symm.trans hf
  by_cases c16 : x1 = (7 : Int32)
  · replace hf := (if_pos c16).symm.trans hf
    refine i_tabIn hC (tgt := 90) dX9_account_1 c16 (show ((7 : Int32)).toInt = 7 by decide) (by decide) (by decide) rfl (by decide) ?_
    refine i_aload_n hC dX9_account_90 rfl ?_
    refine i_getR hC fl_X9_9 (pln rfl) (lay_p218) rfl dX9_account_91 ?_
    refine i_iload_n hC dX9_account_94 rfl ?_
    refine i_iconst hC dX9_account_95 li_5 ?_
    refine i_isub hC dX9_account_96 ?_
    refine i_iconst hC dX9_account_97 li_2 ?_
    refine i_iadd hC dX9_account_98 ?_
    obtain ⟨k15, hf⟩ := ck_of hf
    refine i_iald hC (j0 := ((((x1 - (5 : Int32)) + (2 : Int32))).toNatClampNeg)) (pln rfl) (lay_p219) (inb_in k15) (Nat.zero_add _) dX9_account_99 ?_
    obtain rfl := Option.some.inj hf
    exact i_iret hC dX9_account_100
  replace hf := (if_neg c16).symm.trans hf
  by_cases c18 : x1 = (8 : Int32)
  · replace hf := (if_pos c18).symm.trans hf
    refine i_tabIn hC (tgt := 90) dX9_account_1 c18 (show ((8 : Int32)).toInt = 8 by decide) (by decide) (by decide) rfl (by decide) ?_
    refine i_aload_n hC dX9_account_90 rfl ?_
    refine i_getR hC fl_X9_9 (pln rfl) (lay_p218) rfl dX9_account_91 ?_
    refine i_iload_n hC dX9_account_94 rfl ?_
    refine i_iconst hC dX9_account_95 li_5 ?_
    refine i_isub hC dX9_account_96 ?_
    refine i_iconst hC dX9_account_97 li_2 ?_
    refine i_iadd hC dX9_account_98 ?_
    obtain ⟨k17, hf⟩ := ck_of hf
    refine i_iald hC (j0 := ((((x1 - (5 : Int32)) + (2 : Int32))).toNatClampNeg)) (pln rfl) (lay_p219) (inb_in k17) (Nat.zero_add _) dX9_account_99 ?_
    obtain rfl := Option.some.inj hf
    exact i_iret hC dX9_account_100
  replace hf := (if_neg c18).symm.trans hf
  by_cases c20 : x1 = (9 : Int32)
  · replace hf := (if_pos c20).symm.trans hf
    refine i_tabIn hC (tgt := 90) dX9_account_1 c20 (show ((9 : Int32)).toInt = 9 by decide) (by decide) (by decide) rfl (by decide) ?_
    refine i_aload_n hC dX9_account_90 rfl ?_
    refine i_getR hC fl_X9_9 (pln rfl) (lay_p218) rfl dX9_account_91 ?_
    refine i_iload_n hC dX9_account_94 rfl ?_
    refine i_iconst hC dX9_account_95 li_5 ?_
    refine i_isub hC dX9_account_96 ?_
    refine i_iconst hC dX9_account_97 li_2 ?_
    refine i_iadd hC dX9_account_98 ?_
    obtain ⟨k19, hf⟩ := ck_of hf
    refine i_iald hC (j0 := ((((x1 - (5 : Int32)) + (2 : Int32))).toNatClampNeg)) (pln rfl) (lay_p219) (inb_in k19) (Nat.zero_add _) dX9_account_99 ?_
    obtain rfl := Option.some.inj hf
    exact i_iret hC dX9_account_100
  replace hf := (if_neg c20).symm.trans hf
  by_cases c22 : x1 = (10 : Int32)
  · replace hf := (if_pos c22).symm.trans hf
    refine i_tabIn hC (tgt := 90) dX9_account_1 c22 (show ((10 : Int32)).toInt = 10 by decide) (by decide) (by decide) rfl (by decide) ?_
    refine i_aload_n hC dX9_account_90 rfl ?_
    refine i_getR hC fl_X9_9 (pln rfl) (lay_p218) rfl dX9_account_91 ?_
    refine i_iload_n hC dX9_account_94 rfl ?_
    refine i_iconst hC dX9_account_95 li_5 ?_
    refine i_isub hC dX9_account_96 ?_
    refine i_iconst hC dX9_account_97 li_2 ?_
    refine i_iadd hC dX9_account_98 ?_
    obtain ⟨k21, hf⟩ := ck_of hf
    refine i_iald hC (j0 := ((((x1 - (5 : Int32)) + (2 : Int32))).toNatClampNeg)) (pln rfl) (lay_p219) (inb_in k21) (Nat.zero_add _) dX9_account_99 ?_
    obtain rfl := Option.some.inj hf
    exact i_iret hC dX9_account_100
  replace hf := (if_neg c22).symm.trans hf
  by_cases c23 : x1 = (11 : Int32)
  · replace hf := (if_pos c23).symm.trans hf
    refine i_tabIn hC (tgt := 101) dX9_account_1 c23 (show ((11 : Int32)).toInt = 11 by decide) (by decide) (by decide) rfl (by decide) ?_
    refine i_aload_n hC dX9_account_101 rfl ?_
    refine i_getI hC fl_X9_182 (pln rfl) (lay_p218) rfl dX9_account_102 ?_
    obtain rfl := Option.some.inj hf
    exact i_iret hC dX9_account_105
  replace hf := (if_neg c23).symm.trans hf
  by_cases c24 : x1 = (12 : Int32)
  · replace hf := (if_pos c24).symm.trans hf
    refine i_tabIn hC (tgt := 106) dX9_account_1 c24 (show ((12 : Int32)).toInt = 12 by decide) (by decide) (by decide) rfl (by decide) ?_
    refine i_aload_n hC dX9_account_106 rfl ?_
    refine i_getI hC fl_X9_42 (pln rfl) (lay_p218) rfl dX9_account_107 ?_
    obtain rfl := Option.some.inj hf
    exact i_iret hC dX9_account_110
  replace hf := (if_neg c24).symm.trans hf
  refine i_tabOut hC (x := x1) (tgt := 111) dX9_account_1 (by
      have z2 := lv_neT c2 (show ((0 : Int32)).toInt = 0 by decide)
      have z4 := lv_neT c4 (show ((1 : Int32)).toInt = 1 by decide)
      have z6 := lv_neT c6 (show ((2 : Int32)).toInt = 2 by decide)
      have z8 := lv_neT c8 (show ((3 : Int32)).toInt = 3 by decide)
      have z10 := lv_neT c10 (show ((4 : Int32)).toInt = 4 by decide)
      have z12 := lv_neT c12 (show ((5 : Int32)).toInt = 5 by decide)
      have z14 := lv_neT c14 (show ((6 : Int32)).toInt = 6 by decide)
      have z16 := lv_neT c16 (show ((7 : Int32)).toInt = 7 by decide)
      have z18 := lv_neT c18 (show ((8 : Int32)).toInt = 8 by decide)
      have z20 := lv_neT c20 (show ((9 : Int32)).toInt = 9 by decide)
      have z22 := lv_neT c22 (show ((10 : Int32)).toInt = 10 by decide)
      have z23 := lv_neT c23 (show ((11 : Int32)).toInt = 11 by decide)
      have z24 := lv_neT c24 (show ((12 : Int32)).toInt = 12 by decide)
      omega) (by decide) ?_
  refine i_bipush hC dX9_account_111 lb_m2 ?_
  obtain rfl := Option.some.inj hf
  exact i_iret hC dX9_account_113
theorem c_X9_account {v : EV} {l : Launch} (hst : Stb v) {S : Mem} {x1 : Int32}  {r : Int32} (hf : g_X9_account S x1 = some r) : Con v l yX9_account cX9_account 2 (some .int) 4 77 [.ref (eA v (218)), .int x1] S (some (.int r)) S := con_of (by decide) hst (Nat.le_of_ble_eq_true rfl) (fun p e s m args below meth c hC => b_X9_account_0 hC  hf)
