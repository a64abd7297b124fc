def f_X9_meanTale_27 (S : Mem) (xt0 : UInt32) : Option (UInt32) := some xt0
def f_X9_meanTale_0 (S : Mem)  : Option (UInt32) := (if (S 20 1) = 0 then f_X9_meanTale_27 S FP.fconst0 else bd1 (g_X9_allOf S (5 : Int32)) (fun r2 => ck (nn32 (FP.fdiv (FP.i2f r2) (FP.i2f (S 20 1)))) (f_X9_meanTale_27 S (FP.fdiv (FP.i2f r2) (FP.i2f (S 20 1))))))
def g_X9_meanTale (S : Mem)  : Option (UInt32) := f_X9_meanTale_0 S
set_option maxHeartbeats 4000000 in
set_option maxRecDepth 100000 in
theorem b_X9_meanTale_27 {v : EV} {p : Program} {l : Launch} {e : Env} {s : State} {m : MethodId} {args : Array Value} {below : List Frame} {meth : Method} {c : Code} (hC : Cx v p l e s m args meth c RX9 cX9_meanTale 1 (some .float)) {S : Mem} {xt0 : UInt32}  {r : UInt32} (hf : f_X9_meanTale_27 S xt0 = some r) : Mj v p l e (rmF 4 78) s m args below meth c 1 (MQ below (Qc v (some (.float r)) S) args s 0 0 (eG v)) 0 S 27 [] [.float xt0] := by
  obtain rfl := Option.some.inj hf
  exact i_fret hC dX9_meanTale_27
set_option maxHeartbeats 4000000 in
set_option maxRecDepth 100000 in
theorem b_X9_meanTale_0 {v : EV} {p : Program} {l : Launch} {e : Env} {s : State} {m : MethodId} {args : Array Value} {below : List Frame} {meth : Method} {c : Code} (hC : Cx v p l e s m args meth c RX9 cX9_meanTale 1 (some .float)) {S : Mem}  {r : UInt32} (hf : f_X9_meanTale_0 S = some r) : Mj v p l e (rmF 4 78) s m args below meth c 1 (MQ below (Qc v (some (.float r)) S) args s 0 0 (eG v)) 0 S 0 [(0, .ref (eA v (218)))] [] := by
  refine i_aload_n hC dX9_meanTale_0 rfl ?_
  refine i_getR hC fl_X9_9 (pln rfl) (lay_p218) rfl dX9_meanTale_1 ?_
  refine i_iconst hC dX9_meanTale_4 li_1 ?_
  refine i_iald hC (j0 := 1) (pln rfl) (lay_p219) (inb_in (by decide)) (by decide) dX9_meanTale_5 ?_
  refine i_if_ne hC (tgt := 13) dX9_meanTale_6 (by decide) (fun c1 => ?_) (fun c1 => ?_)
  · replace hf := (if_neg c1).symm.trans hf
    refine i_aload_n hC dX9_meanTale_13 rfl ?_
    refine i_iconst hC dX9_meanTale_14 li_5 ?_
    obtain ⟨r2, hc2, hf⟩ := bd1_of hf
    refine i_callVi hC mv_X9_291 (c_X9_allOf hC.2.2.2.2.2.2.2.1 hc2) (pln rfl) (lay_p218) rfl rfl rfl rfl ⟨Nat.le_of_ble_eq_true rfl, Nat.le_of_ble_eq_true rfl⟩ (Nat.le_of_ble_eq_true rfl) dX9_meanTale_15 ?_
    refine i_i2f hC dX9_meanTale_18 ?_
    refine i_aload_n hC dX9_meanTale_19 rfl ?_
    refine i_getR hC fl_X9_9 (pln rfl) (lay_p218) rfl dX9_meanTale_20 ?_
    refine i_iconst hC dX9_meanTale_23 li_1 ?_
    refine i_iald hC (j0 := 1) (pln rfl) (lay_p219) (inb_in (by decide)) (by decide) dX9_meanTale_24 ?_
    refine i_i2f hC dX9_meanTale_25 ?_
    obtain ⟨k3, hf⟩ := ck_of hf
    refine i_fdiv hC k3 dX9_meanTale_26 ?_
    exact Mj.to (b_X9_meanTale_27 hC  hf) trivial
  · replace hf := (if_pos c1).symm.trans hf
    refine i_fconst0 hC dX9_meanTale_9 ?_
    refine i_goto hC (tgt := 27) dX9_meanTale_10 (by decide) ?_
    exact Mj.to (b_X9_meanTale_27 hC  hf) trivial
theorem c_X9_meanTale {v : EV} {l : Launch} (hst : Stb v) {S : Mem}  {r : UInt32} (hf : g_X9_meanTale S = some r) : Con v l yX9_meanTale cX9_meanTale 1 (some .float) 4 78 [.ref (eA v (218))] S (some (.float r)) S := con_of (by decide) hst (Nat.le_of_ble_eq_true rfl) (fun p e s m args below meth c hC => b_X9_meanTale_0 hC  hf)
def f_X9_agreedShare_24 (S : Mem) (xt0 : UInt64) : Option (UInt64) := some xt0
def f_X9_agreedShare_0 (S : Mem)  : Option (UInt64) := bd1 (g_X9_allOf S (5 : Int32)) (fun r1 => (if r1 = 0 then f_X9_agreedShare_24 S FP.dconst0 else bd1 (g_X9_allOf S (6 : Int32)) (fun r3 => ck (nn64 (FP.ddiv (FP.i2d r3) (FP.i2d r1))) (f_X9_agreedShare_24 S (FP.ddiv (FP.i2d r3) (FP.i2d r1))))))
def g_X9_agreedShare (S : Mem)  : Option (UInt64) := f_X9_agreedShare_0 S
set_option maxHeartbeats 4000000 in
set_option maxRecDepth 100000 in
theorem b_X9_agreedShare_24 {v : EV} {p : Program} {l : Launch} {e : Env} {s : State} {m : MethodId} {args : Array Value} {below : List Frame} {meth : Method} {c : Code} (hC : Cx v p l e s m args meth c RX9 cX9_agreedShare 2 (some .double)) {S : Mem} {xt0 : UInt64}  {r : UInt64} (hf : f_X9_agreedShare_24 S xt0 = some r) : Mj v p l e (rmF 4 78) s m args below meth c 2 (MQ below (Qc v (some (.double r)) S) args s 0 0 (eG v)) 0 S 24 [] [.double xt0] := by
  obtain rfl := Option.some.inj hf
  exact i_dret hC dX9_agreedShare_24
set_option maxHeartbeats 4000000 in
set_option maxRecDepth 100000 in
theorem b_X9_agreedShare_0 {v : EV} {p : Program} {l : Launch} {e : Env} {s : State} {m : MethodId} {args : Array Value} {below : List Frame} {meth : Method} {c : Code} (hC : Cx v p l e s m args meth c RX9 cX9_agreedShare 2 (some .double)) {S : Mem}  {r : UInt64} (hf : f_X9_agreedShare_0 S = some r) : Mj v p l e (rmF 4 78) s m args below meth c 2 (MQ below (Qc v (some (.double r)) S) args s 0 0 (eG v)) 0 S 0 [(0, .ref (eA v (218)))] [] := by
  refine i_aload_n hC dX9_agreedShare_0 rfl ?_
  refine i_iconst hC dX9_agreedShare_1 li_5 ?_
  obtain ⟨r1, hc1, hf⟩ := bd1_of hf
  refine i_callVi hC mv_X9_291 (c_X9_allOf hC.2.2.2.2.2.2.2.1 hc1) (pln rfl) (lay_p218) rfl rfl rfl rfl ⟨Nat.le_of_ble_eq_true rfl, Nat.le_of_ble_eq_true rfl⟩ (Nat.le_of_ble_eq_true rfl) dX9_agreedShare_2 ?_
  refine i_istore_n hC dX9_agreedShare_5 (by decide) ?_
  refine i_iload_n hC dX9_agreedShare_6 rfl ?_
  refine i_if_ne hC (tgt := 14) dX9_agreedShare_7 (by decide) (fun c2 => ?_) (fun c2 => ?_)
  · replace hf := (if_neg c2).symm.trans hf
    refine i_aload_n hC dX9_agreedShare_14 rfl ?_
    refine i_bipush hC dX9_agreedShare_15 lb_6 ?_
    obtain ⟨r3, hc3, hf⟩ := bd1_of hf
    refine i_callVi hC mv_X9_291 (c_X9_allOf hC.2.2.2.2.2.2.2.1 hc3) (pln rfl) (lay_p218) rfl rfl rfl rfl ⟨Nat.le_of_ble_eq_true rfl, Nat.le_of_ble_eq_true rfl⟩ (Nat.le_of_ble_eq_true rfl) dX9_agreedShare_17 ?_
    refine i_i2d hC dX9_agreedShare_20 ?_
    refine i_iload_n hC dX9_agreedShare_21 rfl ?_
    refine i_i2d hC dX9_agreedShare_22 ?_
    obtain ⟨k4, hf⟩ := ck_of hf
    refine i_ddiv hC k4 dX9_agreedShare_23 ?_
    exact Mj.to (b_X9_agreedShare_24 hC  hf) trivial
  · replace hf := (if_pos c2).symm.trans hf
    refine i_dconst0 hC dX9_agreedShare_10 ?_
    refine i_goto hC (tgt := 24) dX9_agreedShare_11 (by decide) ?_
    exact Mj.to (b_X9_agreedShare_24 hC  hf) trivial
theorem c_X9_agreedShare {v : EV} {l : Launch} (hst : Stb v) {S : Mem}  {r : UInt64} (hf : g_X9_agreedShare S = some r) : Con v l yX9_agreedShare cX9_agreedShare 2 (some .double) 4 78 [.ref (eA v (218))] S (some (.double r)) S := con_of (by decide) hst (Nat.le_of_ble_eq_true rfl) (fun p e s m args below meth c hC => b_X9_agreedShare_0 hC  hf)
def f_X2_writeOn_119 (S : Mem)  : Option (Mem) := some S
def f_X2_writeOn_73 (ih50 : (Mem × Int32) → Option (Mem)) (S : Mem) (d0_0 : Nat) (d0_1 : Nat) (d1_0 : Nat) (x2 : Int32) : Option (Mem) := ck (inb x2 12) (ck (sbapC S d1_0 (S d0_0 (33 + 34 * d0_1 + 22 + (x2).toNatClampNeg))) (ck (inb x2 12) (ck (sbapI (appCn S d1_0 (S d0_0 (33 + 34 * d0_1 + 22 + (x2).toNatClampNeg))) d1_0 ((appCn S d1_0 (S d0_0 (33 + 34 * d0_1 + 22 + (x2).toNatClampNeg))) d0_0 (33 + 34 * d0_1 + 10 + (x2).toNatClampNeg))) (ih50 ((appIn (appCn S d1_0 (S d0_0 (33 + 34 * d0_1 + 22 + (x2).toNatClampNeg))) d1_0 ((appCn S d1_0 (S d0_0 (33 + 34 * d0_1 + 22 + (x2).toNatClampNeg))) d0_0 (33 + 34 * d0_1 + 10 + (x2).toNatClampNeg))), (x2 + (1 : Int32)))))))
def f_X2_writeOn_50_b (ih50 : (Mem × Int32) → Option (Mem)) (S : Mem) (d0_0 : Nat) (d0_1 : Nat) (d1_0 : Nat) (x2 : Int32) : Option (Mem) := (if (S d0_0 (33 + 34 * d0_1 + 5)) ≤ x2 then (if (S d0_0 (33 + 34 * d0_1 + 5)) = (S d0_0 (33 + 34 * d0_1 + 6)) then ck (sbapC S d1_0 (124 : Int32)) (f_X2_writeOn_119 (appCn S d1_0 (124 : Int32))) else f_X2_writeOn_119 S) else (if x2 = (S d0_0 (33 + 34 * d0_1 + 6)) then ck (sbapC S d1_0 (124 : Int32)) (f_X2_writeOn_73 ih50 (appCn S d1_0 (124 : Int32)) d0_0 d0_1 d1_0 x2) else f_X2_writeOn_73 ih50 S d0_0 d0_1 d1_0 x2))
def f_X2_writeOn_50 (S : Mem) (d0_0 : Nat) (d0_1 : Nat) (d1_0 : Nat) (x2 : Int32) : Option (Mem) := lp (fun ih50 s9 => f_X2_writeOn_50_b ih50 s9.1 d0_0 d0_1 d1_0 s9.2) 13 (S, x2)
def f_X2_writeOn_28 (S : Mem) (d0_0 : Nat) (d0_1 : Nat) (d1_0 : Nat) (xt0 : Int32) (dt1_0 : Nat) : Option (Mem) := ck (sbapC S dt1_0 xt0) (ck (sbapI (appCn S dt1_0 xt0) d1_0 ((appCn S dt1_0 xt0) d0_0 (33 + 34 * d0_1 + 1))) (ck (sbapC (appIn (appCn S dt1_0 xt0) d1_0 ((appCn S dt1_0 xt0) d0_0 (33 + 34 * d0_1 + 1))) d1_0 (58 : Int32)) (f_X2_writeOn_50 (appCn (appIn (appCn S dt1_0 xt0) d1_0 ((appCn S dt1_0 xt0) d0_0 (33 + 34 * d0_1 + 1))) d1_0 (58 : Int32)) d0_0 d0_1 d1_0 (0 : Int32))))
def f_X2_writeOn_0 (S : Mem) (d0_0 : Nat) (d0_1 : Nat) (d1_0 : Nat) : Option (Mem) := (if (S d0_0 (33 + 34 * d0_1)) = 0 then f_X2_writeOn_28 S d0_0 d0_1 d1_0 (102 : Int32) d1_0 else (if (S d0_0 (33 + 34 * d0_1)) = (1 : Int32) then f_X2_writeOn_28 S d0_0 d0_1 d1_0 (99 : Int32) d1_0 else f_X2_writeOn_28 S d0_0 d0_1 d1_0 (108 : Int32) d1_0))
def g_X2_writeOn (S : Mem) (d0_0 : Nat) (d0_1 : Nat) (d1_0 : Nat) : Option (Mem) := f_X2_writeOn_0 S d0_0 d0_1 d1_0
set_option maxHeartbeats 4000000 in
set_option maxRecDepth 100000 in
theorem b_X2_writeOn_119 {v : EV} {p : Program} {l : Launch} {e : Env} {s : State} {m : MethodId} {args : Array Value} {below : List Frame} {meth : Method} {c : Code} (hC : Cx v p l e s m args meth c RX2 cX2_writeOn 3 none) {S : Mem}  {qb : Nat} (hq : 0 ≤ qb) {r : Mem} (hf : f_X2_writeOn_119 S = some r) : Mj v p l e (rmK 43 7 146) s m args below meth c 3 (MQ below (Qc v (none) r) args s 43 (160 * 43) (eG v)) qb S 119 [] [] := by
  obtain rfl := Option.some.inj hf
  exact i_vret hC dX2_writeOn_119
set_option maxHeartbeats 4000000 in
set_option maxRecDepth 100000 in
theorem b_X2_writeOn_73 {v : EV} {p : Program} {l : Launch} {e : Env} {s : State} {m : MethodId} {args : Array Value} {below : List Frame} {meth : Method} {c : Code} (hC : Cx v p l e s m args meth c RX2 cX2_writeOn 3 none) {S : Mem} {d0_0 : Nat} {d0_1 : Nat} {d1_0 : Nat} {x2 : Int32} (h0 : d0_0 < 11 ∧ d0_1 < 5) (h1 : d1_0 < 2) {n9 : Nat} {qb : Nat} (hq : 3 + 3 * n9 ≤ qb) {r : Mem} {ih50 : (Mem × Int32) → Option (Mem)} (hih50 : ∀ s9 : (Mem × Int32), ih50 s9 = some r → ∀ qb9 : Nat, 1 + 3 * n9 ≤ qb9 → Mj v p l e (rmK 43 7 146) s m args below meth c 3 (MQ below (Qc v (none) r) args s 43 (160 * 43) (eG v)) qb9 s9.1 50 [(0, .ref (eA v (pD d0_0 d0_1))), (1, .ref (eA v (pB d1_0))), (2, .int (s9.2))] []) (hf : f_X2_writeOn_73 ih50 S d0_0 d0_1 d1_0 x2 = some r) : Mj v p l e (rmK 43 7 146) s m args below meth c 3 (MQ below (Qc v (none) r) args s 43 (160 * 43) (eG v)) qb S 73 [(0, .ref (eA v (pD d0_0 d0_1))), (1, .ref (eA v (pB d1_0))), (2, .int x2)] [] := by
  refine i_aload_n hC dX2_writeOn_73 rfl ?_
  refine i_aload_n hC dX2_writeOn_74 rfl ?_
  refine i_getR hC fl_X2_15 (pl_D h0) (lay_D h0) rfl dX2_writeOn_75 ?_
  refine i_iload_n hC dX2_writeOn_78 rfl ?_
  obtain ⟨k14, hf⟩ := ck_of hf
  refine i_cald hC (j0 := (33 + 34 * d0_1 + 22 + (x2).toNatClampNeg)) (pl_AL h0) (lay_AL h0) (inb_in k14) rfl dX2_writeOn_79 ?_
  obtain ⟨k15, hf⟩ := ck_of hf
  obtain ⟨q16, rfl⟩ : ∃ z, qb = z + 1 := ⟨qb - 1, by omega⟩
  refine i_sbC (q2 := q16) hC h1 mv_X2_72 k15 rfl ⟨Nat.le_of_ble_eq_true rfl, Nat.le_of_ble_eq_true rfl⟩ (Nat.le_of_ble_eq_true rfl) dX2_writeOn_80 ?_
  refine i_pop hC dX2_writeOn_83 rfl ?_
  refine i_aload_n hC dX2_writeOn_84 rfl ?_
  refine i_aload_n hC dX2_writeOn_85 rfl ?_
  refine i_getR hC fl_X2_9 (pl_D h0) (lay_D h0) rfl dX2_writeOn_86 ?_
  refine i_iload_n hC dX2_writeOn_89 rfl ?_
  obtain ⟨k17, hf⟩ := ck_of hf
  refine i_iald hC (j0 := (33 + 34 * d0_1 + 10 + (x2).toNatClampNeg)) (pl_AT h0) (lay_AT h0) (inb_in k17) rfl dX2_writeOn_90 ?_
  obtain ⟨k18, hf⟩ := ck_of hf
  obtain ⟨q19, rfl⟩ : ∃ z, q16 = z + 1 := ⟨q16 - 1, by omega⟩
  refine i_sbI (q2 := q19) hC h1 mv_X2_78 k18 rfl ⟨Nat.le_of_ble_eq_true rfl, Nat.le_of_ble_eq_true rfl⟩ (Nat.le_of_ble_eq_true rfl) dX2_writeOn_91 ?_
  refine i_pop hC dX2_writeOn_94 rfl ?_
  refine i_iinc hC dX2_writeOn_95 rfl li_1 (by decide) ?_
  refine i_goto hC (tgt := 50) dX2_writeOn_98 (by decide) ?_
  exact Mj.to (hih50 _ hf _ (by omega)) ⟨rfl, rfl, rfl, trivial⟩
set_option maxHeartbeats 4000000 in
set_option maxRecDepth 100000 in
theorem b_X2_writeOn_50_b {v : EV} {p : Program} {l : Launch} {e : Env} {s : State} {m : MethodId} {args : Array Value} {below : List Frame} {meth : Method} {c : Code} (hC : Cx v p l e s m args meth c RX2 cX2_writeOn 3 none) {S : Mem} {d0_0 : Nat} {d0_1 : Nat} {d1_0 : Nat} {x2 : Int32} (h0 : d0_0 < 11 ∧ d0_1 < 5) (h1 : d1_0 < 2) {n9 qb : Nat} (hq : 1 + 3 * (n9 + 1) ≤ qb) {r : Mem} {ih50 : (Mem × Int32) → Option (Mem)} (hih50 : ∀ s9 : (Mem × Int32), ih50 s9 = some r → ∀ qb9 : Nat, 1 + 3 * n9 ≤ qb9 → Mj v p l e (rmK 43 7 146) s m args below meth c 3 (MQ below (Qc v (none) r) args s 43 (160 * 43) (eG v)) qb9 s9.1 50 [(0, .ref (eA v (pD d0_0 d0_1))), (1, .ref (eA v (pB d1_0))), (2, .int (s9.2))] []) (hf : f_X2_writeOn_50_b ih50 S d0_0 d0_1 d1_0 x2 = some r) : Mj v p l e (rmK 43 7 146) s m args below meth c 3 (MQ below (Qc v (none) r) args s 43 (160 * 43) (eG v)) qb S 50 [(0, .ref (eA v (pD d0_0 d0_1))), (1, .ref (eA v (pB d1_0))), (2, .int x2)] [] := by
  refine i_iload_n hC dX2_writeOn_50 rfl ?_
  refine i_aload_n hC dX2_writeOn_51 rfl ?_
  refine i_getI hC fl_X2_35 (pl_D h0) (lay_D h0) rfl dX2_writeOn_52 ?_
  refine i_icmp_ge hC (tgt := 101) dX2_writeOn_55 (by decide) (fun c9 => ?_) (fun c9 => ?_)
  · replace hf := (if_pos c9).symm.trans hf
    refine i_aload_n hC dX2_writeOn_101 rfl ?_
    refine i_getI hC fl_X2_35 (pl_D h0) (lay_D h0) rfl dX2_writeOn_102 ?_
    refine i_aload_n hC dX2_writeOn_105 rfl ?_
    refine i_getI hC fl_X2_38 (pl_D h0) (lay_D h0) rfl dX2_writeOn_106 ?_
    refine i_icmp_ne hC (tgt := 119) dX2_writeOn_109 (by decide) (fun c10 => ?_) (fun c10 => ?_)
    · replace hf := (if_neg c10).symm.trans hf
      exact Mj.to (b_X2_writeOn_119 hC (by omega) hf) trivial
    · replace hf := (if_pos c10).symm.trans hf
      refine i_aload_n hC dX2_writeOn_112 rfl ?_
      refine i_bipush hC dX2_writeOn_113 lb_124 ?_
      obtain ⟨k11, hf⟩ := ck_of hf
      obtain ⟨q12, rfl⟩ : ∃ z, qb = z + 1 := ⟨qb - 1, by omega⟩
      refine i_sbC (q2 := q12) hC h1 mv_X2_72 k11 rfl ⟨Nat.le_of_ble_eq_true rfl, Nat.le_of_ble_eq_true rfl⟩ (Nat.le_of_ble_eq_true rfl) dX2_writeOn_115 ?_
      refine i_pop hC dX2_writeOn_118 rfl ?_
      exact Mj.to (b_X2_writeOn_119 hC (by omega) hf) trivial
  · replace hf := (if_neg c9).symm.trans hf
    refine i_iload_n hC dX2_writeOn_58 rfl ?_
    refine i_aload_n hC dX2_writeOn_59 rfl ?_
    refine i_getI hC fl_X2_38 (pl_D h0) (lay_D h0) rfl dX2_writeOn_60 ?_
    refine i_icmp_ne hC (tgt := 73) dX2_writeOn_63 (by decide) (fun c13 => ?_) (fun c13 => ?_)
    · replace hf := (if_neg c13).symm.trans hf
      exact Mj.to (b_X2_writeOn_73 hC h0 h1 (by omega) hih50 hf) ⟨rfl, rfl, rfl, trivial⟩
    · replace hf := (if_pos c13).symm.trans hf
      refine i_aload_n hC dX2_writeOn_66 rfl ?_
      refine i_bipush hC dX2_writeOn_67 lb_124 ?_
      obtain ⟨k20, hf⟩ := ck_of hf
      obtain ⟨q21, rfl⟩ : ∃ z, qb = z + 1 := ⟨qb - 1, by omega⟩
      refine i_sbC (q2 := q21) hC h1 mv_X2_72 k20 rfl ⟨Nat.le_of_ble_eq_true rfl, Nat.le_of_ble_eq_true rfl⟩ (Nat.le_of_ble_eq_true rfl) dX2_writeOn_69 ?_
      refine i_pop hC dX2_writeOn_72 rfl ?_
      exact Mj.to (b_X2_writeOn_73 hC h0 h1 (by omega) hih50 hf) ⟨rfl, rfl, rfl, trivial⟩
theorem b_X2_writeOn_50 {v : EV} {p : Program} {l : Launch} {e : Env} {s : State} {m : MethodId} {args : Array Value} {below : List Frame} {meth : Method} {c : Code} (hC : Cx v p l e s m args meth c RX2 cX2_writeOn 3 none) {S : Mem} {d0_0 : Nat} {d0_1 : Nat} {d1_0 : Nat} {x2 : Int32} (h0 : d0_0 < 11 ∧ d0_1 < 5) (h1 : d1_0 < 2) {qb : Nat} (hq : 40 ≤ qb) {r : Mem} (hf : f_X2_writeOn_50 S d0_0 d0_1 d1_0 x2 = some r) : Mj v p l e (rmK 43 7 146) s m args below meth c 3 (MQ below (Qc v (none) r) args s 43 (160 * 43) (eG v)) qb S 50 [(0, .ref (eA v (pD d0_0 d0_1))), (1, .ref (eA v (pB d1_0))), (2, .int x2)] [] :=
  lp_indK (P := fun n9 (s9 : (Mem × Int32)) => ∀ qb : Nat, 1 + 3 * n9 ≤ qb → Mj v p l e (rmK 43 7 146) s m args below meth c 3 (MQ below (Qc v (none) r) args s 43 (160 * 43) (eG v)) qb s9.1 50 [(0, .ref (eA v (pD d0_0 d0_1))), (1, .ref (eA v (pB d1_0))), (2, .int (s9.2))] []) (fun n9 ih s9 hih hf qb hq => b_X2_writeOn_50_b hC h0 h1 hq hih hf) 13 _ hf qb (by omega)
set_option maxHeartbeats 4000000 in
set_option maxRecDepth 100000 in
theorem b_X2_writeOn_28 {v : EV} {p : Program} {l : Launch} {e : Env} {s : State} {m : MethodId} {args : Array Value} {below : List Frame} {meth : Method} {c : Code} (hC : Cx v p l e s m args meth c RX2 cX2_writeOn 3 none) {S : Mem} {d0_0 : Nat} {d0_1 : Nat} {d1_0 : Nat} {xt0 : Int32} {dt1_0 : Nat} (h0 : d0_0 < 11 ∧ d0_1 < 5) (h1 : d1_0 < 2) (ht1 : dt1_0 < 2) {qb : Nat} (hq : 43 ≤ qb) {r : Mem} (hf : f_X2_writeOn_28 S d0_0 d0_1 d1_0 xt0 dt1_0 = some r) : Mj v p l e (rmK 43 7 146) s m args below meth c 3 (MQ below (Qc v (none) r) args s 43 (160 * 43) (eG v)) qb S 28 [(0, .ref (eA v (pD d0_0 d0_1))), (1, .ref (eA v (pB d1_0)))] [.int xt0, .ref (eA v (pB dt1_0))] := by
  obtain ⟨k3, hf⟩ := ck_of hf
  obtain ⟨q4, rfl⟩ : ∃ z, qb = z + 1 := ⟨qb - 1, by omega⟩
  refine i_sbC (q2 := q4) hC ht1 mv_X2_72 k3 rfl ⟨Nat.le_of_ble_eq_true rfl, Nat.le_of_ble_eq_true rfl⟩ (Nat.le_of_ble_eq_true rfl) dX2_writeOn_28 ?_
  refine i_pop hC dX2_writeOn_31 rfl ?_
  refine i_aload_n hC dX2_writeOn_32 rfl ?_
  refine i_aload_n hC dX2_writeOn_33 rfl ?_
  refine i_getI hC fl_X2_23 (pl_D h0) (lay_D h0) rfl dX2_writeOn_34 ?_
  obtain ⟨k5, hf⟩ := ck_of hf
  obtain ⟨q6, rfl⟩ : ∃ z, q4 = z + 1 := ⟨q4 - 1, by omega⟩
  refine i_sbI (q2 := q6) hC h1 mv_X2_78 k5 rfl ⟨Nat.le_of_ble_eq_true rfl, Nat.le_of_ble_eq_true rfl⟩ (Nat.le_of_ble_eq_true rfl) dX2_writeOn_37 ?_
  refine i_pop hC dX2_writeOn_40 rfl ?_
  refine i_aload_n hC dX2_writeOn_41 rfl ?_
  refine i_bipush hC dX2_writeOn_42 lb_58 ?_
  obtain ⟨k7, hf⟩ := ck_of hf
  obtain ⟨q8, rfl⟩ : ∃ z, q6 = z + 1 := ⟨q6 - 1, by omega⟩
  refine i_sbC (q2 := q8) hC h1 mv_X2_72 k7 rfl ⟨Nat.le_of_ble_eq_true rfl, Nat.le_of_ble_eq_true rfl⟩ (Nat.le_of_ble_eq_true rfl) dX2_writeOn_44 ?_
  refine i_pop hC dX2_writeOn_47 rfl ?_
  refine i_iconst hC dX2_writeOn_48 li_0 ?_
  refine i_istore_n hC dX2_writeOn_49 (by decide) ?_
  exact Mj.to (b_X2_writeOn_50 hC h0 h1 (by omega) hf) ⟨rfl, rfl, rfl, trivial⟩
set_option maxHeartbeats 4000000 in
set_option maxRecDepth 100000 in
theorem b_X2_writeOn_0 {v : EV} {p : Program} {l : Launch} {e : Env} {s : State} {m : MethodId} {args : Array Value} {below : List Frame} {meth : Method} {c : Code} (hC : Cx v p l e s m args meth c RX2 cX2_writeOn 3 none) {S : Mem} {d0_0 : Nat} {d0_1 : Nat} {d1_0 : Nat} (h0 : d0_0 < 11 ∧ d0_1 < 5) (h1 : d1_0 < 2) {qb : Nat} (hq : 43 ≤ qb) {r : Mem} (hf : f_X2_writeOn_0 S d0_0 d0_1 d1_0 = some r) : Mj v p l e (rmK 43 7 146) s m args below meth c 3 (MQ below (Qc v (none) r) args s 43 (160 * 43) (eG v)) qb S 0 [(0, .ref (eA v (pD d0_0 d0_1))), (1, .ref (eA v (pB d1_0)))] [] := by
  refine i_aload_n hC dX2_writeOn_0 rfl ?_
  refine i_aload_n hC dX2_writeOn_1 rfl ?_
  refine i_getI hC fl_X2_19 (pl_D h0) (lay_D h0) rfl dX2_writeOn_2 ?_
  refine i_if_ne hC (tgt := 13) dX2_writeOn_5 (by decide) (fun c1 => ?_) (fun c1 => ?_)
  · replace hf := (if_neg c1).symm.trans hf
    refine i_aload_n hC dX2_writeOn_13 rfl ?_
    refine i_getI hC fl_X2_19 (pl_D h0) (lay_D h0) rfl dX2_writeOn_14 ?_
    refine i_iconst hC dX2_writeOn_17 li_1 ?_
    refine i_icmp_ne hC (tgt := 26) dX2_writeOn_18 (by decide) (fun c2 => ?_) (fun c2 => ?_)
    · replace hf := (if_neg c2).symm.trans hf
      refine i_bipush hC dX2_writeOn_26 lb_108 ?_
      exact Mj.to (b_X2_writeOn_28 hC h0 h1 h1 (by omega) hf) ⟨rfl, rfl, trivial⟩
    · replace hf := (if_pos c2).symm.trans hf
      refine i_bipush hC dX2_writeOn_21 lb_99 ?_
      refine i_goto hC (tgt := 28) dX2_writeOn_23 (by decide) ?_
      exact Mj.to (b_X2_writeOn_28 hC h0 h1 h1 (by omega) hf) ⟨rfl, rfl, trivial⟩
  · replace hf := (if_pos c1).symm.trans hf
    refine i_bipush hC dX2_writeOn_8 lb_102 ?_
    refine i_goto hC (tgt := 28) dX2_writeOn_10 (by decide) ?_
    exact Mj.to (b_X2_writeOn_28 hC h0 h1 h1 (by omega) hf) ⟨rfl, rfl, trivial⟩
theorem c_X2_writeOn {v : EV} {l : Launch} (hst : Stb v) {S : Mem} {d0_0 d0_1 d1_0 : Nat} (h0 : d0_0 < 11 ∧ d0_1 < 5) (h1 : d1_0 < 2) {r : Mem} (hf : g_X2_writeOn S d0_0 d0_1 d1_0 = some r) : ConK 43 v l yX2_writeOn cX2_writeOn 3 none 7 146 [.ref (eA v (pD d0_0 d0_1)), .ref (eA v (pB d1_0))] S (none) r := con_ofK (by decide) hst (Nat.le_of_ble_eq_true rfl) (fun p e s m args below meth c hC => b_X2_writeOn_0 hC h0 h1 (Nat.le_refl _) hf)
def f_X6_add_24 (S : Mem)  : Option (Int32 × Mem) := some ((0 : Int32), S)
def f_X6_add_0 (S : Mem) (x1 : Int32) : Option (Int32 × Mem) := (if x1 < (32 : Int32) then f_X6_add_24 S else (if (126 : Int32) < x1 then f_X6_add_24 S else (if (S (13 + 2 * 0) 0) < (60 : Int32) then ck (sbapC S 0 x1) (some ((1 : Int32), (appCn S 0 x1))) else f_X6_add_24 S)))
def g_X6_add (S : Mem) (x1 : Int32) : Option (Int32 × Mem) := f_X6_add_0 S x1
set_option maxHeartbeats 4000000 in
set_option maxRecDepth 100000 in
theorem b_X6_add_24 {v : EV} {p : Program} {l : Launch} {e : Env} {s : State} {m : MethodId} {args : Array Value} {below : List Frame} {meth : Method} {c : Code} (hC : Cx v p l e s m args meth c RX6 cX6_add 2 (some .boolean)) {S : Mem}  {qb : Nat} (hq : 0 ≤ qb) {r : Int32 × Mem} (hf : f_X6_add_24 S = some r) : Mj v p l e (rmK 1 7 144) s m args below meth c 2 (MQ below (Qc v (some (.int r.1)) r.2) args s 1 (160 * 1) (eG v)) qb S 24 [] [] := by
  refine i_iconst hC dX6_add_24 li_0 ?_
  obtain rfl := Option.some.inj hf
  exact i_zret hC dX6_add_25 (isb_z (x := (0 : Int32)) (by decide)).1
set_option maxHeartbeats 4000000 in
set_option maxRecDepth 100000 in
theorem b_X6_add_0 {v : EV} {p : Program} {l : Launch} {e : Env} {s : State} {m : MethodId} {args : Array Value} {below : List Frame} {meth : Method} {c : Code} (hC : Cx v p l e s m args meth c RX6 cX6_add 2 (some .boolean)) {S : Mem} {x1 : Int32}  {qb : Nat} (hq : 1 ≤ qb) {r : Int32 × Mem} (hf : f_X6_add_0 S x1 = some r) : Mj v p l e (rmK 1 7 144) s m args below meth c 2 (MQ below (Qc v (some (.int r.1)) r.2) args s 1 (160 * 1) (eG v)) qb S 0 [(0, .ref (eA v (202))), (1, .int x1)] [] := by
  refine i_iload_n hC dX6_add_0 rfl ?_
  refine i_bipush hC dX6_add_1 lb_32 ?_
  refine i_icmp_lt hC (tgt := 24) dX6_add_3 (by decide) (fun c1 => ?_) (fun c1 => ?_)
  · replace hf := (if_pos c1).symm.trans hf
    exact Mj.to (b_X6_add_24 hC (by omega) hf) trivial
  · replace hf := (if_neg c1).symm.trans hf
    refine i_iload_n hC dX6_add_6 rfl ?_
    refine i_bipush hC dX6_add_7 lb_126 ?_
    refine i_icmp_gt hC (tgt := 24) dX6_add_9 (by decide) (fun c2 => ?_) (fun c2 => ?_)
    · replace hf := (if_pos c2).symm.trans hf
      exact Mj.to (b_X6_add_24 hC (by omega) hf) trivial
    · replace hf := (if_neg c2).symm.trans hf
      refine i_aload_n hC dX6_add_12 rfl ?_
      refine i_getR (x := pB 0) hC fl_X6_12 (pln rfl) (lay_p202) rfl dX6_add_13 ?_
      refine i_sbLen hC (by decide) mv_X6_25 ⟨Nat.le_of_ble_eq_true rfl, Nat.le_of_ble_eq_true rfl⟩ (Nat.le_of_ble_eq_true rfl) dX6_add_16 ?_
      refine i_bipush hC dX6_add_19 lb_60 ?_
      refine i_icmp_lt hC (tgt := 26) dX6_add_21 (by decide) (fun c3 => ?_) (fun c3 => ?_)
      · replace hf := (if_pos c3).symm.trans hf
        refine i_aload_n hC dX6_add_26 rfl ?_
        refine i_getR (x := pB 0) hC fl_X6_12 (pln rfl) (lay_p202) rfl dX6_add_27 ?_
        refine i_iload_n hC dX6_add_30 rfl ?_
        obtain ⟨k4, hf⟩ := ck_of hf
        obtain ⟨q5, rfl⟩ : ∃ z, qb = z + 1 := ⟨qb - 1, by omega⟩
        refine i_sbC (q2 := q5) hC (by decide) mv_X6_29 k4 rfl ⟨Nat.le_of_ble_eq_true rfl, Nat.le_of_ble_eq_true rfl⟩ (Nat.le_of_ble_eq_true rfl) dX6_add_31 ?_
        refine i_pop hC dX6_add_34 rfl ?_
        refine i_iconst hC dX6_add_35 li_1 ?_
        obtain rfl := Option.some.inj hf
        exact i_zret hC dX6_add_36 (isb_z (x := (1 : Int32)) (by decide)).1
      · replace hf := (if_neg c3).symm.trans hf
        exact Mj.to (b_X6_add_24 hC (by omega) hf) trivial
theorem c_X6_add {v : EV} {l : Launch} (hst : Stb v) {S : Mem} {x1 : Int32}  {r : Int32 × Mem} (hf : g_X6_add S x1 = some r) : ConK 1 v l yX6_add cX6_add 2 (some .boolean) 7 144 [.ref (eA v (202)), .int x1] S (some (.int r.1)) r.2 := con_ofK (by decide) hst (Nat.le_of_ble_eq_true rfl) (fun p e s m args below meth c hC => b_X6_add_0 hC  (Nat.le_refl _) hf)
def f_X6_size_0 (S : Mem)  : Option (Int32) := some (S (13 + 2 * 0) 0)
def g_X6_size (S : Mem)  : Option (Int32) := f_X6_size_0 S
set_option maxHeartbeats 4000000 in
set_option maxRecDepth 100000 in
theorem b_X6_size_0 {v : EV} {p : Program} {l : Launch} {e : Env} {s : State} {m : MethodId} {args : Array Value} {below : List Frame} {meth : Method} {c : Code} (hC : Cx v p l e s m args meth c RX6 cX6_size 1 (some .int)) {S : Mem}  {r : Int32} (hf : f_X6_size_0 S = some r) : Mj v p l e (rmF 3 52) s m args below meth c 1 (MQ below (Qc v (some (.int r)) S) args s 0 0 (eG v)) 0 S 0 [(0, .ref (eA v (202)))] [] := by
  refine i_aload_n hC dX6_size_0 rfl ?_
  refine i_getR (x := pB 0) hC fl_X6_12 (pln rfl) (lay_p202) rfl dX6_size_1 ?_
  refine i_sbLen hC (by decide) mv_X6_25 ⟨Nat.le_of_ble_eq_true rfl, Nat.le_of_ble_eq_true rfl⟩ (Nat.le_of_ble_eq_true rfl) dX6_size_4 ?_
  obtain rfl := Option.some.inj hf
  exact i_iret hC dX6_size_7
theorem c_X6_size {v : EV} {l : Launch} (hst : Stb v) {S : Mem}  {r : Int32} (hf : g_X6_size S = some r) : Con v l yX6_size cX6_size 1 (some .int) 3 52 [.ref (eA v (202))] S (some (.int r)) S := con_of (by decide) hst (Nat.le_of_ble_eq_true rfl) (fun p e s m args below meth c hC => b_X6_size_0 hC  hf)
def f_X6_isHere_39 (S : Mem) (xt0 : Int32) : Option (Int32) := ck (isb xt0) (some xt0)
def f_X6_isHere_38 (S : Mem)  : Option (Int32) := f_X6_isHere_39 S (0 : Int32)
def f_X6_isHere_0 (S : Mem) (x1 : Int32) (x2 : Int32) : Option (Int32) := (if ((S 11 9) + x1) < 0 then f_X6_isHere_38 S else (if (S (13 + 2 * 0) 0) ≤ ((S 11 9) + x1) then f_X6_isHere_38 S else ck (sbat S 0 ((S 11 9) + x1)) ((if (sbch S 0 ((S 11 9) + x1)) = x2 then f_X6_isHere_39 S (1 : Int32) else f_X6_isHere_38 S))))
def g_X6_isHere (S : Mem) (x1 : Int32) (x2 : Int32) : Option (Int32) := f_X6_isHere_0 S x1 x2
set_option maxHeartbeats 4000000 in
set_option maxRecDepth 100000 in
theorem b_X6_isHere_39 {v : EV} {p : Program} {l : Launch} {e : Env} {s : State} {m : MethodId} {args : Array Value} {below : List Frame} {meth : Method} {c : Code} (hC : Cx v p l e s m args meth c RX6 cX6_isHere 4 (some .boolean)) {S : Mem} {xt0 : Int32}  {r : Int32} (hf : f_X6_isHere_39 S xt0 = some r) : Mj v p l e (rmF 5 100) s m args below meth c 4 (MQ below (Qc v (some (.int r)) S) args s 0 0 (eG v)) 0 S 39 [] [.int xt0] := by
  obtain ⟨k2, hf⟩ := ck_of hf
  obtain rfl := Option.some.inj hf
  exact i_zret hC dX6_isHere_39 (isb_z k2).1
set_option maxHeartbeats 4000000 in
set_option maxRecDepth 100000 in
theorem b_X6_isHere_38 {v : EV} {p : Program} {l : Launch} {e : Env} {s : State} {m : MethodId} {args : Array Value} {below : List Frame} {meth : Method} {c : Code} (hC : Cx v p l e s m args meth c RX6 cX6_isHere 4 (some .boolean)) {S : Mem}  {r : Int32} (hf : f_X6_isHere_38 S = some r) : Mj v p l e (rmF 5 100) s m args below meth c 4 (MQ below (Qc v (some (.int r)) S) args s 0 0 (eG v)) 0 S 38 [] [] := by
  refine i_iconst hC dX6_isHere_38 li_0 ?_
  exact Mj.to (b_X6_isHere_39 hC  hf) trivial
set_option maxHeartbeats 4000000 in
set_option maxRecDepth 100000 in
theorem b_X6_isHere_0 {v : EV} {p : Program} {l : Launch} {e : Env} {s : State} {m : MethodId} {args : Array Value} {below : List Frame} {meth : Method} {c : Code} (hC : Cx v p l e s m args meth c RX6 cX6_isHere 4 (some .boolean)) {S : Mem} {x1 : Int32} {x2 : Int32}  {r : Int32} (hf : f_X6_isHere_0 S x1 x2 = some r) : Mj v p l e (rmF 5 100) s m args below meth c 4 (MQ below (Qc v (some (.int r)) S) args s 0 0 (eG v)) 0 S 0 [(0, .ref (eA v (202))), (1, .int x1), (2, .int x2)] [] := by
  refine i_aload_n hC dX6_isHere_0 rfl ?_
  refine i_getI hC fl_X6_41 (pln rfl) (lay_p202) rfl dX6_isHere_1 ?_
  refine i_iload_n hC dX6_isHere_4 rfl ?_
  refine i_iadd hC dX6_isHere_5 ?_
  refine i_istore_n hC dX6_isHere_6 (by decide) ?_
  refine i_iload_n hC dX6_isHere_7 rfl ?_
  refine i_if_lt hC (tgt := 38) dX6_isHere_8 (by decide) (fun c1 => ?_) (fun c1 => ?_)
  · replace hf := (if_pos c1).symm.trans hf
    exact Mj.to (b_X6_isHere_38 hC  hf) trivial
  · replace hf := (if_neg c1).symm.trans hf
    refine i_iload_n hC dX6_isHere_11 rfl ?_
    refine i_aload_n hC dX6_isHere_12 rfl ?_
    refine i_getR (x := pB 0) hC fl_X6_12 (pln rfl) (lay_p202) rfl dX6_isHere_13 ?_
    refine i_sbLen hC (by decide) mv_X6_25 ⟨Nat.le_of_ble_eq_true rfl, Nat.le_of_ble_eq_true rfl⟩ (Nat.le_of_ble_eq_true rfl) dX6_isHere_16 ?_
    refine i_icmp_ge hC (tgt := 38) dX6_isHere_19 (by decide) (fun c3 => ?_) (fun c3 => ?_)
    · replace hf := (if_pos c3).symm.trans hf
      exact Mj.to (b_X6_isHere_38 hC  hf) trivial
    · replace hf := (if_neg c3).symm.trans hf
      refine i_aload_n hC dX6_isHere_22 rfl ?_
      refine i_getR (x := pB 0) hC fl_X6_12 (pln rfl) (lay_p202) rfl dX6_isHere_23 ?_
      refine i_iload_n hC dX6_isHere_26 rfl ?_
      obtain ⟨k4, hf⟩ := ck_of hf
      refine i_sbAt hC (by decide) mv_X6_97 k4 ⟨Nat.le_of_ble_eq_true rfl, Nat.le_of_ble_eq_true rfl⟩ (Nat.le_of_ble_eq_true rfl) dX6_isHere_27 ?_
      refine i_iload_n hC dX6_isHere_30 rfl ?_
      refine i_icmp_ne hC (tgt := 38) dX6_isHere_31 (by decide) (fun c5 => ?_) (fun c5 => ?_)
      · replace hf := (if_neg c5).symm.trans hf
        exact Mj.to (b_X6_isHere_38 hC  hf) trivial
      · replace hf := (if_pos c5).symm.trans hf
        refine i_iconst hC dX6_isHere_34 li_1 ?_
        refine i_goto hC (tgt := 39) dX6_isHere_35 (by decide) ?_
        exact Mj.to (b_X6_isHere_39 hC  hf) trivial
theorem c_X6_isHere {v : EV} {l : Launch} (hst : Stb v) {S : Mem} {x1 x2 : Int32}  {r : Int32} (hf : g_X6_isHere S x1 x2 = some r) : Con v l yX6_isHere cX6_isHere 4 (some .boolean) 5 100 [.ref (eA v (202)), .int x1, .int x2] S (some (.int r)) S := con_of (by decide) hst (Nat.le_of_ble_eq_true rfl) (fun p e s m args below meth c hC => b_X6_isHere_0 hC  hf)
def f_X6_takeBetween_21 (S : Mem)  : Option (Int32 × Mem) := some ((-1 : Int32), S)
def f_X6_takeBetween_45 (S : Mem)  : Option (Int32 × Mem) := some ((-1 : Int32), S)
def f_X6_takeBetween_0 (S : Mem) (x1 : Int32) (x2 : Int32) : Option (Int32 × Mem) := (if (S 11 9) < 0 then f_X6_takeBetween_21 S else (if (S 11 9) < (S (13 + 2 * 0) 0) then ck (sbat S 0 (S 11 9)) ((if (sbch S 0 (S 11 9)) < x1 then f_X6_takeBetween_45 S else (if (sbch S 0 (S 11 9)) ≤ x2 then some ((sbch S 0 (S 11 9)), (up S 11 9 ((S 11 9) + (1 : Int32)))) else f_X6_takeBetween_45 S))) else f_X6_takeBetween_21 S))
def g_X6_takeBetween (S : Mem) (x1 : Int32) (x2 : Int32) : Option (Int32 × Mem) := f_X6_takeBetween_0 S x1 x2
set_option maxHeartbeats 4000000 in
set_option maxRecDepth 100000 in
theorem b_X6_takeBetween_21 {v : EV} {p : Program} {l : Launch} {e : Env} {s : State} {m : MethodId} {args : Array Value} {below : List Frame} {meth : Method} {c : Code} (hC : Cx v p l e s m args meth c RX6 cX6_takeBetween 4 (some .int)) {S : Mem}  {r : Int32 × Mem} (hf : f_X6_takeBetween_21 S = some r) : Mj v p l e (rmF 5 100) s m args below meth c 4 (MQ below (Qc v (some (.int r.1)) r.2) args s 0 0 (eG v)) 0 S 21 [] [] := by
  refine i_iconst hC dX6_takeBetween_21 li_m1 ?_
  obtain rfl := Option.some.inj hf
  exact i_iret hC dX6_takeBetween_22
set_option maxHeartbeats 4000000 in
set_option maxRecDepth 100000 in
theorem b_X6_takeBetween_45 {v : EV} {p : Program} {l : Launch} {e : Env} {s : State} {m : MethodId} {args : Array Value} {below : List Frame} {meth : Method} {c : Code} (hC : Cx v p l e s m args meth c RX6 cX6_takeBetween 4 (some .int)) {S : Mem}  {r : Int32 × Mem} (hf : f_X6_takeBetween_45 S = some r) : Mj v p l e (rmF 5 100) s m args below meth c 4 (MQ below (Qc v (some (.int r.1)) r.2) args s 0 0 (eG v)) 0 S 45 [] [] := by
  refine i_iconst hC dX6_takeBetween_45 li_m1 ?_
  obtain rfl := Option.some.inj hf
  exact i_iret hC dX6_takeBetween_46
set_option maxHeartbeats 4000000 in
set_option maxRecDepth 100000 in
theorem b_X6_takeBetween_0 {v : EV} {p : Program} {l : Launch} {e : Env} {s : State} {m : MethodId} {args : Array Value} {below : List Frame} {meth : Method} {c : Code} (hC : Cx v p l e s m args meth c RX6 cX6_takeBetween 4 (some .int)) {S : Mem} {x1 : Int32} {x2 : Int32}  {r : Int32 × Mem} (hf : f_X6_takeBetween_0 S x1 x2 = some r) : Mj v p l e (rmF 5 100) s m args below meth c 4 (MQ below (Qc v (some (.int r.1)) r.2) args s 0 0 (eG v)) 0 S 0 [(0, .ref (eA v (202))), (1, .int x1), (2, .int x2)] [] := by
  refine i_aload_n hC dX6_takeBetween_0 rfl ?_
  refine i_getI hC fl_X6_41 (pln rfl) (lay_p202) rfl dX6_takeBetween_1 ?_
  refine i_if_lt hC (tgt := 21) dX6_takeBetween_4 (by decide) (fun c1 => ?_) (fun c1 => ?_)
  · replace hf := (if_pos c1).symm.trans hf
    exact Mj.to (b_X6_takeBetween_21 hC  hf) trivial
  · replace hf := (if_neg c1).symm.trans hf
    refine i_aload_n hC dX6_takeBetween_7 rfl ?_
    refine i_getI hC fl_X6_41 (pln rfl) (lay_p202) rfl dX6_takeBetween_8 ?_
    refine i_aload_n hC dX6_takeBetween_11 rfl ?_
    refine i_getR (x := pB 0) hC fl_X6_12 (pln rfl) (lay_p202) rfl dX6_takeBetween_12 ?_
    refine i_sbLen hC (by decide) mv_X6_25 ⟨Nat.le_of_ble_eq_true rfl, Nat.le_of_ble_eq_true rfl⟩ (Nat.le_of_ble_eq_true rfl) dX6_takeBetween_15 ?_
    refine i_icmp_lt hC (tgt := 23) dX6_takeBetween_18 (by decide) (fun c2 => ?_) (fun c2 => ?_)
    · replace hf := (if_pos c2).symm.trans hf
      refine i_aload_n hC dX6_takeBetween_23 rfl ?_
      refine i_getR (x := pB 0) hC fl_X6_12 (pln rfl) (lay_p202) rfl dX6_takeBetween_24 ?_
      refine i_aload_n hC dX6_takeBetween_27 rfl ?_
      refine i_getI hC fl_X6_41 (pln rfl) (lay_p202) rfl dX6_takeBetween_28 ?_
      obtain ⟨k3, hf⟩ := ck_of hf
      refine i_sbAt hC (by decide) mv_X6_97 k3 ⟨Nat.le_of_ble_eq_true rfl, Nat.le_of_ble_eq_true rfl⟩ (Nat.le_of_ble_eq_true rfl) dX6_takeBetween_31 ?_
      refine i_istore_n hC dX6_takeBetween_34 (by decide) ?_
      refine i_iload_n hC dX6_takeBetween_35 rfl ?_
      refine i_iload_n hC dX6_takeBetween_36 rfl ?_
      refine i_icmp_lt hC (tgt := 45) dX6_takeBetween_37 (by decide) (fun c4 => ?_) (fun c4 => ?_)
      · replace hf := (if_pos c4).symm.trans hf
        exact Mj.to (b_X6_takeBetween_45 hC  hf) trivial
      · replace hf := (if_neg c4).symm.trans hf
        refine i_iload_n hC dX6_takeBetween_40 rfl ?_
        refine i_iload_n hC dX6_takeBetween_41 rfl ?_
        refine i_icmp_le hC (tgt := 47) dX6_takeBetween_42 (by decide) (fun c5 => ?_) (fun c5 => ?_)
        · replace hf := (if_pos c5).symm.trans hf
          refine i_aload_n hC dX6_takeBetween_47 rfl ?_
          refine i_dup hC dX6_takeBetween_48 rfl ?_
          refine i_getI hC fl_X6_41 (pln rfl) (lay_p202) rfl dX6_takeBetween_49 ?_
          refine i_iconst hC dX6_takeBetween_52 li_1 ?_
          refine i_iadd hC dX6_takeBetween_53 ?_
          refine i_putI hC fl_X6_41 (pln rfl) (lay_p202) rfl (bk_l ⟨rfl, rfl, rfl, rfl⟩) (nf_int _) dX6_takeBetween_54 ?_
          refine i_iload_n hC dX6_takeBetween_57 rfl ?_
          obtain rfl := Option.some.inj hf
          exact i_iret hC dX6_takeBetween_58
        · replace hf := (if_neg c5).symm.trans hf
          exact Mj.to (b_X6_takeBetween_45 hC  hf) trivial
    · replace hf := (if_neg c2).symm.trans hf
      exact Mj.to (b_X6_takeBetween_21 hC  hf) trivial
theorem c_X6_takeBetween {v : EV} {l : Launch} (hst : Stb v) {S : Mem} {x1 x2 : Int32}  {r : Int32 × Mem} (hf : g_X6_takeBetween S x1 x2 = some r) : Con v l yX6_takeBetween cX6_takeBetween 4 (some .int) 5 100 [.ref (eA v (202)), .int x1, .int x2] S (some (.int r.1)) r.2 := con_of (by decide) hst (Nat.le_of_ble_eq_true rfl) (fun p e s m args below meth c hC => b_X6_takeBetween_0 hC  hf)
def f_X6_takeSign_14 (S : Mem) (xt0 : Int32) : Option (Int32 × Mem) := ck (isb xt0) (some (xt0, S))
def f_X6_takeSign_0 (S : Mem) (x1 : Int32) : Option (Int32 × Mem) := bd2 (g_X6_takeBetween S x1 x1) (fun r1 S1 => (if r1 < 0 then f_X6_takeSign_14 S1 (0 : Int32) else f_X6_takeSign_14 S1 (1 : Int32)))
def g_X6_takeSign (S : Mem) (x1 : Int32) : Option (Int32 × Mem) := f_X6_takeSign_0 S x1
set_option maxHeartbeats 4000000 in
set_option maxRecDepth 100000 in
theorem b_X6_takeSign_14 {v : EV} {p : Program} {l : Launch} {e : Env} {s : State} {m : MethodId} {args : Array Value} {below : List Frame} {meth : Method} {c : Code} (hC : Cx v p l e s m args meth c RX6 cX6_takeSign 2 (some .boolean)) {S : Mem} {xt0 : Int32}  {r : Int32 × Mem} (hf : f_X6_takeSign_14 S xt0 = some r) : Mj v p l e (rmF 6 123) s m args below meth c 2 (MQ below (Qc v (some (.int r.1)) r.2) args s 0 0 (eG v)) 0 S 14 [] [.int xt0] := by
  obtain ⟨k3, hf⟩ := ck_of hf
  obtain rfl := Option.some.inj hf
  exact i_zret hC dX6_takeSign_14 (isb_z k3).1
set_option maxHeartbeats 4000000 in
set_option maxRecDepth 100000 in
theorem b_X6_takeSign_0 {v : EV} {p : Program} {l : Launch} {e : Env} {s : State} {m : MethodId} {args : Array Value} {below : List Frame} {meth : Method} {c : Code} (hC : Cx v p l e s m args meth c RX6 cX6_takeSign 2 (some .boolean)) {S : Mem} {x1 : Int32}  {r : Int32 × Mem} (hf : f_X6_takeSign_0 S x1 = some r) : Mj v p l e (rmF 6 123) s m args below meth c 2 (MQ below (Qc v (some (.int r.1)) r.2) args s 0 0 (eG v)) 0 S 0 [(0, .ref (eA v (202))), (1, .int x1)] [] := by
  refine i_aload_n hC dX6_takeSign_0 rfl ?_
  refine i_iload_n hC dX6_takeSign_1 rfl ?_
  refine i_iload_n hC dX6_takeSign_2 rfl ?_
  obtain ⟨r1, S1, hc1, hf⟩ := bd2_of hf
  refine i_callVi hC mv_X6_122 (c_X6_takeBetween hC.2.2.2.2.2.2.2.1 hc1) (pln rfl) (lay_p202) rfl rfl rfl rfl ⟨Nat.le_of_ble_eq_true rfl, Nat.le_of_ble_eq_true rfl⟩ (Nat.le_of_ble_eq_true rfl) dX6_takeSign_3 ?_
  refine i_if_lt hC (tgt := 13) dX6_takeSign_6 (by decide) (fun c2 => ?_) (fun c2 => ?_)
  · replace hf := (if_pos c2).symm.trans hf
    refine i_iconst hC dX6_takeSign_13 li_0 ?_
    exact Mj.to (b_X6_takeSign_14 hC  hf) trivial
  · replace hf := (if_neg c2).symm.trans hf
    refine i_iconst hC dX6_takeSign_9 li_1 ?_
    refine i_goto hC (tgt := 14) dX6_takeSign_10 (by decide) ?_
    exact Mj.to (b_X6_takeSign_14 hC  hf) trivial
theorem c_X6_takeSign {v : EV} {l : Launch} (hst : Stb v) {S : Mem} {x1 : Int32}  {r : Int32 × Mem} (hf : g_X6_takeSign S x1 = some r) : Con v l yX6_takeSign cX6_takeSign 2 (some .boolean) 6 123 [.ref (eA v (202)), .int x1] S (some (.int r.1)) r.2 := con_of (by decide) hst (Nat.le_of_ble_eq_true rfl) (fun p e s m args below meth c hC => b_X6_takeSign_0 hC  hf)
def f_X6_takeLetter_24 (S : Mem) (xt0 : Int32) : Option (Int32 × Mem) := ck (isb xt0) (some (xt0, S))
def f_X6_takeLetter_0 (S : Mem) (d1_0 : Nat) : Option (Int32 × Mem) := bd2 (g_X6_takeBetween S (97 : Int32) (122 : Int32)) (fun r1 S1 => (if ((up S1 12 (3 * d1_0 + 2) r1) 12 (3 * d1_0 + 2)) < 0 then f_X6_takeLetter_24 (up S1 12 (3 * d1_0 + 2) r1) (0 : Int32) else f_X6_takeLetter_24 (up S1 12 (3 * d1_0 + 2) r1) (1 : Int32)))
def g_X6_takeLetter (S : Mem) (d1_0 : Nat) : Option (Int32 × Mem) := f_X6_takeLetter_0 S d1_0
set_option maxHeartbeats 4000000 in
set_option maxRecDepth 100000 in
theorem b_X6_takeLetter_24 {v : EV} {p : Program} {l : Launch} {e : Env} {s : State} {m : MethodId} {args : Array Value} {below : List Frame} {meth : Method} {c : Code} (hC : Cx v p l e s m args meth c RX6 cX6_takeLetter 2 (some .boolean)) {S : Mem} {xt0 : Int32}  {r : Int32 × Mem} (hf : f_X6_takeLetter_24 S xt0 = some r) : Mj v p l e (rmF 6 123) s m args below meth c 2 (MQ below (Qc v (some (.int r.1)) r.2) args s 0 0 (eG v)) 0 S 24 [] [.int xt0] := by
  obtain ⟨k3, hf⟩ := ck_of hf
  obtain rfl := Option.some.inj hf
  exact i_zret hC dX6_takeLetter_24 (isb_z k3).1
set_option maxHeartbeats 4000000 in
set_option maxRecDepth 100000 in
theorem b_X6_takeLetter_0 {v : EV} {p : Program} {l : Launch} {e : Env} {s : State} {m : MethodId} {args : Array Value} {below : List Frame} {meth : Method} {c : Code} (hC : Cx v p l e s m args meth c RX6 cX6_takeLetter 2 (some .boolean)) {S : Mem} {d1_0 : Nat} (h1 : d1_0 < 12) {r : Int32 × Mem} (hf : f_X6_takeLetter_0 S d1_0 = some r) : Mj v p l e (rmF 6 123) s m args below meth c 2 (MQ below (Qc v (some (.int r.1)) r.2) args s 0 0 (eG v)) 0 S 0 [(0, .ref (eA v (202))), (1, .ref (eA v (pC d1_0)))] [] := by
  refine i_aload_n hC dX6_takeLetter_0 rfl ?_
  refine i_aload_n hC dX6_takeLetter_1 rfl ?_
  refine i_bipush hC dX6_takeLetter_2 lb_97 ?_
  refine i_bipush hC dX6_takeLetter_4 lb_122 ?_
  obtain ⟨r1, S1, hc1, hf⟩ := bd2_of hf
  refine i_callVi hC mv_X6_122 (c_X6_takeBetween hC.2.2.2.2.2.2.2.1 hc1) (pln rfl) (lay_p202) rfl rfl rfl rfl ⟨Nat.le_of_ble_eq_true rfl, Nat.le_of_ble_eq_true rfl⟩ (Nat.le_of_ble_eq_true rfl) dX6_takeLetter_6 ?_
  refine i_putI hC fl_X6_60 (pl_C h1) (lay_C h1) rfl (bk_l ⟨rfl, rfl, rfl, rfl⟩) (nf_int _) dX6_takeLetter_9 ?_
  refine i_aload_n hC dX6_takeLetter_12 rfl ?_
  refine i_getI hC fl_X6_60 (pl_C h1) (lay_C h1) rfl dX6_takeLetter_13 ?_
  refine i_if_lt hC (tgt := 23) dX6_takeLetter_16 (by decide) (fun c2 => ?_) (fun c2 => ?_)
  · replace hf := (if_pos c2).symm.trans hf
    refine i_iconst hC dX6_takeLetter_23 li_0 ?_
    exact Mj.to (b_X6_takeLetter_24 hC  hf) trivial
  · replace hf := (if_neg c2).symm.trans hf
    refine i_iconst hC dX6_takeLetter_19 li_1 ?_
    refine i_goto hC (tgt := 24) dX6_takeLetter_20 (by decide) ?_
    exact Mj.to (b_X6_takeLetter_24 hC  hf) trivial
theorem c_X6_takeLetter {v : EV} {l : Launch} (hst : Stb v) {S : Mem} {d1_0 : Nat} (h1 : d1_0 < 12) {r : Int32 × Mem} (hf : g_X6_takeLetter S d1_0 = some r) : Con v l yX6_takeLetter cX6_takeLetter 2 (some .boolean) 6 123 [.ref (eA v (202)), .ref (eA v (pC d1_0))] S (some (.int r.1)) r.2 := con_of (by decide) hst (Nat.le_of_ble_eq_true rfl) (fun p e s m args below meth c hC => b_X6_takeLetter_0 hC h1 hf)
def f_X6_empty_0 (S : Mem)  : Option (Mem) := ck (sbset S 0) (some (setl S 0))
def g_X6_empty (S : Mem)  : Option (Mem) := f_X6_empty_0 S
set_option maxHeartbeats 4000000 in
set_option maxRecDepth 100000 in
theorem b_X6_empty_0 {v : EV} {p : Program} {l : Launch} {e : Env} {s : State} {m : MethodId} {args : Array Value} {below : List Frame} {meth : Method} {c : Code} (hC : Cx v p l e s m args meth c RX6 cX6_empty 1 none) {S : Mem}  {r : Mem} (hf : f_X6_empty_0 S = some r) : Mj v p l e (rmF 7 144) s m args below meth c 1 (MQ below (Qc v (none) r) args s 0 0 (eG v)) 0 S 0 [(0, .ref (eA v (202)))] [] := by
  refine i_aload_n hC dX6_empty_0 rfl ?_
  refine i_getR (x := pB 0) hC fl_X6_12 (pln rfl) (lay_p202) rfl dX6_empty_1 ?_
  refine i_iconst hC dX6_empty_4 li_0 ?_
  obtain ⟨k1, hf⟩ := ck_of hf
  refine i_sbSet hC (by decide) mv_X6_33 k1 ⟨Nat.le_of_ble_eq_true rfl, Nat.le_of_ble_eq_true rfl⟩ (Nat.le_of_ble_eq_true rfl) dX6_empty_5 ?_
  obtain rfl := Option.some.inj hf
  exact i_vret hC dX6_empty_8
theorem c_X6_empty {v : EV} {l : Launch} (hst : Stb v) {S : Mem}  {r : Mem} (hf : g_X6_empty S = some r) : Con v l yX6_empty cX6_empty 1 none 7 144 [.ref (eA v (202))] S (none) r := con_of (by decide) hst (Nat.le_of_ble_eq_true rfl) (fun p e s m args below meth c hC => b_X6_empty_0 hC  hf)
def f_X8_append_23 (S : Mem) (xt0 : Int32) : Option (Int32 × Mem) := some (xt0, S)
def f_X8_append_0 (S : Mem) (x1 : Int32) : Option (Int32 × Mem) := bd2 (g_X6_add S x1) (fun r1 S1 => (if r1 = 0 then f_X8_append_23 S1 (-2 : Int32) else bd1 (g_X6_size S1) (fun r4 => f_X8_append_23 S1 r4)))
def g_X8_append (S : Mem) (x1 : Int32) : Option (Int32 × Mem) := f_X8_append_0 S x1
set_option maxHeartbeats 4000000 in
set_option maxRecDepth 100000 in
theorem b_X8_append_23 {v : EV} {p : Program} {l : Launch} {e : Env} {s : State} {m : MethodId} {args : Array Value} {below : List Frame} {meth : Method} {c : Code} (hC : Cx v p l e s m args meth c RX8 cX8_append 2 (some .int)) {S : Mem} {xt0 : Int32}  {qb : Nat} (hq : 0 ≤ qb) {r : Int32 × Mem} (hf : f_X8_append_23 S xt0 = some r) : Mj v p l e (rmK 1 8 165) s m args below meth c 2 (MQ below (Qc v (some (.int r.1)) r.2) args s 1 (160 * 1) (eG v)) qb S 23 [] [.int xt0] := by
  obtain rfl := Option.some.inj hf
  exact i_iret hC dX8_append_23
set_option maxHeartbeats 4000000 in
set_option maxRecDepth 100000 in
theorem b_X8_append_0 {v : EV} {p : Program} {l : Launch} {e : Env} {s : State} {m : MethodId} {args : Array Value} {below : List Frame} {meth : Method} {c : Code} (hC : Cx v p l e s m args meth c RX8 cX8_append 2 (some .int)) {S : Mem} {x1 : Int32}  {qb : Nat} (hq : 1 ≤ qb) {r : Int32 × Mem} (hf : f_X8_append_0 S x1 = some r) : Mj v p l e (rmK 1 8 165) s m args below meth c 2 (MQ below (Qc v (some (.int r.1)) r.2) args s 1 (160 * 1) (eG v)) qb S 0 [(0, .ref (eA v (198))), (1, .int x1)] [] := by
  refine i_aload_n hC dX8_append_0 rfl ?_
  refine i_getR hC fl_X8_39 (pln rfl) (lay_p198) rfl dX8_append_1 ?_
  refine i_iload_n hC dX8_append_4 rfl ?_
  obtain ⟨r1, S1, hc1, hf⟩ := bd2_of hf
  obtain ⟨q2, rfl⟩ : ∃ z, qb = z + 1 := ⟨qb - 1, by omega⟩
  refine i_callVi hC mv_X8_63 (c_X6_add hC.2.2.2.2.2.2.2.1 hc1) (pln rfl) (lay_p202) rfl rfl rfl rfl ⟨Nat.le_of_ble_eq_true rfl, Nat.le_of_ble_eq_true rfl⟩ (Nat.le_of_ble_eq_true rfl) dX8_append_5 ?_
  refine i_if_eq hC (tgt := 21) dX8_append_8 (by decide) (fun c3 => ?_) (fun c3 => ?_)
  · replace hf := (if_pos c3).symm.trans hf
    refine i_bipush hC dX8_append_21 lb_m2 ?_
    exact Mj.to (b_X8_append_23 hC (by omega) hf) trivial
  · replace hf := (if_neg c3).symm.trans hf
    refine i_aload_n hC dX8_append_11 rfl ?_
    refine i_getR hC fl_X8_39 (pln rfl) (lay_p198) rfl dX8_append_12 ?_
    obtain ⟨r4, hc4, hf⟩ := bd1_of hf
    refine i_callVi hC mv_X8_67 (c_X6_size hC.2.2.2.2.2.2.2.1 hc4) (pln rfl) (lay_p202) rfl rfl rfl rfl ⟨Nat.le_of_ble_eq_true rfl, Nat.le_of_ble_eq_true rfl⟩ (Nat.le_of_ble_eq_true rfl) dX8_append_15 ?_
    refine i_goto hC (tgt := 23) dX8_append_18 (by decide) ?_
    exact Mj.to (b_X8_append_23 hC (by omega) hf) trivial
theorem c_X8_append {v : EV} {l : Launch} (hst : Stb v) {S : Mem} {x1 : Int32}  {r : Int32 × Mem} (hf : g_X8_append S x1 = some r) : ConK 1 v l yX8_append cX8_append 2 (some .int) 8 165 [.ref (eA v (198)), .int x1] S (some (.int r.1)) r.2 := con_ofK (by decide) hst (Nat.le_of_ble_eq_true rfl) (fun p e s m args below meth c hC => b_X8_append_0 hC  (Nat.le_refl _) hf)
def f_X8_tell_0 (S : Mem) (x1 : Int32) : Option (Int32 × Mem) := bd1 (g_X4_has S 0 x1) (fun r1 => (if r1 = 0 then some ((-1 : Int32), S) else ck (sbset S 1) (ck (inb x1 5) (bd1 (g_X2_writeOn (setl S 1) 0 (x1).toNatClampNeg 1) (fun S5 => some ((S5 (13 + 2 * 1) 0), S5))))))
def g_X8_tell (S : Mem) (x1 : Int32) : Option (Int32 × Mem) := f_X8_tell_0 S x1
set_option maxHeartbeats 4000000 in
set_option maxRecDepth 100000 in
theorem b_X8_tell_0 {v : EV} {p : Program} {l : Launch} {e : Env} {s : State} {m : MethodId} {args : Array Value} {below : List Frame} {meth : Method} {c : Code} (hC : Cx v p l e s m args meth c RX8 cX8_tell 2 (some .int)) {S : Mem} {x1 : Int32}  {qb : Nat} (hq : 43 ≤ qb) {r : Int32 × Mem} (hf : f_X8_tell_0 S x1 = some r) : Mj v p l e (rmK 43 8 168) s m args below meth c 2 (MQ below (Qc v (some (.int r.1)) r.2) args s 43 (160 * 43) (eG v)) qb S 0 [(0, .ref (eA v (198))), (1, .int x1)] [] := by
  refine i_aload_n hC dX8_tell_0 rfl ?_
  refine i_getR (x := pR 0) hC fl_X8_12 (pln rfl) (lay_p198) rfl dX8_tell_1 ?_
  refine i_iload_n hC dX8_tell_4 rfl ?_
  obtain ⟨r1, hc1, hf⟩ := bd1_of hf
  refine i_callVi hC mv_X8_187 (c_X4_has hC.2.2.2.2.2.2.2.1 (by decide) hc1) (pl_R (by decide)) (lay_R (by decide)) rfl rfl rfl rfl ⟨Nat.le_of_ble_eq_true rfl, Nat.le_of_ble_eq_true rfl⟩ (Nat.le_of_ble_eq_true rfl) dX8_tell_5 ?_
  refine i_if_ne hC (tgt := 13) dX8_tell_8 (by decide) (fun c2 => ?_) (fun c2 => ?_)
  · replace hf := (if_neg c2).symm.trans hf
    refine i_aload_n hC dX8_tell_13 rfl ?_
    refine i_getR (x := pB 1) hC fl_X8_46 (pln rfl) (lay_p198) rfl dX8_tell_14 ?_
    refine i_iconst hC dX8_tell_17 li_0 ?_
    obtain ⟨k3, hf⟩ := ck_of hf
    refine i_sbSet hC (by decide) mv_X8_330 k3 ⟨Nat.le_of_ble_eq_true rfl, Nat.le_of_ble_eq_true rfl⟩ (Nat.le_of_ble_eq_true rfl) dX8_tell_18 ?_
    refine i_aload_n hC dX8_tell_21 rfl ?_
    refine i_getR (x := pR 0) hC fl_X8_12 (pln rfl) (lay_p198) rfl dX8_tell_22 ?_
    refine i_getR hC fl_X8_191 (pl_R (by decide)) (lay_R (by decide)) rfl dX8_tell_25 ?_
    refine i_iload_n hC dX8_tell_28 rfl ?_
    obtain ⟨k4, hf⟩ := ck_of hf
    refine i_aald hC (pl_AD (by decide)) (lay_AD (by decide)) (by decide) (inb_in k4) dX8_tell_29 ?_
    refine i_aload_n hC dX8_tell_30 rfl ?_
    refine i_getR (x := pB 1) hC fl_X8_46 (pln rfl) (lay_p198) rfl dX8_tell_31 ?_
    obtain ⟨S5, hc5, hf⟩ := bd1_of hf
    obtain ⟨q6, rfl⟩ : ∃ z, qb = z + 43 := ⟨qb - 43, by omega⟩
    refine i_callVv hC mv_X8_334 (c_X2_writeOn hC.2.2.2.2.2.2.2.1 ⟨(by decide), inb_lt k4⟩ (by decide) hc5) (pl_D ⟨(by decide), inb_lt k4⟩) (lay_D ⟨(by decide), inb_lt k4⟩) rfl rfl rfl rfl ⟨Nat.le_of_ble_eq_true rfl, Nat.le_of_ble_eq_true rfl⟩ (Nat.le_of_ble_eq_true rfl) dX8_tell_34 ?_
    refine i_aload_n hC dX8_tell_37 rfl ?_
    refine i_getR (x := pB 1) hC fl_X8_46 (pln rfl) (lay_p198) rfl dX8_tell_38 ?_
    refine i_sbLen hC (by decide) mv_X8_338 ⟨Nat.le_of_ble_eq_true rfl, Nat.le_of_ble_eq_true rfl⟩ (Nat.le_of_ble_eq_true rfl) dX8_tell_41 ?_
    obtain rfl := Option.some.inj hf
    exact i_iret hC dX8_tell_44
  · replace hf := (if_pos c2).symm.trans hf
    refine i_iconst hC dX8_tell_11 li_m1 ?_
    obtain rfl := Option.some.inj hf
    exact i_iret hC dX8_tell_12
theorem c_X8_tell {v : EV} {l : Launch} (hst : Stb v) {S : Mem} {x1 : Int32}  {r : Int32 × Mem} (hf : g_X8_tell S x1 = some r) : ConK 43 v l yX8_tell cX8_tell 2 (some .int) 8 168 [.ref (eA v (198)), .int x1] S (some (.int r.1)) r.2 := con_ofK (by decide) hst (Nat.le_of_ble_eq_true rfl) (fun p e s m args below meth c hC => b_X8_tell_0 hC  (Nat.le_refl _) hf)
def f_X8_tellVotes_101 (S : Mem)  : Option (Int32 × Mem) := some ((S (13 + 2 * 1) 0), S)
def f_X8_tellVotes_75 (ih23 : (Mem × Int32) → Option (Int32 × Mem)) (S : Mem) (x1 : Int32) (x2 : Int32) : Option (Int32 × Mem) := ih23 (S, (x2 + (1 : Int32)))
def f_X8_tellVotes_66 (ih23 : (Mem × Int32) → Option (Int32 × Mem)) (S : Mem) (x1 : Int32) (x2 : Int32) : Option (Int32 × Mem) := ck (sbapI S 1 x2) (f_X8_tellVotes_75 ih23 (appIn S 1 x2) x1 x2)
def f_X8_tellVotes_23_b (ih23 : (Mem × Int32) → Option (Int32 × Mem)) (S : Mem) (x1 : Int32) (x2 : Int32) : Option (Int32 × Mem) := (if (S 0 1) ≤ x2 then (if (S (13 + 2 * 1) 0) = 0 then ck (sbapC S 1 (45 : Int32)) (f_X8_tellVotes_101 (appCn S 1 (45 : Int32))) else f_X8_tellVotes_101 S) else bd1 (g_X4_hasVoteOf S 0 x1 x2) (fun r8 => (if r8 = 0 then f_X8_tellVotes_75 ih23 S x1 x2 else (if (S (13 + 2 * 1) 0) ≤ 0 then f_X8_tellVotes_66 ih23 S x1 x2 else ck (sbapC S 1 (44 : Int32)) (f_X8_tellVotes_66 ih23 (appCn S 1 (44 : Int32)) x1 x2)))))
def f_X8_tellVotes_23 (S : Mem) (x1 : Int32) (x2 : Int32) : Option (Int32 × Mem) := lp (fun ih23 s9 => f_X8_tellVotes_23_b ih23 s9.1 x1 s9.2) 6 (S, x2)
def f_X8_tellVotes_0 (S : Mem) (x1 : Int32) : Option (Int32 × Mem) := bd1 (g_X4_has S 0 x1) (fun r1 => (if r1 = 0 then some ((-1 : Int32), S) else ck (sbset S 1) (f_X8_tellVotes_23 (setl S 1) x1 (0 : Int32))))
def g_X8_tellVotes (S : Mem) (x1 : Int32) : Option (Int32 × Mem) := f_X8_tellVotes_0 S x1
set_option maxHeartbeats 4000000 in
set_option maxRecDepth 100000 in
theorem b_X8_tellVotes_101 {v : EV} {p : Program} {l : Launch} {e : Env} {s : State} {m : MethodId} {args : Array Value} {below : List Frame} {meth : Method} {c : Code} (hC : Cx v p l e s m args meth c RX8 cX8_tellVotes 3 (some .int)) {S : Mem}  {qb : Nat} (hq : 0 ≤ qb) {r : Int32 × Mem} (hf : f_X8_tellVotes_101 S = some r) : Mj v p l e (rmK 13 7 146) s m args below meth c 3 (MQ below (Qc v (some (.int r.1)) r.2) args s 13 (160 * 13) (eG v)) qb S 101 [(0, .ref (eA v (198)))] [] := by
  refine i_aload_n hC dX8_tellVotes_101 rfl ?_
  refine i_getR (x := pB 1) hC fl_X8_46 (pln rfl) (lay_p198) rfl dX8_tellVotes_102 ?_
  refine i_sbLen hC (by decide) mv_X8_338 ⟨Nat.le_of_ble_eq_true rfl, Nat.le_of_ble_eq_true rfl⟩ (Nat.le_of_ble_eq_true rfl) dX8_tellVotes_105 ?_
  obtain rfl := Option.some.inj hf
  exact i_iret hC dX8_tellVotes_108
set_option maxHeartbeats 4000000 in
set_option maxRecDepth 100000 in
theorem b_X8_tellVotes_75 {v : EV} {p : Program} {l : Launch} {e : Env} {s : State} {m : MethodId} {args : Array Value} {below : List Frame} {meth : Method} {c : Code} (hC : Cx v p l e s m args meth c RX8 cX8_tellVotes 3 (some .int)) {S : Mem} {x1 : Int32} {x2 : Int32}  {n9 : Nat} {qb : Nat} (hq : 1 + 2 * n9 ≤ qb) {r : Int32 × Mem} {ih23 : (Mem × Int32) → Option (Int32 × Mem)} (hih23 : ∀ s9 : (Mem × Int32), ih23 s9 = some r → ∀ qb9 : Nat, 1 + 2 * n9 ≤ qb9 → Mj v p l e (rmK 13 7 146) s m args below meth c 3 (MQ below (Qc v (some (.int r.1)) r.2) args s 13 (160 * 13) (eG v)) qb9 s9.1 23 [(0, .ref (eA v (198))), (1, .int x1), (2, .int (s9.2))] []) (hf : f_X8_tellVotes_75 ih23 S x1 x2 = some r) : Mj v p l e (rmK 13 7 146) s m args below meth c 3 (MQ below (Qc v (some (.int r.1)) r.2) args s 13 (160 * 13) (eG v)) qb S 75 [(0, .ref (eA v (198))), (1, .int x1), (2, .int x2)] [] := by
  refine i_iinc hC dX8_tellVotes_75 rfl li_1 (by decide) ?_
  refine i_goto hC (tgt := 23) dX8_tellVotes_78 (by decide) ?_
  exact Mj.to (hih23 _ hf _ (by omega)) ⟨rfl, rfl, rfl, trivial⟩
set_option maxHeartbeats 4000000 in
set_option maxRecDepth 100000 in
theorem b_X8_tellVotes_66 {v : EV} {p : Program} {l : Launch} {e : Env} {s : State} {m : MethodId} {args : Array Value} {below : List Frame} {meth : Method} {c : Code} (hC : Cx v p l e s m args meth c RX8 cX8_tellVotes 3 (some .int)) {S : Mem} {x1 : Int32} {x2 : Int32}  {n9 : Nat} {qb : Nat} (hq : 2 + 2 * n9 ≤ qb) {r : Int32 × Mem} {ih23 : (Mem × Int32) → Option (Int32 × Mem)} (hih23 : ∀ s9 : (Mem × Int32), ih23 s9 = some r → ∀ qb9 : Nat, 1 + 2 * n9 ≤ qb9 → Mj v p l e (rmK 13 7 146) s m args below meth c 3 (MQ below (Qc v (some (.int r.1)) r.2) args s 13 (160 * 13) (eG v)) qb9 s9.1 23 [(0, .ref (eA v (198))), (1, .int x1), (2, .int (s9.2))] []) (hf : f_X8_tellVotes_66 ih23 S x1 x2 = some r) : Mj v p l e (rmK 13 7 146) s m args below meth c 3 (MQ below (Qc v (some (.int r.1)) r.2) args s 13 (160 * 13) (eG v)) qb S 66 [(0, .ref (eA v (198))), (1, .int x1), (2, .int x2)] [] := by
  refine i_aload_n hC dX8_tellVotes_66 rfl ?_
  refine i_getR (x := pB 1) hC fl_X8_46 (pln rfl) (lay_p198) rfl dX8_tellVotes_67 ?_
  refine i_iload_n hC dX8_tellVotes_70 rfl ?_
  obtain ⟨k11, hf⟩ := ck_of hf
  obtain ⟨q12, rfl⟩ : ∃ z, qb = z + 1 := ⟨qb - 1, by omega⟩
  refine i_sbI (q2 := q12) hC (by decide) mv_X8_348 k11 rfl ⟨Nat.le_of_ble_eq_true rfl, Nat.le_of_ble_eq_true rfl⟩ (Nat.le_of_ble_eq_true rfl) dX8_tellVotes_71 ?_
  refine i_pop hC dX8_tellVotes_74 rfl ?_
  exact Mj.to (b_X8_tellVotes_75 hC (by omega) hih23 hf) ⟨rfl, rfl, rfl, trivial⟩
set_option maxHeartbeats 4000000 in
set_option maxRecDepth 100000 in
theorem b_X8_tellVotes_23_b {v : EV} {p : Program} {l : Launch} {e : Env} {s : State} {m : MethodId} {args : Array Value} {below : List Frame} {meth : Method} {c : Code} (hC : Cx v p l e s m args meth c RX8 cX8_tellVotes 3 (some .int)) {S : Mem} {x1 : Int32} {x2 : Int32}  {n9 qb : Nat} (hq : 1 + 2 * (n9 + 1) ≤ qb) {r : Int32 × Mem} {ih23 : (Mem × Int32) → Option (Int32 × Mem)} (hih23 : ∀ s9 : (Mem × Int32), ih23 s9 = some r → ∀ qb9 : Nat, 1 + 2 * n9 ≤ qb9 → Mj v p l e (rmK 13 7 146) s m args below meth c 3 (MQ below (Qc v (some (.int r.1)) r.2) args s 13 (160 * 13) (eG v)) qb9 s9.1 23 [(0, .ref (eA v (198))), (1, .int x1), (2, .int (s9.2))] []) (hf : f_X8_tellVotes_23_b ih23 S x1 x2 = some r) : Mj v p l e (rmK 13 7 146) s m args below meth c 3 (MQ below (Qc v (some (.int r.1)) r.2) args s 13 (160 * 13) (eG v)) qb S 23 [(0, .ref (eA v (198))), (1, .int x1), (2, .int x2)] [] := by
  refine i_iload_n hC dX8_tellVotes_23 rfl ?_
  refine i_aload_n hC dX8_tellVotes_24 rfl ?_
  refine i_getR (x := pR 0) hC fl_X8_12 (pln rfl) (lay_p198) rfl dX8_tellVotes_25 ?_
  refine i_getI hC fl_X8_54 (pl_R (by decide)) (lay_R (by decide)) rfl dX8_tellVotes_28 ?_
  refine i_icmp_ge hC (tgt := 81) dX8_tellVotes_31 (by decide) (fun c4 => ?_) (fun c4 => ?_)
  · replace hf := (if_pos c4).symm.trans hf
    refine i_aload_n hC dX8_tellVotes_81 rfl ?_
    refine i_getR (x := pB 1) hC fl_X8_46 (pln rfl) (lay_p198) rfl dX8_tellVotes_82 ?_
    refine i_sbLen hC (by decide) mv_X8_338 ⟨Nat.le_of_ble_eq_true rfl, Nat.le_of_ble_eq_true rfl⟩ (Nat.le_of_ble_eq_true rfl) dX8_tellVotes_85 ?_
    refine i_if_ne hC (tgt := 101) dX8_tellVotes_88 (by decide) (fun c5 => ?_) (fun c5 => ?_)
    · replace hf := (if_neg c5).symm.trans hf
      exact Mj.to (b_X8_tellVotes_101 hC (by omega) hf) ⟨rfl, trivial⟩
    · replace hf := (if_pos c5).symm.trans hf
      refine i_aload_n hC dX8_tellVotes_91 rfl ?_
      refine i_getR (x := pB 1) hC fl_X8_46 (pln rfl) (lay_p198) rfl dX8_tellVotes_92 ?_
      refine i_bipush hC dX8_tellVotes_95 lb_45 ?_
      obtain ⟨k6, hf⟩ := ck_of hf
      obtain ⟨q7, rfl⟩ : ∃ z, qb = z + 1 := ⟨qb - 1, by omega⟩
      refine i_sbC (q2 := q7) hC (by decide) mv_X8_344 k6 rfl ⟨Nat.le_of_ble_eq_true rfl, Nat.le_of_ble_eq_true rfl⟩ (Nat.le_of_ble_eq_true rfl) dX8_tellVotes_97 ?_
      refine i_pop hC dX8_tellVotes_100 rfl ?_
      exact Mj.to (b_X8_tellVotes_101 hC (by omega) hf) ⟨rfl, trivial⟩
  · replace hf := (if_neg c4).symm.trans hf
    refine i_aload_n hC dX8_tellVotes_34 rfl ?_
    refine i_getR (x := pR 0) hC fl_X8_12 (pln rfl) (lay_p198) rfl dX8_tellVotes_35 ?_
    refine i_iload_n hC dX8_tellVotes_38 rfl ?_
    refine i_iload_n hC dX8_tellVotes_39 rfl ?_
    obtain ⟨r8, hc8, hf⟩ := bd1_of hf
    refine i_callVi hC mv_X8_341 (c_X4_hasVoteOf hC.2.2.2.2.2.2.2.1 (by decide) hc8) (pl_R (by decide)) (lay_R (by decide)) rfl rfl rfl rfl ⟨Nat.le_of_ble_eq_true rfl, Nat.le_of_ble_eq_true rfl⟩ (Nat.le_of_ble_eq_true rfl) dX8_tellVotes_40 ?_
    refine i_if_eq hC (tgt := 75) dX8_tellVotes_43 (by decide) (fun c9 => ?_) (fun c9 => ?_)
    · replace hf := (if_pos c9).symm.trans hf
      exact Mj.to (b_X8_tellVotes_75 hC (by omega) hih23 hf) ⟨rfl, rfl, rfl, trivial⟩
    · replace hf := (if_neg c9).symm.trans hf
      refine i_aload_n hC dX8_tellVotes_46 rfl ?_
      refine i_getR (x := pB 1) hC fl_X8_46 (pln rfl) (lay_p198) rfl dX8_tellVotes_47 ?_
      refine i_sbLen hC (by decide) mv_X8_338 ⟨Nat.le_of_ble_eq_true rfl, Nat.le_of_ble_eq_true rfl⟩ (Nat.le_of_ble_eq_true rfl) dX8_tellVotes_50 ?_
      refine i_if_le hC (tgt := 66) dX8_tellVotes_53 (by decide) (fun c10 => ?_) (fun c10 => ?_)
      · replace hf := (if_pos c10).symm.trans hf
        exact Mj.to (b_X8_tellVotes_66 hC (by omega) hih23 hf) ⟨rfl, rfl, rfl, trivial⟩
      · replace hf := (if_neg c10).symm.trans hf
        refine i_aload_n hC dX8_tellVotes_56 rfl ?_
        refine i_getR (x := pB 1) hC fl_X8_46 (pln rfl) (lay_p198) rfl dX8_tellVotes_57 ?_
        refine i_bipush hC dX8_tellVotes_60 lb_44 ?_
        obtain ⟨k13, hf⟩ := ck_of hf
        obtain ⟨q14, rfl⟩ : ∃ z, qb = z + 1 := ⟨qb - 1, by omega⟩
        refine i_sbC (q2 := q14) hC (by decide) mv_X8_344 k13 rfl ⟨Nat.le_of_ble_eq_true rfl, Nat.le_of_ble_eq_true rfl⟩ (Nat.le_of_ble_eq_true rfl) dX8_tellVotes_62 ?_
        refine i_pop hC dX8_tellVotes_65 rfl ?_
        exact Mj.to (b_X8_tellVotes_66 hC (by omega) hih23 hf) ⟨rfl, rfl, rfl, trivial⟩
theorem b_X8_tellVotes_23 {v : EV} {p : Program} {l : Launch} {e : Env} {s : State} {m : MethodId} {args : Array Value} {below : List Frame} {meth : Method} {c : Code} (hC : Cx v p l e s m args meth c RX8 cX8_tellVotes 3 (some .int)) {S : Mem} {x1 : Int32} {x2 : Int32}  {qb : Nat} (hq : 13 ≤ qb) {r : Int32 × Mem} (hf : f_X8_tellVotes_23 S x1 x2 = some r) : Mj v p l e (rmK 13 7 146) s m args below meth c 3 (MQ below (Qc v (some (.int r.1)) r.2) args s 13 (160 * 13) (eG v)) qb S 23 [(0, .ref (eA v (198))), (1, .int x1), (2, .int x2)] [] :=
  lp_indK (P := fun n9 (s9 : (Mem × Int32)) => ∀ qb : Nat, 1 + 2 * n9 ≤ qb → Mj v p l e (rmK 13 7 146) s m args below meth c 3 (MQ below (Qc v (some (.int r.1)) r.2) args s 13 (160 * 13) (eG v)) qb s9.1 23 [(0, .ref (eA v (198))), (1, .int x1), (2, .int (s9.2))] []) (fun n9 ih s9 hih hf qb hq => b_X8_tellVotes_23_b hC  hq hih hf) 6 _ hf qb (by omega)
set_option maxHeartbeats 4000000 in
set_option maxRecDepth 100000 in
theorem b_X8_tellVotes_0 {v : EV} {p : Program} {l : Launch} {e : Env} {s : State} {m : MethodId} {args : Array Value} {below : List Frame} {meth : Method} {c : Code} (hC : Cx v p l e s m args meth c RX8 cX8_tellVotes 3 (some .int)) {S : Mem} {x1 : Int32}  {qb : Nat} (hq : 13 ≤ qb) {r : Int32 × Mem} (hf : f_X8_tellVotes_0 S x1 = some r) : Mj v p l e (rmK 13 7 146) s m args below meth c 3 (MQ below (Qc v (some (.int r.1)) r.2) args s 13 (160 * 13) (eG v)) qb S 0 [(0, .ref (eA v (198))), (1, .int x1)] [] := by
  refine i_aload_n hC dX8_tellVotes_0 rfl ?_
  refine i_getR (x := pR 0) hC fl_X8_12 (pln rfl) (lay_p198) rfl dX8_tellVotes_1 ?_
  refine i_iload_n hC dX8_tellVotes_4 rfl ?_
  obtain ⟨r1, hc1, hf⟩ := bd1_of hf
  refine i_callVi hC mv_X8_187 (c_X4_has hC.2.2.2.2.2.2.2.1 (by decide) hc1) (pl_R (by decide)) (lay_R (by decide)) rfl rfl rfl rfl ⟨Nat.le_of_ble_eq_true rfl, Nat.le_of_ble_eq_true rfl⟩ (Nat.le_of_ble_eq_true rfl) dX8_tellVotes_5 ?_
  refine i_if_ne hC (tgt := 13) dX8_tellVotes_8 (by decide) (fun c2 => ?_) (fun c2 => ?_)
  · replace hf := (if_neg c2).symm.trans hf
    refine i_aload_n hC dX8_tellVotes_13 rfl ?_
    refine i_getR (x := pB 1) hC fl_X8_46 (pln rfl) (lay_p198) rfl dX8_tellVotes_14 ?_
    refine i_iconst hC dX8_tellVotes_17 li_0 ?_
    obtain ⟨k3, hf⟩ := ck_of hf
    refine i_sbSet hC (by decide) mv_X8_330 k3 ⟨Nat.le_of_ble_eq_true rfl, Nat.le_of_ble_eq_true rfl⟩ (Nat.le_of_ble_eq_true rfl) dX8_tellVotes_18 ?_
    refine i_iconst hC dX8_tellVotes_21 li_0 ?_
    refine i_istore_n hC dX8_tellVotes_22 (by decide) ?_
    exact Mj.to (b_X8_tellVotes_23 hC (by omega) hf) ⟨rfl, rfl, rfl, trivial⟩
  · replace hf := (if_pos c2).symm.trans hf
    refine i_iconst hC dX8_tellVotes_11 li_m1 ?_
    obtain rfl := Option.some.inj hf
    exact i_iret hC dX8_tellVotes_12
theorem c_X8_tellVotes {v : EV} {l : Launch} (hst : Stb v) {S : Mem} {x1 : Int32}  {r : Int32 × Mem} (hf : g_X8_tellVotes S x1 = some r) : ConK 13 v l yX8_tellVotes cX8_tellVotes 3 (some .int) 7 146 [.ref (eA v (198)), .int x1] S (some (.int r.1)) r.2 := con_ofK (by decide) hst (Nat.le_of_ble_eq_true rfl) (fun p e s m args below meth c hC => b_X8_tellVotes_0 hC  (Nat.le_refl _) hf)
