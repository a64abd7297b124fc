def f_X9_oldest_118 (ih2 : Int32 → Option (Int32)) (S : Mem) (x1 : Int32) (x2 : Int32) : Option (Int32) := ih2 ((x2 + (1 : Int32)))
def f_X9_oldest_95 (ih2 : Int32 → Option (Int32)) (ih17 : (Int32 × Int32) → Option (Int32)) (S : Mem) (x1 : Int32) (x2 : Int32) (x4 : Int32) (xt0 : Int32) (xt1 : Int32) : Option (Int32) := ih17 ((xt1 + xt0), (x4 + (1 : Int32)))
def f_X9_oldest_94 (ih2 : Int32 → Option (Int32)) (ih17 : (Int32 × Int32) → Option (Int32)) (S : Mem) (x1 : Int32) (x2 : Int32) (x4 : Int32) (xt0 : Int32) : Option (Int32) := f_X9_oldest_95 ih2 ih17 S x1 x2 x4 (0 : Int32) xt0
def f_X9_oldest_67 (ih2 : Int32 → Option (Int32)) (ih17 : (Int32 × Int32) → Option (Int32)) (S : Mem) (x1 : Int32) (x2 : Int32) (x3 : Int32) (x4 : Int32) (xt0 : Int32) : Option (Int32) := (if x4 = x2 then f_X9_oldest_94 ih2 ih17 S x1 x2 x4 x3 else bd1 (g_X9_doesWait S x4) (fun r10 => (if r10 = 0 then f_X9_oldest_94 ih2 ih17 S x1 x2 x4 x3 else (if xt0 = 0 then f_X9_oldest_94 ih2 ih17 S x1 x2 x4 x3 else f_X9_oldest_95 ih2 ih17 S x1 x2 x4 (1 : Int32) x3))))
def f_X9_oldest_62 (ih2 : Int32 → Option (Int32)) (ih17 : (Int32 × Int32) → Option (Int32)) (S : Mem) (x1 : Int32) (x2 : Int32) (x3 : Int32) (x4 : Int32) : Option (Int32) := f_X9_oldest_67 ih2 ih17 S x1 x2 x3 x4 (1 : Int32)
def f_X9_oldest_66 (ih2 : Int32 → Option (Int32)) (ih17 : (Int32 × Int32) → Option (Int32)) (S : Mem) (x1 : Int32) (x2 : Int32) (x3 : Int32) (x4 : Int32) : Option (Int32) := f_X9_oldest_67 ih2 ih17 S x1 x2 x3 x4 (0 : Int32)
def f_X9_oldest_17_b (ih2 : Int32 → Option (Int32)) (ih17 : (Int32 × Int32) → Option (Int32)) (S : Mem) (x1 : Int32) (x2 : Int32) (x3 : Int32) (x4 : Int32) : Option (Int32) := (if (S 20 1) ≤ x4 then bd1 (g_X9_doesWait S x2) (fun r3 => (if r3 = 0 then f_X9_oldest_118 ih2 S x1 x2 else (if x3 = x1 then some x2 else f_X9_oldest_118 ih2 S x1 x2))) else bd1 (g_X9_waitsYet S x4) (fun r6 => bd1 (g_X9_waitsYet S x2) (fun r7 => (if r6 < r7 then f_X9_oldest_62 ih2 ih17 S x1 x2 x3 x4 else bd1 (g_X9_waitsYet S x4) (fun r13 => bd1 (g_X9_waitsYet S x2) (fun r14 => (if r13 = r14 then (if x2 ≤ x4 then f_X9_oldest_66 ih2 ih17 S x1 x2 x3 x4 else f_X9_oldest_62 ih2 ih17 S x1 x2 x3 x4) else f_X9_oldest_66 ih2 ih17 S x1 x2 x3 x4)))))))
def f_X9_oldest_17 (ih2 : Int32 → Option (Int32)) (S : Mem) (x1 : Int32) (x2 : Int32) (x3 : Int32) (x4 : Int32) : Option (Int32) := lp (fun ih17 s9 => f_X9_oldest_17_b ih2 ih17 S x1 x2 s9.1 s9.2) 2000 (x3, x4)
def f_X9_oldest_2_b (ih2 : Int32 → Option (Int32)) (S : Mem) (x1 : Int32) (x2 : Int32) : Option (Int32) := (if (S 20 1) ≤ x2 then some (-1 : Int32) else f_X9_oldest_17 ih2 S x1 x2 (0 : Int32) (0 : Int32))
def f_X9_oldest_2 (S : Mem) (x1 : Int32) (x2 : Int32) : Option (Int32) := lp (fun ih2 s9 => f_X9_oldest_2_b ih2 S x1 s9) 2000 (x2)
def f_X9_oldest_0 (S : Mem) (x1 : Int32) : Option (Int32) := f_X9_oldest_2 S x1 (0 : Int32)
def g_X9_oldest (S : Mem) (x1 : Int32) : Option (Int32) := f_X9_oldest_0 S x1
set_option maxHeartbeats 4000000 in
set_option maxRecDepth 100000 in
theorem b_X9_oldest_118 {v : EV} {p : Program} {l : Launch} {e : Env} {s : State} {m : MethodId} {args : Array Value} {below : List Frame} {meth : Method} {c : Code} (hC : Cx v p l e s m args meth c RX9 cX9_oldest 6 (some .int)) {S : Mem} {x1 : Int32} {x2 : Int32}  {r : Int32} {ih2 : Int32 → Option (Int32)} (hih2 : ∀ s9 : Int32, ih2 s9 = some r → Mj v p l e (rmF 5 97) s m args below meth c 6 (MQ below (Qc v (some (.int r)) S) args s 0 0 (eG v)) 0 S 2 [(0, .ref (eA v (218))), (1, .int x1), (2, .int (s9))] []) (hf : f_X9_oldest_118 ih2 S x1 x2 = some r) : Mj v p l e (rmF 5 97) s m args below meth c 6 (MQ below (Qc v (some (.int r)) S) args s 0 0 (eG v)) 0 S 118 [(0, .ref (eA v (218))), (1, .int x1), (2, .int x2)] [] := by
  refine i_iinc hC dX9_oldest_118 rfl li_1 (by decide) ?_
  refine i_goto hC (tgt := 2) dX9_oldest_121 (by decide) ?_
  exact Mj.to (hih2 _ hf) ⟨rfl, rfl, rfl, trivial⟩
set_option maxHeartbeats 4000000 in
set_option maxRecDepth 100000 in
theorem b_X9_oldest_95 {v : EV} {p : Program} {l : Launch} {e : Env} {s : State} {m : MethodId} {args : Array Value} {below : List Frame} {meth : Method} {c : Code} (hC : Cx v p l e s m args meth c RX9 cX9_oldest 6 (some .int)) {S : Mem} {x1 : Int32} {x2 : Int32} {x4 : Int32} {xt0 : Int32} {xt1 : Int32}  {r : Int32} {ih2 : Int32 → Option (Int32)} (hih2 : ∀ s9 : Int32, ih2 s9 = some r → Mj v p l e (rmF 5 97) s m args below meth c 6 (MQ below (Qc v (some (.int r)) S) args s 0 0 (eG v)) 0 S 2 [(0, .ref (eA v (218))), (1, .int x1), (2, .int (s9))] []) {ih17 : (Int32 × Int32) → Option (Int32)} (hih17 : ∀ s9 : (Int32 × Int32), ih17 s9 = some r → Mj v p l e (rmF 5 97) s m args below meth c 6 (MQ below (Qc v (some (.int r)) S) args s 0 0 (eG v)) 0 S 17 [(0, .ref (eA v (218))), (1, .int x1), (2, .int x2), (3, .int (s9.1)), (4, .int (s9.2))] []) (hf : f_X9_oldest_95 ih2 ih17 S x1 x2 x4 xt0 xt1 = some r) : Mj v p l e (rmF 5 97) s m args below meth c 6 (MQ below (Qc v (some (.int r)) S) args s 0 0 (eG v)) 0 S 95 [(0, .ref (eA v (218))), (1, .int x1), (2, .int x2), (4, .int x4)] [.int xt0, .int xt1] := by
  refine i_iadd hC dX9_oldest_95 ?_
  refine i_istore_n hC dX9_oldest_96 (by decide) ?_
  refine i_iinc hC dX9_oldest_97 rfl li_1 (by decide) ?_
  refine i_goto hC (tgt := 17) dX9_oldest_100 (by decide) ?_
  exact Mj.to (hih17 _ hf) ⟨rfl, rfl, rfl, rfl, rfl, trivial⟩
set_option maxHeartbeats 4000000 in
set_option maxRecDepth 100000 in
theorem b_X9_oldest_94 {v : EV} {p : Program} {l : Launch} {e : Env} {s : State} {m : MethodId} {args : Array Value} {below : List Frame} {meth : Method} {c : Code} (hC : Cx v p l e s m args meth c RX9 cX9_oldest 6 (some .int)) {S : Mem} {x1 : Int32} {x2 : Int32} {x4 : Int32} {xt0 : Int32}  {r : Int32} {ih2 : Int32 → Option (Int32)} (hih2 : ∀ s9 : Int32, ih2 s9 = some r → Mj v p l e (rmF 5 97) s m args below meth c 6 (MQ below (Qc v (some (.int r)) S) args s 0 0 (eG v)) 0 S 2 [(0, .ref (eA v (218))), (1, .int x1), (2, .int (s9))] []) {ih17 : (Int32 × Int32) → Option (Int32)} (hih17 : ∀ s9 : (Int32 × Int32), ih17 s9 = some r → Mj v p l e (rmF 5 97) s m args below meth c 6 (MQ below (Qc v (some (.int r)) S) args s 0 0 (eG v)) 0 S 17 [(0, .ref (eA v (218))), (1, .int x1), (2, .int x2), (3, .int (s9.1)), (4, .int (s9.2))] []) (hf : f_X9_oldest_94 ih2 ih17 S x1 x2 x4 xt0 = some r) : Mj v p l e (rmF 5 97) s m args below meth c 6 (MQ below (Qc v (some (.int r)) S) args s 0 0 (eG v)) 0 S 94 [(0, .ref (eA v (218))), (1, .int x1), (2, .int x2), (4, .int x4)] [.int xt0] := by
  refine i_iconst hC dX9_oldest_94 li_0 ?_
  exact Mj.to (b_X9_oldest_95 hC hih2 hih17 hf) ⟨rfl, rfl, rfl, rfl, trivial⟩
set_option maxHeartbeats 4000000 in
set_option maxRecDepth 100000 in
theorem b_X9_oldest_67 {v : EV} {p : Program} {l : Launch} {e : Env} {s : State} {m : MethodId} {args : Array Value} {below : List Frame} {meth : Method} {c : Code} (hC : Cx v p l e s m args meth c RX9 cX9_oldest 6 (some .int)) {S : Mem} {x1 : Int32} {x2 : Int32} {x3 : Int32} {x4 : Int32} {xt0 : Int32}  {r : Int32} {ih2 : Int32 → Option (Int32)} (hih2 : ∀ s9 : Int32, ih2 s9 = some r → Mj v p l e (rmF 5 97) s m args below meth c 6 (MQ below (Qc v (some (.int r)) S) args s 0 0 (eG v)) 0 S 2 [(0, .ref (eA v (218))), (1, .int x1), (2, .int (s9))] []) {ih17 : (Int32 × Int32) → Option (Int32)} (hih17 : ∀ s9 : (Int32 × Int32), ih17 s9 = some r → Mj v p l e (rmF 5 97) s m args below meth c 6 (MQ below (Qc v (some (.int r)) S) args s 0 0 (eG v)) 0 S 17 [(0, .ref (eA v (218))), (1, .int x1), (2, .int x2), (3, .int (s9.1)), (4, .int (s9.2))] []) (hf : f_X9_oldest_67 ih2 ih17 S x1 x2 x3 x4 xt0 = some r) : Mj v p l e (rmF 5 97) s m args below meth c 6 (MQ below (Qc v (some (.int r)) S) args s 0 0 (eG v)) 0 S 67 [(0, .ref (eA v (218))), (1, .int x1), (2, .int x2), (3, .int x3), (4, .int x4)] [.int xt0] := by
  refine i_istore hC dX9_oldest_67 (by decide) ?_
  refine i_iload_n hC dX9_oldest_69 rfl ?_
  refine i_iload hC dX9_oldest_70 rfl ?_
  refine i_iload_n hC dX9_oldest_72 rfl ?_
  refine i_icmp_eq hC (tgt := 94) dX9_oldest_73 (by decide) (fun c9 => ?_) (fun c9 => ?_)
  · replace hf := (if_pos c9).symm.trans hf
    exact Mj.to (b_X9_oldest_94 hC hih2 hih17 hf) ⟨rfl, rfl, rfl, rfl, trivial⟩
  · replace hf := (if_neg c9).symm.trans hf
    refine i_aload_n hC dX9_oldest_76 rfl ?_
    refine i_iload hC dX9_oldest_77 rfl ?_
    obtain ⟨r10, hc10, hf⟩ := bd1_of hf
    refine i_callVi hC mv_X9_279 (c_X9_doesWait hC.2.2.2.2.2.2.2.1 hc10) (pln rfl) (lay_p218) rfl rfl rfl rfl ⟨Nat.le_of_ble_eq_true rfl, Nat.le_of_ble_eq_true rfl⟩ (Nat.le_of_ble_eq_true rfl) dX9_oldest_79 ?_
    refine i_if_eq hC (tgt := 94) dX9_oldest_82 (by decide) (fun c11 => ?_) (fun c11 => ?_)
    · replace hf := (if_pos c11).symm.trans hf
      exact Mj.to (b_X9_oldest_94 hC hih2 hih17 hf) ⟨rfl, rfl, rfl, rfl, trivial⟩
    · replace hf := (if_neg c11).symm.trans hf
      refine i_iload hC dX9_oldest_85 rfl ?_
      refine i_if_eq hC (tgt := 94) dX9_oldest_87 (by decide) (fun c12 => ?_) (fun c12 => ?_)
      · replace hf := (if_pos c12).symm.trans hf
        exact Mj.to (b_X9_oldest_94 hC hih2 hih17 hf) ⟨rfl, rfl, rfl, rfl, trivial⟩
      · replace hf := (if_neg c12).symm.trans hf
        refine i_iconst hC dX9_oldest_90 li_1 ?_
        refine i_goto hC (tgt := 95) dX9_oldest_91 (by decide) ?_
        exact Mj.to (b_X9_oldest_95 hC hih2 hih17 hf) ⟨rfl, rfl, rfl, rfl, trivial⟩
set_option maxHeartbeats 4000000 in
set_option maxRecDepth 100000 in
theorem b_X9_oldest_62 {v : EV} {p : Program} {l : Launch} {e : Env} {s : State} {m : MethodId} {args : Array Value} {below : List Frame} {meth : Method} {c : Code} (hC : Cx v p l e s m args meth c RX9 cX9_oldest 6 (some .int)) {S : Mem} {x1 : Int32} {x2 : Int32} {x3 : Int32} {x4 : Int32}  {r : Int32} {ih2 : Int32 → Option (Int32)} (hih2 : ∀ s9 : Int32, ih2 s9 = some r → Mj v p l e (rmF 5 97) s m args below meth c 6 (MQ below (Qc v (some (.int r)) S) args s 0 0 (eG v)) 0 S 2 [(0, .ref (eA v (218))), (1, .int x1), (2, .int (s9))] []) {ih17 : (Int32 × Int32) → Option (Int32)} (hih17 : ∀ s9 : (Int32 × Int32), ih17 s9 = some r → Mj v p l e (rmF 5 97) s m args below meth c 6 (MQ below (Qc v (some (.int r)) S) args s 0 0 (eG v)) 0 S 17 [(0, .ref (eA v (218))), (1, .int x1), (2, .int x2), (3, .int (s9.1)), (4, .int (s9.2))] []) (hf : f_X9_oldest_62 ih2 ih17 S x1 x2 x3 x4 = some r) : Mj v p l e (rmF 5 97) s m args below meth c 6 (MQ below (Qc v (some (.int r)) S) args s 0 0 (eG v)) 0 S 62 [(0, .ref (eA v (218))), (1, .int x1), (2, .int x2), (3, .int x3), (4, .int x4)] [] := by
  refine i_iconst hC dX9_oldest_62 li_1 ?_
  refine i_goto hC (tgt := 67) dX9_oldest_63 (by decide) ?_
  exact Mj.to (b_X9_oldest_67 hC hih2 hih17 hf) ⟨rfl, rfl, rfl, rfl, rfl, trivial⟩
set_option maxHeartbeats 4000000 in
set_option maxRecDepth 100000 in
theorem b_X9_oldest_66 {v : EV} {p : Program} {l : Launch} {e : Env} {s : State} {m : MethodId} {args : Array Value} {below : List Frame} {meth : Method} {c : Code} (hC : Cx v p l e s m args meth c RX9 cX9_oldest 6 (some .int)) {S : Mem} {x1 : Int32} {x2 : Int32} {x3 : Int32} {x4 : Int32}  {r : Int32} {ih2 : Int32 → Option (Int32)} (hih2 : ∀ s9 : Int32, ih2 s9 = some r → Mj v p l e (rmF 5 97) s m args below meth c 6 (MQ below (Qc v (some (.int r)) S) args s 0 0 (eG v)) 0 S 2 [(0, .ref (eA v (218))), (1, .int x1), (2, .int (s9))] []) {ih17 : (Int32 × Int32) → Option (Int32)} (hih17 : ∀ s9 : (Int32 × Int32), ih17 s9 = some r → Mj v p l e (rmF 5 97) s m args below meth c 6 (MQ below (Qc v (some (.int r)) S) args s 0 0 (eG v)) 0 S 17 [(0, .ref (eA v (218))), (1, .int x1), (2, .int x2), (3, .int (s9.1)), (4, .int (s9.2))] []) (hf : f_X9_oldest_66 ih2 ih17 S x1 x2 x3 x4 = some r) : Mj v p l e (rmF 5 97) s m args below meth c 6 (MQ below (Qc v (some (.int r)) S) args s 0 0 (eG v)) 0 S 66 [(0, .ref (eA v (218))), (1, .int x1), (2, .int x2), (3, .int x3), (4, .int x4)] [] := by
  refine i_iconst hC dX9_oldest_66 li_0 ?_
  exact Mj.to (b_X9_oldest_67 hC hih2 hih17 hf) ⟨rfl, rfl, rfl, rfl, rfl, trivial⟩
set_option maxHeartbeats 4000000 in
set_option maxRecDepth 100000 in
theorem b_X9_oldest_17_b {v : EV} {p : Program} {l : Launch} {e : Env} {s : State} {m : MethodId} {args : Array Value} {below : List Frame} {meth : Method} {c : Code} (hC : Cx v p l e s m args meth c RX9 cX9_oldest 6 (some .int)) {S : Mem} {x1 : Int32} {x2 : Int32} {x3 : Int32} {x4 : Int32}  {r : Int32} {ih2 : Int32 → Option (Int32)} (hih2 : ∀ s9 : Int32, ih2 s9 = some r → Mj v p l e (rmF 5 97) s m args below meth c 6 (MQ below (Qc v (some (.int r)) S) args s 0 0 (eG v)) 0 S 2 [(0, .ref (eA v (218))), (1, .int x1), (2, .int (s9))] []) {ih17 : (Int32 × Int32) → Option (Int32)} (hih17 : ∀ s9 : (Int32 × Int32), ih17 s9 = some r → Mj v p l e (rmF 5 97) s m args below meth c 6 (MQ below (Qc v (some (.int r)) S) args s 0 0 (eG v)) 0 S 17 [(0, .ref (eA v (218))), (1, .int x1), (2, .int x2), (3, .int (s9.1)), (4, .int (s9.2))] []) (hf : f_X9_oldest_17_b ih2 ih17 S x1 x2 x3 x4 = some r) : Mj v p l e (rmF 5 97) s m args below meth c 6 (MQ below (Qc v (some (.int r)) S) args s 0 0 (eG v)) 0 S 17 [(0, .ref (eA v (218))), (1, .int x1), (2, .int x2), (3, .int x3), (4, .int x4)] [] := by
  refine i_iload hC dX9_oldest_17 rfl ?_
  refine i_aload_n hC dX9_oldest_19 rfl ?_
  refine i_getR hC fl_X9_9 (pln rfl) (lay_p218) rfl dX9_oldest_20 ?_
  refine i_iconst hC dX9_oldest_23 li_1 ?_
  refine i_iald hC (j0 := 1) (pln rfl) (lay_p219) (inb_in (by decide)) (by decide) dX9_oldest_24 ?_
  refine i_icmp_ge hC (tgt := 103) dX9_oldest_25 (by decide) (fun c2 => ?_) (fun c2 => ?_)
  · replace hf := (if_pos c2).symm.trans hf
    refine i_aload_n hC dX9_oldest_103 rfl ?_
    refine i_iload_n hC dX9_oldest_104 rfl ?_
    obtain ⟨r3, hc3, hf⟩ := bd1_of hf
    refine i_callVi hC mv_X9_279 (c_X9_doesWait hC.2.2.2.2.2.2.2.1 hc3) (pln rfl) (lay_p218) rfl rfl rfl rfl ⟨Nat.le_of_ble_eq_true rfl, Nat.le_of_ble_eq_true rfl⟩ (Nat.le_of_ble_eq_true rfl) dX9_oldest_105 ?_
    refine i_if_eq hC (tgt := 118) dX9_oldest_108 (by decide) (fun c4 => ?_) (fun c4 => ?_)
    · replace hf := (if_pos c4).symm.trans hf
      exact Mj.to (b_X9_oldest_118 hC hih2 hf) ⟨rfl, rfl, rfl, trivial⟩
    · replace hf := (if_neg c4).symm.trans hf
      refine i_iload_n hC dX9_oldest_111 rfl ?_
      refine i_iload_n hC dX9_oldest_112 rfl ?_
      refine i_icmp_ne hC (tgt := 118) dX9_oldest_113 (by decide) (fun c5 => ?_) (fun c5 => ?_)
      · replace hf := (if_neg c5).symm.trans hf
        exact Mj.to (b_X9_oldest_118 hC hih2 hf) ⟨rfl, rfl, rfl, trivial⟩
      · replace hf := (if_pos c5).symm.trans hf
        refine i_iload_n hC dX9_oldest_116 rfl ?_
        obtain rfl := Option.some.inj hf
        exact i_iret hC dX9_oldest_117
  · replace hf := (if_neg c2).symm.trans hf
    refine i_aload_n hC dX9_oldest_28 rfl ?_
    refine i_iload hC dX9_oldest_29 rfl ?_
    obtain ⟨r6, hc6, hf⟩ := bd1_of hf
    refine i_callVi hC mv_X9_276 (c_X9_waitsYet hC.2.2.2.2.2.2.2.1 hc6) (pln rfl) (lay_p218) rfl rfl rfl rfl ⟨Nat.le_of_ble_eq_true rfl, Nat.le_of_ble_eq_true rfl⟩ (Nat.le_of_ble_eq_true rfl) dX9_oldest_31 ?_
    refine i_aload_n hC dX9_oldest_34 rfl ?_
    refine i_iload_n hC dX9_oldest_35 rfl ?_
    obtain ⟨r7, hc7, hf⟩ := bd1_of hf
    refine i_callVi hC mv_X9_276 (c_X9_waitsYet hC.2.2.2.2.2.2.2.1 hc7) (pln rfl) (lay_p218) rfl rfl rfl rfl ⟨Nat.le_of_ble_eq_true rfl, Nat.le_of_ble_eq_true rfl⟩ (Nat.le_of_ble_eq_true rfl) dX9_oldest_36 ?_
    refine i_icmp_lt hC (tgt := 62) dX9_oldest_39 (by decide) (fun c8 => ?_) (fun c8 => ?_)
    · replace hf := (if_pos c8).symm.trans hf
      exact Mj.to (b_X9_oldest_62 hC hih2 hih17 hf) ⟨rfl, rfl, rfl, rfl, rfl, trivial⟩
    · replace hf := (if_neg c8).symm.trans hf
      refine i_aload_n hC dX9_oldest_42 rfl ?_
      refine i_iload hC dX9_oldest_43 rfl ?_
      obtain ⟨r13, hc13, hf⟩ := bd1_of hf
      refine i_callVi hC mv_X9_276 (c_X9_waitsYet hC.2.2.2.2.2.2.2.1 hc13) (pln rfl) (lay_p218) rfl rfl rfl rfl ⟨Nat.le_of_ble_eq_true rfl, Nat.le_of_ble_eq_true rfl⟩ (Nat.le_of_ble_eq_true rfl) dX9_oldest_45 ?_
      refine i_aload_n hC dX9_oldest_48 rfl ?_
      refine i_iload_n hC dX9_oldest_49 rfl ?_
      obtain ⟨r14, hc14, hf⟩ := bd1_of hf
      refine i_callVi hC mv_X9_276 (c_X9_waitsYet hC.2.2.2.2.2.2.2.1 hc14) (pln rfl) (lay_p218) rfl rfl rfl rfl ⟨Nat.le_of_ble_eq_true rfl, Nat.le_of_ble_eq_true rfl⟩ (Nat.le_of_ble_eq_true rfl) dX9_oldest_50 ?_
      refine i_icmp_ne hC (tgt := 66) dX9_oldest_53 (by decide) (fun c15 => ?_) (fun c15 => ?_)
      · replace hf := (if_neg c15).symm.trans hf
        exact Mj.to (b_X9_oldest_66 hC hih2 hih17 hf) ⟨rfl, rfl, rfl, rfl, rfl, trivial⟩
      · replace hf := (if_pos c15).symm.trans hf
        refine i_iload hC dX9_oldest_56 rfl ?_
        refine i_iload_n hC dX9_oldest_58 rfl ?_
        refine i_icmp_ge hC (tgt := 66) dX9_oldest_59 (by decide) (fun c16 => ?_) (fun c16 => ?_)
        · replace hf := (if_pos c16).symm.trans hf
          exact Mj.to (b_X9_oldest_66 hC hih2 hih17 hf) ⟨rfl, rfl, rfl, rfl, rfl, trivial⟩
        · replace hf := (if_neg c16).symm.trans hf
          exact Mj.to (b_X9_oldest_62 hC hih2 hih17 hf) ⟨rfl, rfl, rfl, rfl, rfl, trivial⟩
theorem b_X9_oldest_17 {v : EV} {p : Program} {l : Launch} {e : Env} {s : State} {m : MethodId} {args : Array Value} {below : List Frame} {meth : Method} {c : Code} (hC : Cx v p l e s m args meth c RX9 cX9_oldest 6 (some .int)) {S : Mem} {x1 : Int32} {x2 : Int32} {x3 : Int32} {x4 : Int32}  {r : Int32} {ih2 : Int32 → Option (Int32)} (hih2 : ∀ s9 : Int32, ih2 s9 = some r → Mj v p l e (rmF 5 97) s m args below meth c 6 (MQ below (Qc v (some (.int r)) S) args s 0 0 (eG v)) 0 S 2 [(0, .ref (eA v (218))), (1, .int x1), (2, .int (s9))] []) (hf : f_X9_oldest_17 ih2 S x1 x2 x3 x4 = some r) : Mj v p l e (rmF 5 97) s m args below meth c 6 (MQ below (Qc v (some (.int r)) S) args s 0 0 (eG v)) 0 S 17 [(0, .ref (eA v (218))), (1, .int x1), (2, .int x2), (3, .int x3), (4, .int x4)] [] :=
  lp_ind (P := fun s9 : (Int32 × Int32) => Mj v p l e (rmF 5 97) s m args below meth c 6 (MQ below (Qc v (some (.int r)) S) args s 0 0 (eG v)) 0 S 17 [(0, .ref (eA v (218))), (1, .int x1), (2, .int x2), (3, .int (s9.1)), (4, .int (s9.2))] []) (fun ih s9 hih hf => b_X9_oldest_17_b hC  hih2 hih hf) _ _ hf
set_option maxHeartbeats 4000000 in
set_option maxRecDepth 100000 in
theorem b_X9_oldest_2_b {v : EV} {p : Program} {l : Launch} {e : Env} {s : State} {m : MethodId} {args : Array Value} {below : List Frame} {meth : Method} {c : Code} (hC : Cx v p l e s m args meth c RX9 cX9_oldest 6 (some .int)) {S : Mem} {x1 : Int32} {x2 : Int32}  {r : Int32} {ih2 : Int32 → Option (Int32)} (hih2 : ∀ s9 : Int32, ih2 s9 = some r → Mj v p l e (rmF 5 97) s m args below meth c 6 (MQ below (Qc v (some (.int r)) S) args s 0 0 (eG v)) 0 S 2 [(0, .ref (eA v (218))), (1, .int x1), (2, .int (s9))] []) (hf : f_X9_oldest_2_b ih2 S x1 x2 = some r) : Mj v p l e (rmF 5 97) s m args below meth c 6 (MQ below (Qc v (some (.int r)) S) args s 0 0 (eG v)) 0 S 2 [(0, .ref (eA v (218))), (1, .int x1), (2, .int x2)] [] := by
  refine i_iload_n hC dX9_oldest_2 rfl ?_
  refine i_aload_n hC dX9_oldest_3 rfl ?_
  refine i_getR hC fl_X9_9 (pln rfl) (lay_p218) rfl dX9_oldest_4 ?_
  refine i_iconst hC dX9_oldest_7 li_1 ?_
  refine i_iald hC (j0 := 1) (pln rfl) (lay_p219) (inb_in (by decide)) (by decide) dX9_oldest_8 ?_
  refine i_icmp_ge hC (tgt := 124) dX9_oldest_9 (by decide) (fun c1 => ?_) (fun c1 => ?_)
  · replace hf := (if_pos c1).symm.trans hf
    refine i_iconst hC dX9_oldest_124 li_m1 ?_
    obtain rfl := Option.some.inj hf
    exact i_iret hC dX9_oldest_125
  · replace hf := (if_neg c1).symm.trans hf
    refine i_iconst hC dX9_oldest_12 li_0 ?_
    refine i_istore_n hC dX9_oldest_13 (by decide) ?_
    refine i_iconst hC dX9_oldest_14 li_0 ?_
    refine i_istore hC dX9_oldest_15 (by decide) ?_
    exact Mj.to (b_X9_oldest_17 hC hih2 hf) ⟨rfl, rfl, rfl, rfl, rfl, trivial⟩
theorem b_X9_oldest_2 {v : EV} {p : Program} {l : Launch} {e : Env} {s : State} {m : MethodId} {args : Array Value} {below : List Frame} {meth : Method} {c : Code} (hC : Cx v p l e s m args meth c RX9 cX9_oldest 6 (some .int)) {S : Mem} {x1 : Int32} {x2 : Int32}  {r : Int32} (hf : f_X9_oldest_2 S x1 x2 = some r) : Mj v p l e (rmF 5 97) s m args below meth c 6 (MQ below (Qc v (some (.int r)) S) args s 0 0 (eG v)) 0 S 2 [(0, .ref (eA v (218))), (1, .int x1), (2, .int x2)] [] :=
  lp_ind (P := fun s9 : Int32 => Mj v p l e (rmF 5 97) s m args below meth c 6 (MQ below (Qc v (some (.int r)) S) args s 0 0 (eG v)) 0 S 2 [(0, .ref (eA v (218))), (1, .int x1), (2, .int (s9))] []) (fun ih s9 hih hf => b_X9_oldest_2_b hC   hih hf) _ _ hf
set_option maxHeartbeats 4000000 in
set_option maxRecDepth 100000 in
theorem b_X9_oldest_0 {v : EV} {p : Program} {l : Launch} {e : Env} {s : State} {m : MethodId} {args : Array Value} {below : List Frame} {meth : Method} {c : Code} (hC : Cx v p l e s m args meth c RX9 cX9_oldest 6 (some .int)) {S : Mem} {x1 : Int32}  {r : Int32} (hf : f_X9_oldest_0 S x1 = some r) : Mj v p l e (rmF 5 97) s m args below meth c 6 (MQ below (Qc v (some (.int r)) S) args s 0 0 (eG v)) 0 S 0 [(0, .ref (eA v (218))), (1, .int x1)] [] := by
  refine i_iconst hC dX9_oldest_0 li_0 ?_
  refine i_istore_n hC dX9_oldest_1 (by decide) ?_
  exact Mj.to (b_X9_oldest_2 hC  hf) ⟨rfl, rfl, rfl, trivial⟩
theorem c_X9_oldest {v : EV} {l : Launch} (hst : Stb v) {S : Mem} {x1 : Int32}  {r : Int32} (hf : g_X9_oldest S x1 = some r) : Con v l yX9_oldest cX9_oldest 6 (some .int) 5 97 [.ref (eA v (218)), .int x1] S (some (.int r)) S := con_of (by decide) hst (Nat.le_of_ble_eq_true rfl) (fun p e s m args below meth c hC => b_X9_oldest_0 hC  hf)
def f_X9_driver_0 (S : Mem) (x1 : Int32) : Option (Int32 × Mem) := bd1 (g_X9_keeps S) (fun S1 => bd2 (g_X9_comes S1 x1) (fun r2 S2 => bd2 (g_X9_ends S2 r2) (fun r3 S3 => some (r3, S3))))
def g_X9_driver (S : Mem) (x1 : Int32) : Option (Int32 × Mem) := f_X9_driver_0 S x1
set_option maxHeartbeats 4000000 in
set_option maxRecDepth 100000 in
theorem b_X9_driver_0 {v : EV} {p : Program} {l : Launch} {e : Env} {s : State} {m : MethodId} {args : Array Value} {below : List Frame} {meth : Method} {c : Code} (hC : Cx v p l e s m args meth c RX9 cX9_driver 2 (some .int)) {S : Mem} {x1 : Int32}  {r : Int32 × Mem} (hf : f_X9_driver_0 S x1 = some r) : Mj v p l e (rmF 4 78) s m args below meth c 2 (MQ below (Qc v (some (.int r.1)) r.2) args s 0 0 (eG v)) 0 S 0 [(0, .ref (eA v (218))), (1, .int x1)] [] := by
  refine i_aload_n hC dX9_driver_0 rfl ?_
  obtain ⟨S1, hc1, hf⟩ := bd1_of hf
  refine i_callVv hC mv_X9_96 (c_X9_keeps hC.2.2.2.2.2.2.2.1 hc1) (pln rfl) (lay_p218) rfl rfl rfl rfl ⟨Nat.le_of_ble_eq_true rfl, Nat.le_of_ble_eq_true rfl⟩ (Nat.le_of_ble_eq_true rfl) dX9_driver_1 ?_
  refine i_aload_n hC dX9_driver_4 rfl ?_
  refine i_aload_n hC dX9_driver_5 rfl ?_
  refine i_iload_n hC dX9_driver_6 rfl ?_
  obtain ⟨r2, S2, hc2, hf⟩ := bd2_of hf
  refine i_callVi hC mv_X9_99 (c_X9_comes hC.2.2.2.2.2.2.2.1 hc2) (pln rfl) (lay_p218) rfl rfl rfl rfl ⟨Nat.le_of_ble_eq_true rfl, Nat.le_of_ble_eq_true rfl⟩ (Nat.le_of_ble_eq_true rfl) dX9_driver_7 ?_
  obtain ⟨r3, S3, hc3, hf⟩ := bd2_of hf
  refine i_callVi hC mv_X9_102 (c_X9_ends hC.2.2.2.2.2.2.2.1 hc3) (pln rfl) (lay_p218) rfl rfl rfl rfl ⟨Nat.le_of_ble_eq_true rfl, Nat.le_of_ble_eq_true rfl⟩ (Nat.le_of_ble_eq_true rfl) dX9_driver_10 ?_
  obtain rfl := Option.some.inj hf
  exact i_iret hC dX9_driver_13
theorem c_X9_driver {v : EV} {l : Launch} (hst : Stb v) {S : Mem} {x1 : Int32}  {r : Int32 × Mem} (hf : g_X9_driver S x1 = some r) : Con v l yX9_driver cX9_driver 2 (some .int) 4 78 [.ref (eA v (218)), .int x1] S (some (.int r.1)) r.2 := con_of (by decide) hst (Nat.le_of_ble_eq_true rfl) (fun p e s m args below meth c hC => b_X9_driver_0 hC  hf)
def f_X9_asksNow_216 (S : Mem) (x2 : Int32) : Option (Int32 × Mem) := some (x2, S)
def f_X9_asksNow_169 (ih76 : (Mem × Int32 × Int32) → Option (Int32 × Mem)) (S : Mem) (x1 : Int32) (x2 : Int32) (x3 : Int32) : Option (Int32 × Mem) := ih76 (S, x2, (x3 + (1 : Int32)))
def f_X9_asksNow_167 (ih76 : (Mem × Int32 × Int32) → Option (Int32 × Mem)) (S : Mem) (x1 : Int32) (x3 : Int32) (xt0 : Int32) (xt1 : Int32) : Option (Int32 × Mem) := f_X9_asksNow_169 ih76 S x1 (xt1 + xt0) x3
def f_X9_asksNow_152 (ih76 : (Mem × Int32 × Int32) → Option (Int32 × Mem)) (S : Mem) (x1 : Int32) (x2 : Int32) (x3 : Int32) : Option (Int32 × Mem) := bd2 (g_X9_votes S x3 x1) (fun r22 S22 => (if r22 = 0 then f_X9_asksNow_167 ih76 S22 x1 x3 (0 : Int32) x2 else f_X9_asksNow_167 ih76 S22 x1 x3 (1 : Int32) x2))
def f_X9_asksNow_76_b (ih76 : (Mem × Int32 × Int32) → Option (Int32 × Mem)) (S : Mem) (x1 : Int32) (x2 : Int32) (x3 : Int32) : Option (Int32 × Mem) := (if (S 20 1) ≤ x3 then bd1 (g_X9_isMajority S x2) (fun r9 => (if r9 = 0 then f_X9_asksNow_216 S x2 else bd1 (g_X9_sets S x1 (0 : Int32) (2 : Int32)) (fun S11 => bd1 (g_X9_of S11 x1 (9 : Int32)) (fun r12 => bd1 (g_X9_sets S11 x1 (9 : Int32) (r12 + (1 : Int32))) (fun S13 => f_X9_asksNow_216 (up S13 20 3 ((S13 20 3) + (1 : Int32))) x2))))) else bd1 (g_X9_isReached S x1 x3) (fun r14 => (if r14 = 0 then f_X9_asksNow_169 ih76 S x1 x2 x3 else bd1 (g_X9_of S x3 (1 : Int32)) (fun r16 => bd1 (g_X9_of S x1 (1 : Int32)) (fun r17 => (if r16 ≤ r17 then bd1 (g_X9_of S x3 (1 : Int32)) (fun r19 => bd1 (g_X9_of S x1 (1 : Int32)) (fun r20 => (if r20 ≤ r19 then f_X9_asksNow_152 ih76 S x1 x2 x3 else bd1 (g_X9_of S x1 (1 : Int32)) (fun r24 => bd1 (g_X9_takesOver S x3 r24) (fun S25 => f_X9_asksNow_152 ih76 S25 x1 x2 x3))))) else bd1 (g_X9_of S x3 (1 : Int32)) (fun r26 => bd1 (g_X9_takesOver S x1 r26) (fun S27 => some ((0 : Int32), S27)))))))))
def f_X9_asksNow_76 (S : Mem) (x1 : Int32) (x2 : Int32) (x3 : Int32) : Option (Int32 × Mem) := lp (fun ih76 s9 => f_X9_asksNow_76_b ih76 s9.1 x1 s9.2.1 s9.2.2) 2000 (S, x2, x3)
def f_X9_asksNow_0 (S : Mem) (x1 : Int32) : Option (Int32 × Mem) := bd1 (g_X9_of S x1 (1 : Int32)) (fun r1 => bd1 (g_X9_sets S x1 (1 : Int32) (r1 + (1 : Int32))) (fun S2 => bd1 (g_X9_sets S2 x1 (0 : Int32) (1 : Int32)) (fun S3 => bd1 (g_X9_sets S3 x1 (4 : Int32) x1) (fun S4 => bd1 (g_X9_sets S4 x1 (3 : Int32) (0 : Int32)) (fun S5 => bd1 (g_X9_of S5 x1 (8 : Int32)) (fun r6 => bd1 (g_X9_sets S5 x1 (8 : Int32) (r6 + (1 : Int32))) (fun S7 => f_X9_asksNow_76 (up (up S7 20 2 ((S7 20 2) + (1 : Int32))) 20 7 (((up S7 20 2 ((S7 20 2) + (1 : Int32))) 20 7) + (1 : Int32))) x1 (1 : Int32) (0 : Int32))))))))
def g_X9_asksNow (S : Mem) (x1 : Int32) : Option (Int32 × Mem) := f_X9_asksNow_0 S x1
set_option maxHeartbeats 4000000 in
set_option maxRecDepth 100000 in
theorem b_X9_asksNow_216 {v : EV} {p : Program} {l : Launch} {e : Env} {s : State} {m : MethodId} {args : Array Value} {below : List Frame} {meth : Method} {c : Code} (hC : Cx v p l e s m args meth c RX9 cX9_asksNow 4 (some .int)) {S : Mem} {x2 : Int32}  {r : Int32 × Mem} (hf : f_X9_asksNow_216 S x2 = some r) : Mj v p l e (rmF 6 123) s m args below meth c 4 (MQ below (Qc v (some (.int r.1)) r.2) args s 0 0 (eG v)) 0 S 216 [(2, .int x2)] [] := by
  refine i_iload_n hC dX9_asksNow_216 rfl ?_
  obtain rfl := Option.some.inj hf
  exact i_iret hC dX9_asksNow_217
set_option maxHeartbeats 4000000 in
set_option maxRecDepth 100000 in
theorem b_X9_asksNow_169 {v : EV} {p : Program} {l : Launch} {e : Env} {s : State} {m : MethodId} {args : Array Value} {below : List Frame} {meth : Method} {c : Code} (hC : Cx v p l e s m args meth c RX9 cX9_asksNow 4 (some .int)) {S : Mem} {x1 : Int32} {x2 : Int32} {x3 : Int32}  {r : Int32 × Mem} {ih76 : (Mem × Int32 × Int32) → Option (Int32 × Mem)} (hih76 : ∀ s9 : (Mem × Int32 × Int32), ih76 s9 = some r → Mj v p l e (rmF 6 123) s m args below meth c 4 (MQ below (Qc v (some (.int r.1)) r.2) args s 0 0 (eG v)) 0 s9.1 76 [(0, .ref (eA v (218))), (1, .int x1), (2, .int (s9.2.1)), (3, .int (s9.2.2))] []) (hf : f_X9_asksNow_169 ih76 S x1 x2 x3 = some r) : Mj v p l e (rmF 6 123) s m args below meth c 4 (MQ below (Qc v (some (.int r.1)) r.2) args s 0 0 (eG v)) 0 S 169 [(0, .ref (eA v (218))), (1, .int x1), (2, .int x2), (3, .int x3)] [] := by
  refine i_iinc hC dX9_asksNow_169 rfl li_1 (by decide) ?_
  refine i_goto hC (tgt := 76) dX9_asksNow_172 (by decide) ?_
  exact Mj.to (hih76 _ hf) ⟨rfl, rfl, rfl, rfl, trivial⟩
set_option maxHeartbeats 4000000 in
set_option maxRecDepth 100000 in
theorem b_X9_asksNow_167 {v : EV} {p : Program} {l : Launch} {e : Env} {s : State} {m : MethodId} {args : Array Value} {below : List Frame} {meth : Method} {c : Code} (hC : Cx v p l e s m args meth c RX9 cX9_asksNow 4 (some .int)) {S : Mem} {x1 : Int32} {x3 : Int32} {xt0 : Int32} {xt1 : Int32}  {r : Int32 × Mem} {ih76 : (Mem × Int32 × Int32) → Option (Int32 × Mem)} (hih76 : ∀ s9 : (Mem × Int32 × Int32), ih76 s9 = some r → Mj v p l e (rmF 6 123) s m args below meth c 4 (MQ below (Qc v (some (.int r.1)) r.2) args s 0 0 (eG v)) 0 s9.1 76 [(0, .ref (eA v (218))), (1, .int x1), (2, .int (s9.2.1)), (3, .int (s9.2.2))] []) (hf : f_X9_asksNow_167 ih76 S x1 x3 xt0 xt1 = some r) : Mj v p l e (rmF 6 123) s m args below meth c 4 (MQ below (Qc v (some (.int r.1)) r.2) args s 0 0 (eG v)) 0 S 167 [(0, .ref (eA v (218))), (1, .int x1), (3, .int x3)] [.int xt0, .int xt1] := by
  refine i_iadd hC dX9_asksNow_167 ?_
  refine i_istore_n hC dX9_asksNow_168 (by decide) ?_
  exact Mj.to (b_X9_asksNow_169 hC hih76 hf) ⟨rfl, rfl, rfl, rfl, trivial⟩
set_option maxHeartbeats 4000000 in
set_option maxRecDepth 100000 in
theorem b_X9_asksNow_152 {v : EV} {p : Program} {l : Launch} {e : Env} {s : State} {m : MethodId} {args : Array Value} {below : List Frame} {meth : Method} {c : Code} (hC : Cx v p l e s m args meth c RX9 cX9_asksNow 4 (some .int)) {S : Mem} {x1 : Int32} {x2 : Int32} {x3 : Int32}  {r : Int32 × Mem} {ih76 : (Mem × Int32 × Int32) → Option (Int32 × Mem)} (hih76 : ∀ s9 : (Mem × Int32 × Int32), ih76 s9 = some r → Mj v p l e (rmF 6 123) s m args below meth c 4 (MQ below (Qc v (some (.int r.1)) r.2) args s 0 0 (eG v)) 0 s9.1 76 [(0, .ref (eA v (218))), (1, .int x1), (2, .int (s9.2.1)), (3, .int (s9.2.2))] []) (hf : f_X9_asksNow_152 ih76 S x1 x2 x3 = some r) : Mj v p l e (rmF 6 123) s m args below meth c 4 (MQ below (Qc v (some (.int r.1)) r.2) args s 0 0 (eG v)) 0 S 152 [(0, .ref (eA v (218))), (1, .int x1), (2, .int x2), (3, .int x3)] [] := by
  refine i_iload_n hC dX9_asksNow_152 rfl ?_
  refine i_aload_n hC dX9_asksNow_153 rfl ?_
  refine i_iload_n hC dX9_asksNow_154 rfl ?_
  refine i_iload_n hC dX9_asksNow_155 rfl ?_
  obtain ⟨r22, S22, hc22, hf⟩ := bd2_of hf
  refine i_callVi hC mv_X9_116 (c_X9_votes hC.2.2.2.2.2.2.2.1 hc22) (pln rfl) (lay_p218) rfl rfl rfl rfl ⟨Nat.le_of_ble_eq_true rfl, Nat.le_of_ble_eq_true rfl⟩ (Nat.le_of_ble_eq_true rfl) dX9_asksNow_156 ?_
  refine i_if_eq hC (tgt := 166) dX9_asksNow_159 (by decide) (fun c23 => ?_) (fun c23 => ?_)
  · replace hf := (if_pos c23).symm.trans hf
    refine i_iconst hC dX9_asksNow_166 li_0 ?_
    exact Mj.to (b_X9_asksNow_167 hC hih76 hf) ⟨rfl, rfl, rfl, trivial⟩
  · replace hf := (if_neg c23).symm.trans hf
    refine i_iconst hC dX9_asksNow_162 li_1 ?_
    refine i_goto hC (tgt := 167) dX9_asksNow_163 (by decide) ?_
    exact Mj.to (b_X9_asksNow_167 hC hih76 hf) ⟨rfl, rfl, rfl, trivial⟩
set_option maxHeartbeats 4000000 in
set_option maxRecDepth 100000 in
theorem b_X9_asksNow_76_b {v : EV} {p : Program} {l : Launch} {e : Env} {s : State} {m : MethodId} {args : Array Value} {below : List Frame} {meth : Method} {c : Code} (hC : Cx v p l e s m args meth c RX9 cX9_asksNow 4 (some .int)) {S : Mem} {x1 : Int32} {x2 : Int32} {x3 : Int32}  {r : Int32 × Mem} {ih76 : (Mem × Int32 × Int32) → Option (Int32 × Mem)} (hih76 : ∀ s9 : (Mem × Int32 × Int32), ih76 s9 = some r → Mj v p l e (rmF 6 123) s m args below meth c 4 (MQ below (Qc v (some (.int r.1)) r.2) args s 0 0 (eG v)) 0 s9.1 76 [(0, .ref (eA v (218))), (1, .int x1), (2, .int (s9.2.1)), (3, .int (s9.2.2))] []) (hf : f_X9_asksNow_76_b ih76 S x1 x2 x3 = some r) : Mj v p l e (rmF 6 123) s m args below meth c 4 (MQ below (Qc v (some (.int r.1)) r.2) args s 0 0 (eG v)) 0 S 76 [(0, .ref (eA v (218))), (1, .int x1), (2, .int x2), (3, .int x3)] [] := by
  refine i_iload_n hC dX9_asksNow_76 rfl ?_
  refine i_aload_n hC dX9_asksNow_77 rfl ?_
  refine i_getR hC fl_X9_9 (pln rfl) (lay_p218) rfl dX9_asksNow_78 ?_
  refine i_iconst hC dX9_asksNow_81 li_1 ?_
  refine i_iald hC (j0 := 1) (pln rfl) (lay_p219) (inb_in (by decide)) (by decide) dX9_asksNow_82 ?_
  refine i_icmp_ge hC (tgt := 175) dX9_asksNow_83 (by decide) (fun c8 => ?_) (fun c8 => ?_)
  · replace hf := (if_pos c8).symm.trans hf
    refine i_aload_n hC dX9_asksNow_175 rfl ?_
    refine i_iload_n hC dX9_asksNow_176 rfl ?_
    obtain ⟨r9, hc9, hf⟩ := bd1_of hf
    refine i_callVi hC mv_X9_119 (c_X9_isMajority hC.2.2.2.2.2.2.2.1 hc9) (pln rfl) (lay_p218) rfl rfl rfl rfl ⟨Nat.le_of_ble_eq_true rfl, Nat.le_of_ble_eq_true rfl⟩ (Nat.le_of_ble_eq_true rfl) dX9_asksNow_177 ?_
    refine i_if_eq hC (tgt := 216) dX9_asksNow_180 (by decide) (fun c10 => ?_) (fun c10 => ?_)
    · replace hf := (if_pos c10).symm.trans hf
      exact Mj.to (b_X9_asksNow_216 hC  hf) ⟨rfl, trivial⟩
    · replace hf := (if_neg c10).symm.trans hf
      refine i_aload_n hC dX9_asksNow_183 rfl ?_
      refine i_iload_n hC dX9_asksNow_184 rfl ?_
      refine i_iconst hC dX9_asksNow_185 li_0 ?_
      refine i_iconst hC dX9_asksNow_186 li_2 ?_
      obtain ⟨S11, hc11, hf⟩ := bd1_of hf
      refine i_callVv hC mv_X9_92 (c_X9_sets hC.2.2.2.2.2.2.2.1 hc11) (pln rfl) (lay_p218) rfl rfl rfl rfl ⟨Nat.le_of_ble_eq_true rfl, Nat.le_of_ble_eq_true rfl⟩ (Nat.le_of_ble_eq_true rfl) dX9_asksNow_187 ?_
      refine i_aload_n hC dX9_asksNow_190 rfl ?_
      refine i_iload_n hC dX9_asksNow_191 rfl ?_
      refine i_bipush hC dX9_asksNow_192 lb_9 ?_
      refine i_aload_n hC dX9_asksNow_194 rfl ?_
      refine i_iload_n hC dX9_asksNow_195 rfl ?_
      refine i_bipush hC dX9_asksNow_196 lb_9 ?_
      obtain ⟨r12, hc12, hf⟩ := bd1_of hf
      refine i_callVi hC mv_X9_69 (c_X9_of hC.2.2.2.2.2.2.2.1 hc12) (pln rfl) (lay_p218) rfl rfl rfl rfl ⟨Nat.le_of_ble_eq_true rfl, Nat.le_of_ble_eq_true rfl⟩ (Nat.le_of_ble_eq_true rfl) dX9_asksNow_198 ?_
      refine i_iconst hC dX9_asksNow_201 li_1 ?_
      refine i_iadd hC dX9_asksNow_202 ?_
      obtain ⟨S13, hc13, hf⟩ := bd1_of hf
      refine i_callVv hC mv_X9_92 (c_X9_sets hC.2.2.2.2.2.2.2.1 hc13) (pln rfl) (lay_p218) rfl rfl rfl rfl ⟨Nat.le_of_ble_eq_true rfl, Nat.le_of_ble_eq_true rfl⟩ (Nat.le_of_ble_eq_true rfl) dX9_asksNow_203 ?_
      refine i_aload_n hC dX9_asksNow_206 rfl ?_
      refine i_getR hC fl_X9_9 (pln rfl) (lay_p218) rfl dX9_asksNow_207 ?_
      refine i_iconst hC dX9_asksNow_210 li_3 ?_
      refine i_dup2 hC dX9_asksNow_211 rfl rfl ?_
      refine i_iald hC (j0 := 3) (pln rfl) (lay_p219) (inb_in (by decide)) (by decide) dX9_asksNow_212 ?_
      refine i_iconst hC dX9_asksNow_213 li_1 ?_
      refine i_iadd hC dX9_asksNow_214 ?_
      refine i_iast hC (j0 := 3) (pln rfl) (lay_p219) (bk_l ⟨rfl, rfl, rfl, rfl⟩) (inb_in (by decide)) (by decide) dX9_asksNow_215 ?_
      exact Mj.to (b_X9_asksNow_216 hC  hf) ⟨rfl, trivial⟩
  · replace hf := (if_neg c8).symm.trans hf
    refine i_aload_n hC dX9_asksNow_86 rfl ?_
    refine i_iload_n hC dX9_asksNow_87 rfl ?_
    refine i_iload_n hC dX9_asksNow_88 rfl ?_
    obtain ⟨r14, hc14, hf⟩ := bd1_of hf
    refine i_callVi hC mv_X9_108 (c_X9_isReached hC.2.2.2.2.2.2.2.1 hc14) (pln rfl) (lay_p218) rfl rfl rfl rfl ⟨Nat.le_of_ble_eq_true rfl, Nat.le_of_ble_eq_true rfl⟩ (Nat.le_of_ble_eq_true rfl) dX9_asksNow_89 ?_
    refine i_if_ne hC (tgt := 98) dX9_asksNow_92 (by decide) (fun c15 => ?_) (fun c15 => ?_)
    · replace hf := (if_neg c15).symm.trans hf
      refine i_aload_n hC dX9_asksNow_98 rfl ?_
      refine i_iload_n hC dX9_asksNow_99 rfl ?_
      refine i_iconst hC dX9_asksNow_100 li_1 ?_
      obtain ⟨r16, hc16, hf⟩ := bd1_of hf
      refine i_callVi hC mv_X9_69 (c_X9_of hC.2.2.2.2.2.2.2.1 hc16) (pln rfl) (lay_p218) rfl rfl rfl rfl ⟨Nat.le_of_ble_eq_true rfl, Nat.le_of_ble_eq_true rfl⟩ (Nat.le_of_ble_eq_true rfl) dX9_asksNow_101 ?_
      refine i_aload_n hC dX9_asksNow_104 rfl ?_
      refine i_iload_n hC dX9_asksNow_105 rfl ?_
      refine i_iconst hC dX9_asksNow_106 li_1 ?_
      obtain ⟨r17, hc17, hf⟩ := bd1_of hf
      refine i_callVi hC mv_X9_69 (c_X9_of hC.2.2.2.2.2.2.2.1 hc17) (pln rfl) (lay_p218) rfl rfl rfl rfl ⟨Nat.le_of_ble_eq_true rfl, Nat.le_of_ble_eq_true rfl⟩ (Nat.le_of_ble_eq_true rfl) dX9_asksNow_107 ?_
      refine i_icmp_le hC (tgt := 126) dX9_asksNow_110 (by decide) (fun c18 => ?_) (fun c18 => ?_)
      · replace hf := (if_pos c18).symm.trans hf
        refine i_aload_n hC dX9_asksNow_126 rfl ?_
        refine i_iload_n hC dX9_asksNow_127 rfl ?_
        refine i_iconst hC dX9_asksNow_128 li_1 ?_
        obtain ⟨r19, hc19, hf⟩ := bd1_of hf
        refine i_callVi hC mv_X9_69 (c_X9_of hC.2.2.2.2.2.2.2.1 hc19) (pln rfl) (lay_p218) rfl rfl rfl rfl ⟨Nat.le_of_ble_eq_true rfl, Nat.le_of_ble_eq_true rfl⟩ (Nat.le_of_ble_eq_true rfl) dX9_asksNow_129 ?_
        refine i_aload_n hC dX9_asksNow_132 rfl ?_
        refine i_iload_n hC dX9_asksNow_133 rfl ?_
        refine i_iconst hC dX9_asksNow_134 li_1 ?_
        obtain ⟨r20, hc20, hf⟩ := bd1_of hf
        refine i_callVi hC mv_X9_69 (c_X9_of hC.2.2.2.2.2.2.2.1 hc20) (pln rfl) (lay_p218) rfl rfl rfl rfl ⟨Nat.le_of_ble_eq_true rfl, Nat.le_of_ble_eq_true rfl⟩ (Nat.le_of_ble_eq_true rfl) dX9_asksNow_135 ?_
        refine i_icmp_ge hC (tgt := 152) dX9_asksNow_138 (by decide) (fun c21 => ?_) (fun c21 => ?_)
        · replace hf := (if_pos c21).symm.trans hf
          exact Mj.to (b_X9_asksNow_152 hC hih76 hf) ⟨rfl, rfl, rfl, rfl, trivial⟩
        · replace hf := (if_neg c21).symm.trans hf
          refine i_aload_n hC dX9_asksNow_141 rfl ?_
          refine i_iload_n hC dX9_asksNow_142 rfl ?_
          refine i_aload_n hC dX9_asksNow_143 rfl ?_
          refine i_iload_n hC dX9_asksNow_144 rfl ?_
          refine i_iconst hC dX9_asksNow_145 li_1 ?_
          obtain ⟨r24, hc24, hf⟩ := bd1_of hf
          refine i_callVi hC mv_X9_69 (c_X9_of hC.2.2.2.2.2.2.2.1 hc24) (pln rfl) (lay_p218) rfl rfl rfl rfl ⟨Nat.le_of_ble_eq_true rfl, Nat.le_of_ble_eq_true rfl⟩ (Nat.le_of_ble_eq_true rfl) dX9_asksNow_146 ?_
          obtain ⟨S25, hc25, hf⟩ := bd1_of hf
          refine i_callVv hC mv_X9_112 (c_X9_takesOver hC.2.2.2.2.2.2.2.1 hc25) (pln rfl) (lay_p218) rfl rfl rfl rfl ⟨Nat.le_of_ble_eq_true rfl, Nat.le_of_ble_eq_true rfl⟩ (Nat.le_of_ble_eq_true rfl) dX9_asksNow_149 ?_
          exact Mj.to (b_X9_asksNow_152 hC hih76 hf) ⟨rfl, rfl, rfl, rfl, trivial⟩
      · replace hf := (if_neg c18).symm.trans hf
        refine i_aload_n hC dX9_asksNow_113 rfl ?_
        refine i_iload_n hC dX9_asksNow_114 rfl ?_
        refine i_aload_n hC dX9_asksNow_115 rfl ?_
        refine i_iload_n hC dX9_asksNow_116 rfl ?_
        refine i_iconst hC dX9_asksNow_117 li_1 ?_
        obtain ⟨r26, hc26, hf⟩ := bd1_of hf
        refine i_callVi hC mv_X9_69 (c_X9_of hC.2.2.2.2.2.2.2.1 hc26) (pln rfl) (lay_p218) rfl rfl rfl rfl ⟨Nat.le_of_ble_eq_true rfl, Nat.le_of_ble_eq_true rfl⟩ (Nat.le_of_ble_eq_true rfl) dX9_asksNow_118 ?_
        obtain ⟨S27, hc27, hf⟩ := bd1_of hf
        refine i_callVv hC mv_X9_112 (c_X9_takesOver hC.2.2.2.2.2.2.2.1 hc27) (pln rfl) (lay_p218) rfl rfl rfl rfl ⟨Nat.le_of_ble_eq_true rfl, Nat.le_of_ble_eq_true rfl⟩ (Nat.le_of_ble_eq_true rfl) dX9_asksNow_121 ?_
        refine i_iconst hC dX9_asksNow_124 li_0 ?_
        obtain rfl := Option.some.inj hf
        exact i_iret hC dX9_asksNow_125
    · replace hf := (if_pos c15).symm.trans hf
      refine i_goto hC (tgt := 169) dX9_asksNow_95 (by decide) ?_
      exact Mj.to (b_X9_asksNow_169 hC hih76 hf) ⟨rfl, rfl, rfl, rfl, trivial⟩
theorem b_X9_asksNow_76 {v : EV} {p : Program} {l : Launch} {e : Env} {s : State} {m : MethodId} {args : Array Value} {below : List Frame} {meth : Method} {c : Code} (hC : Cx v p l e s m args meth c RX9 cX9_asksNow 4 (some .int)) {S : Mem} {x1 : Int32} {x2 : Int32} {x3 : Int32}  {r : Int32 × Mem} (hf : f_X9_asksNow_76 S x1 x2 x3 = some r) : Mj v p l e (rmF 6 123) s m args below meth c 4 (MQ below (Qc v (some (.int r.1)) r.2) args s 0 0 (eG v)) 0 S 76 [(0, .ref (eA v (218))), (1, .int x1), (2, .int x2), (3, .int x3)] [] :=
  lp_ind (P := fun s9 : (Mem × Int32 × Int32) => Mj v p l e (rmF 6 123) s m args below meth c 4 (MQ below (Qc v (some (.int r.1)) r.2) args s 0 0 (eG v)) 0 s9.1 76 [(0, .ref (eA v (218))), (1, .int x1), (2, .int (s9.2.1)), (3, .int (s9.2.2))] []) (fun ih s9 hih hf => b_X9_asksNow_76_b hC   hih hf) _ _ hf
set_option maxHeartbeats 4000000 in
set_option maxRecDepth 100000 in
theorem b_X9_asksNow_0 {v : EV} {p : Program} {l : Launch} {e : Env} {s : State} {m : MethodId} {args : Array Value} {below : List Frame} {meth : Method} {c : Code} (hC : Cx v p l e s m args meth c RX9 cX9_asksNow 4 (some .int)) {S : Mem} {x1 : Int32}  {r : Int32 × Mem} (hf : f_X9_asksNow_0 S x1 = some r) : Mj v p l e (rmF 6 123) s m args below meth c 4 (MQ below (Qc v (some (.int r.1)) r.2) args s 0 0 (eG v)) 0 S 0 [(0, .ref (eA v (218))), (1, .int x1)] [] := by
  refine i_aload_n hC dX9_asksNow_0 rfl ?_
  refine i_iload_n hC dX9_asksNow_1 rfl ?_
  refine i_iconst hC dX9_asksNow_2 li_1 ?_
  refine i_aload_n hC dX9_asksNow_3 rfl ?_
  refine i_iload_n hC dX9_asksNow_4 rfl ?_
  refine i_iconst hC dX9_asksNow_5 li_1 ?_
  obtain ⟨r1, hc1, hf⟩ := bd1_of hf
  refine i_callVi hC mv_X9_69 (c_X9_of hC.2.2.2.2.2.2.2.1 hc1) (pln rfl) (lay_p218) rfl rfl rfl rfl ⟨Nat.le_of_ble_eq_true rfl, Nat.le_of_ble_eq_true rfl⟩ (Nat.le_of_ble_eq_true rfl) dX9_asksNow_6 ?_
  refine i_iconst hC dX9_asksNow_9 li_1 ?_
  refine i_iadd hC dX9_asksNow_10 ?_
  obtain ⟨S2, hc2, hf⟩ := bd1_of hf
  refine i_callVv hC mv_X9_92 (c_X9_sets hC.2.2.2.2.2.2.2.1 hc2) (pln rfl) (lay_p218) rfl rfl rfl rfl ⟨Nat.le_of_ble_eq_true rfl, Nat.le_of_ble_eq_true rfl⟩ (Nat.le_of_ble_eq_true rfl) dX9_asksNow_11 ?_
  refine i_aload_n hC dX9_asksNow_14 rfl ?_
  refine i_iload_n hC dX9_asksNow_15 rfl ?_
  refine i_iconst hC dX9_asksNow_16 li_0 ?_
  refine i_iconst hC dX9_asksNow_17 li_1 ?_
  obtain ⟨S3, hc3, hf⟩ := bd1_of hf
  refine i_callVv hC mv_X9_92 (c_X9_sets hC.2.2.2.2.2.2.2.1 hc3) (pln rfl) (lay_p218) rfl rfl rfl rfl ⟨Nat.le_of_ble_eq_true rfl, Nat.le_of_ble_eq_true rfl⟩ (Nat.le_of_ble_eq_true rfl) dX9_asksNow_18 ?_
  refine i_aload_n hC dX9_asksNow_21 rfl ?_
  refine i_iload_n hC dX9_asksNow_22 rfl ?_
  refine i_iconst hC dX9_asksNow_23 li_4 ?_
  refine i_iload_n hC dX9_asksNow_24 rfl ?_
  obtain ⟨S4, hc4, hf⟩ := bd1_of hf
  refine i_callVv hC mv_X9_92 (c_X9_sets hC.2.2.2.2.2.2.2.1 hc4) (pln rfl) (lay_p218) rfl rfl rfl rfl ⟨Nat.le_of_ble_eq_true rfl, Nat.le_of_ble_eq_true rfl⟩ (Nat.le_of_ble_eq_true rfl) dX9_asksNow_25 ?_
  refine i_aload_n hC dX9_asksNow_28 rfl ?_
  refine i_iload_n hC dX9_asksNow_29 rfl ?_
  refine i_iconst hC dX9_asksNow_30 li_3 ?_
  refine i_iconst hC dX9_asksNow_31 li_0 ?_
  obtain ⟨S5, hc5, hf⟩ := bd1_of hf
  refine i_callVv hC mv_X9_92 (c_X9_sets hC.2.2.2.2.2.2.2.1 hc5) (pln rfl) (lay_p218) rfl rfl rfl rfl ⟨Nat.le_of_ble_eq_true rfl, Nat.le_of_ble_eq_true rfl⟩ (Nat.le_of_ble_eq_true rfl) dX9_asksNow_32 ?_
  refine i_aload_n hC dX9_asksNow_35 rfl ?_
  refine i_iload_n hC dX9_asksNow_36 rfl ?_
  refine i_bipush hC dX9_asksNow_37 lb_8 ?_
  refine i_aload_n hC dX9_asksNow_39 rfl ?_
  refine i_iload_n hC dX9_asksNow_40 rfl ?_
  refine i_bipush hC dX9_asksNow_41 lb_8 ?_
  obtain ⟨r6, hc6, hf⟩ := bd1_of hf
  refine i_callVi hC mv_X9_69 (c_X9_of hC.2.2.2.2.2.2.2.1 hc6) (pln rfl) (lay_p218) rfl rfl rfl rfl ⟨Nat.le_of_ble_eq_true rfl, Nat.le_of_ble_eq_true rfl⟩ (Nat.le_of_ble_eq_true rfl) dX9_asksNow_43 ?_
  refine i_iconst hC dX9_asksNow_46 li_1 ?_
  refine i_iadd hC dX9_asksNow_47 ?_
  obtain ⟨S7, hc7, hf⟩ := bd1_of hf
  refine i_callVv hC mv_X9_92 (c_X9_sets hC.2.2.2.2.2.2.2.1 hc7) (pln rfl) (lay_p218) rfl rfl rfl rfl ⟨Nat.le_of_ble_eq_true rfl, Nat.le_of_ble_eq_true rfl⟩ (Nat.le_of_ble_eq_true rfl) dX9_asksNow_48 ?_
  refine i_aload_n hC dX9_asksNow_51 rfl ?_
  refine i_getR hC fl_X9_9 (pln rfl) (lay_p218) rfl dX9_asksNow_52 ?_
  refine i_iconst hC dX9_asksNow_55 li_2 ?_
  refine i_dup2 hC dX9_asksNow_56 rfl rfl ?_
  refine i_iald hC (j0 := 2) (pln rfl) (lay_p219) (inb_in (by decide)) (by decide) dX9_asksNow_57 ?_
  refine i_iconst hC dX9_asksNow_58 li_1 ?_
  refine i_iadd hC dX9_asksNow_59 ?_
  refine i_iast hC (j0 := 2) (pln rfl) (lay_p219) (bk_l ⟨rfl, rfl, rfl, rfl⟩) (inb_in (by decide)) (by decide) dX9_asksNow_60 ?_
  refine i_aload_n hC dX9_asksNow_61 rfl ?_
  refine i_getR hC fl_X9_9 (pln rfl) (lay_p218) rfl dX9_asksNow_62 ?_
  refine i_bipush hC dX9_asksNow_65 lb_7 ?_
  refine i_dup2 hC dX9_asksNow_67 rfl rfl ?_
  refine i_iald hC (j0 := 7) (pln rfl) (lay_p219) (inb_in (by decide)) (by decide) dX9_asksNow_68 ?_
  refine i_iconst hC dX9_asksNow_69 li_1 ?_
  refine i_iadd hC dX9_asksNow_70 ?_
  refine i_iast hC (j0 := 7) (pln rfl) (lay_p219) (bk_l ⟨rfl, rfl, rfl, rfl⟩) (inb_in (by decide)) (by decide) dX9_asksNow_71 ?_
  refine i_iconst hC dX9_asksNow_72 li_1 ?_
  refine i_istore_n hC dX9_asksNow_73 (by decide) ?_
  refine i_iconst hC dX9_asksNow_74 li_0 ?_
  refine i_istore_n hC dX9_asksNow_75 (by decide) ?_
  exact Mj.to (b_X9_asksNow_76 hC  hf) ⟨rfl, rfl, rfl, rfl, trivial⟩
theorem c_X9_asksNow {v : EV} {l : Launch} (hst : Stb v) {S : Mem} {x1 : Int32}  {r : Int32 × Mem} (hf : g_X9_asksNow S x1 = some r) : Con v l yX9_asksNow cX9_asksNow 4 (some .int) 6 123 [.ref (eA v (218)), .int x1] S (some (.int r.1)) r.2 := con_of (by decide) hst (Nat.le_of_ble_eq_true rfl) (fun p e s m args below meth c hC => b_X9_asksNow_0 hC  hf)
def f_X9_sends_28 (S : Mem) (xt0 : Int32) : Option (Int32 × Mem) := some (xt0, S)
def f_X9_sends_0 (S : Mem) (x1 : Int32) : Option (Int32 × Mem) := bd1 (g_X9_isDriver S x1) (fun r1 => (if r1 = 0 then some ((-1 : Int32), S) else bd2 (g_X9_isNoLeader S x1) (fun r3 S3 => (if r3 = 0 then bd2 (g_X9_sendsNow S3 x1) (fun r5 S5 => f_X9_sends_28 S5 r5) else f_X9_sends_28 S3 (-3 : Int32)))))
def g_X9_sends (S : Mem) (x1 : Int32) : Option (Int32 × Mem) := f_X9_sends_0 S x1
set_option maxHeartbeats 4000000 in
set_option maxRecDepth 100000 in
theorem b_X9_sends_28 {v : EV} {p : Program} {l : Launch} {e : Env} {s : State} {m : MethodId} {args : Array Value} {below : List Frame} {meth : Method} {c : Code} (hC : Cx v p l e s m args meth c RX9 cX9_sends 2 (some .int)) {S : Mem} {xt0 : Int32}  {r : Int32 × Mem} (hf : f_X9_sends_28 S xt0 = some r) : Mj v p l e (rmF 6 127) s m args below meth c 2 (MQ below (Qc v (some (.int r.1)) r.2) args s 0 0 (eG v)) 0 S 28 [] [.int xt0] := by
  obtain rfl := Option.some.inj hf
  exact i_iret hC dX9_sends_28
set_option maxHeartbeats 4000000 in
set_option maxRecDepth 100000 in
theorem b_X9_sends_0 {v : EV} {p : Program} {l : Launch} {e : Env} {s : State} {m : MethodId} {args : Array Value} {below : List Frame} {meth : Method} {c : Code} (hC : Cx v p l e s m args meth c RX9 cX9_sends 2 (some .int)) {S : Mem} {x1 : Int32}  {r : Int32 × Mem} (hf : f_X9_sends_0 S x1 = some r) : Mj v p l e (rmF 6 127) s m args below meth c 2 (MQ below (Qc v (some (.int r.1)) r.2) args s 0 0 (eG v)) 0 S 0 [(0, .ref (eA v (218))), (1, .int x1)] [] := by
  refine i_aload_n hC dX9_sends_0 rfl ?_
  refine i_iload_n hC dX9_sends_1 rfl ?_
  obtain ⟨r1, hc1, hf⟩ := bd1_of hf
  refine i_callVi hC mv_X9_65 (c_X9_isDriver hC.2.2.2.2.2.2.2.1 hc1) (pln rfl) (lay_p218) rfl rfl rfl rfl ⟨Nat.le_of_ble_eq_true rfl, Nat.le_of_ble_eq_true rfl⟩ (Nat.le_of_ble_eq_true rfl) dX9_sends_2 ?_
  refine i_if_ne hC (tgt := 10) dX9_sends_5 (by decide) (fun c2 => ?_) (fun c2 => ?_)
  · replace hf := (if_neg c2).symm.trans hf
    refine i_aload_n hC dX9_sends_10 rfl ?_
    refine i_iload_n hC dX9_sends_11 rfl ?_
    obtain ⟨r3, S3, hc3, hf⟩ := bd2_of hf
    refine i_callVi hC mv_X9_140 (c_X9_isNoLeader hC.2.2.2.2.2.2.2.1 hc3) (pln rfl) (lay_p218) rfl rfl rfl rfl ⟨Nat.le_of_ble_eq_true rfl, Nat.le_of_ble_eq_true rfl⟩ (Nat.le_of_ble_eq_true rfl) dX9_sends_12 ?_
    refine i_if_eq hC (tgt := 23) dX9_sends_15 (by decide) (fun c4 => ?_) (fun c4 => ?_)
    · replace hf := (if_pos c4).symm.trans hf
      refine i_aload_n hC dX9_sends_23 rfl ?_
      refine i_iload_n hC dX9_sends_24 rfl ?_
      obtain ⟨r5, S5, hc5, hf⟩ := bd2_of hf
      refine i_callVi hC mv_X9_143 (c_X9_sendsNow hC.2.2.2.2.2.2.2.1 hc5) (pln rfl) (lay_p218) rfl rfl rfl rfl ⟨Nat.le_of_ble_eq_true rfl, Nat.le_of_ble_eq_true rfl⟩ (Nat.le_of_ble_eq_true rfl) dX9_sends_25 ?_
      exact Mj.to (b_X9_sends_28 hC  hf) trivial
    · replace hf := (if_neg c4).symm.trans hf
      refine i_bipush hC dX9_sends_18 lb_m3 ?_
      refine i_goto hC (tgt := 28) dX9_sends_20 (by decide) ?_
      exact Mj.to (b_X9_sends_28 hC  hf) trivial
  · replace hf := (if_pos c2).symm.trans hf
    refine i_iconst hC dX9_sends_8 li_m1 ?_
    obtain rfl := Option.some.inj hf
    exact i_iret hC dX9_sends_9
theorem c_X9_sends {v : EV} {l : Launch} (hst : Stb v) {S : Mem} {x1 : Int32}  {r : Int32 × Mem} (hf : g_X9_sends S x1 = some r) : Con v l yX9_sends cX9_sends 2 (some .int) 6 127 [.ref (eA v (218)), .int x1] S (some (.int r.1)) r.2 := con_of (by decide) hst (Nat.le_of_ble_eq_true rfl) (fun p e s m args below meth c hC => b_X9_sends_0 hC  hf)
def f_X9_shout_0 (S : Mem) (x1 : Int32) (x2 : Int32) : Option (Int32 × Mem) := bd1 (g_X9_keeps S) (fun S1 => bd2 (g_X9_shouts S1 x1 x2) (fun r2 S2 => bd2 (g_X9_ends S2 r2) (fun r3 S3 => some (r3, S3))))
def g_X9_shout (S : Mem) (x1 : Int32) (x2 : Int32) : Option (Int32 × Mem) := f_X9_shout_0 S x1 x2
set_option maxHeartbeats 4000000 in
set_option maxRecDepth 100000 in
theorem b_X9_shout_0 {v : EV} {p : Program} {l : Launch} {e : Env} {s : State} {m : MethodId} {args : Array Value} {below : List Frame} {meth : Method} {c : Code} (hC : Cx v p l e s m args meth c RX9 cX9_shout 3 (some .int)) {S : Mem} {x1 : Int32} {x2 : Int32}  {r : Int32 × Mem} (hf : f_X9_shout_0 S x1 x2 = some r) : Mj v p l e (rmF 7 141) s m args below meth c 3 (MQ below (Qc v (some (.int r.1)) r.2) args s 0 0 (eG v)) 0 S 0 [(0, .ref (eA v (218))), (1, .int x1), (2, .int x2)] [] := by
  refine i_aload_n hC dX9_shout_0 rfl ?_
  obtain ⟨S1, hc1, hf⟩ := bd1_of hf
  refine i_callVv hC mv_X9_96 (c_X9_keeps hC.2.2.2.2.2.2.2.1 hc1) (pln rfl) (lay_p218) rfl rfl rfl rfl ⟨Nat.le_of_ble_eq_true rfl, Nat.le_of_ble_eq_true rfl⟩ (Nat.le_of_ble_eq_true rfl) dX9_shout_1 ?_
  refine i_aload_n hC dX9_shout_4 rfl ?_
  refine i_aload_n hC dX9_shout_5 rfl ?_
  refine i_iload_n hC dX9_shout_6 rfl ?_
  refine i_iload_n hC dX9_shout_7 rfl ?_
  obtain ⟨r2, S2, hc2, hf⟩ := bd2_of hf
  refine i_callVi hC mv_X9_149 (c_X9_shouts hC.2.2.2.2.2.2.2.1 hc2) (pln rfl) (lay_p218) rfl rfl rfl rfl ⟨Nat.le_of_ble_eq_true rfl, Nat.le_of_ble_eq_true rfl⟩ (Nat.le_of_ble_eq_true rfl) dX9_shout_8 ?_
  obtain ⟨r3, S3, hc3, hf⟩ := bd2_of hf
  refine i_callVi hC mv_X9_102 (c_X9_ends hC.2.2.2.2.2.2.2.1 hc3) (pln rfl) (lay_p218) rfl rfl rfl rfl ⟨Nat.le_of_ble_eq_true rfl, Nat.le_of_ble_eq_true rfl⟩ (Nat.le_of_ble_eq_true rfl) dX9_shout_11 ?_
  obtain rfl := Option.some.inj hf
  exact i_iret hC dX9_shout_14
theorem c_X9_shout {v : EV} {l : Launch} (hst : Stb v) {S : Mem} {x1 x2 : Int32}  {r : Int32 × Mem} (hf : g_X9_shout S x1 x2 = some r) : Con v l yX9_shout cX9_shout 3 (some .int) 7 141 [.ref (eA v (218)), .int x1, .int x2] S (some (.int r.1)) r.2 := con_of (by decide) hst (Nat.le_of_ble_eq_true rfl) (fun p e s m args below meth c hC => b_X9_shout_0 hC  hf)
def f_X9_wash_0 (S : Mem) (x1 : Int32) : Option (Int32 × Mem) := bd1 (g_X9_keeps S) (fun S1 => bd2 (g_X9_washes S1 x1) (fun r2 S2 => bd2 (g_X9_ends S2 r2) (fun r3 S3 => some (r3, S3))))
def g_X9_wash (S : Mem) (x1 : Int32) : Option (Int32 × Mem) := f_X9_wash_0 S x1
set_option maxHeartbeats 4000000 in
set_option maxRecDepth 100000 in
theorem b_X9_wash_0 {v : EV} {p : Program} {l : Launch} {e : Env} {s : State} {m : MethodId} {args : Array Value} {below : List Frame} {meth : Method} {c : Code} (hC : Cx v p l e s m args meth c RX9 cX9_wash 2 (some .int)) {S : Mem} {x1 : Int32}  {r : Int32 × Mem} (hf : f_X9_wash_0 S x1 = some r) : Mj v p l e (rmF 6 118) s m args below meth c 2 (MQ below (Qc v (some (.int r.1)) r.2) args s 0 0 (eG v)) 0 S 0 [(0, .ref (eA v (218))), (1, .int x1)] [] := by
  refine i_aload_n hC dX9_wash_0 rfl ?_
  obtain ⟨S1, hc1, hf⟩ := bd1_of hf
  refine i_callVv hC mv_X9_96 (c_X9_keeps hC.2.2.2.2.2.2.2.1 hc1) (pln rfl) (lay_p218) rfl rfl rfl rfl ⟨Nat.le_of_ble_eq_true rfl, Nat.le_of_ble_eq_true rfl⟩ (Nat.le_of_ble_eq_true rfl) dX9_wash_1 ?_
  refine i_aload_n hC dX9_wash_4 rfl ?_
  refine i_aload_n hC dX9_wash_5 rfl ?_
  refine i_iload_n hC dX9_wash_6 rfl ?_
  obtain ⟨r2, S2, hc2, hf⟩ := bd2_of hf
  refine i_callVi hC mv_X9_156 (c_X9_washes hC.2.2.2.2.2.2.2.1 hc2) (pln rfl) (lay_p218) rfl rfl rfl rfl ⟨Nat.le_of_ble_eq_true rfl, Nat.le_of_ble_eq_true rfl⟩ (Nat.le_of_ble_eq_true rfl) dX9_wash_7 ?_
  obtain ⟨r3, S3, hc3, hf⟩ := bd2_of hf
  refine i_callVi hC mv_X9_102 (c_X9_ends hC.2.2.2.2.2.2.2.1 hc3) (pln rfl) (lay_p218) rfl rfl rfl rfl ⟨Nat.le_of_ble_eq_true rfl, Nat.le_of_ble_eq_true rfl⟩ (Nat.le_of_ble_eq_true rfl) dX9_wash_10 ?_
  obtain rfl := Option.some.inj hf
  exact i_iret hC dX9_wash_13
theorem c_X9_wash {v : EV} {l : Launch} (hst : Stb v) {S : Mem} {x1 : Int32}  {r : Int32 × Mem} (hf : g_X9_wash S x1 = some r) : Con v l yX9_wash cX9_wash 2 (some .int) 6 118 [.ref (eA v (218)), .int x1] S (some (.int r.1)) r.2 := con_of (by decide) hst (Nat.le_of_ble_eq_true rfl) (fun p e s m args below meth c hC => b_X9_wash_0 hC  hf)
def f_X9_waits_53 (S : Mem)  : Option (Mem) := some S
def f_X9_waits_51 (S : Mem) (xt0 : Int32) (xt1 : Int32) (xt2 : Int32) : Option (Mem) := ck (inb xt2 203) (f_X9_waits_53 (up S 20 ((xt2).toNatClampNeg) (xt1 + xt0)))
def f_X9_waits_0 (S : Mem) (x1 : Int32) : Option (Mem) := bd1 (g_X9_of S x1 (3 : Int32)) (fun r1 => bd1 (g_X9_sets S x1 (3 : Int32) (r1 + (1 : Int32))) (fun S2 => bd1 (g_X9_of S2 x1 (3 : Int32)) (fun r3 => bd1 (g_X9_of S2 x1 (2 : Int32)) (fun r4 => (if r3 < r4 then f_X9_waits_53 S2 else bd2 (g_X9_asksNow S2 x1) (fun r6 S6 => (if 0 ≤ r6 then f_X9_waits_51 S6 (0 : Int32) (S6 20 0) (0 : Int32) else f_X9_waits_51 S6 r6 (S6 20 0) (0 : Int32))))))))
def g_X9_waits (S : Mem) (x1 : Int32) : Option (Mem) := f_X9_waits_0 S x1
set_option maxHeartbeats 4000000 in
set_option maxRecDepth 100000 in
theorem b_X9_waits_53 {v : EV} {p : Program} {l : Launch} {e : Env} {s : State} {m : MethodId} {args : Array Value} {below : List Frame} {meth : Method} {c : Code} (hC : Cx v p l e s m args meth c RX9 cX9_waits 3 none) {S : Mem}  {r : Mem} (hf : f_X9_waits_53 S = some r) : Mj v p l e (rmF 7 146) s m args below meth c 3 (MQ below (Qc v (none) r) args s 0 0 (eG v)) 0 S 53 [] [] := by
  obtain rfl := Option.some.inj hf
  exact i_vret hC dX9_waits_53
set_option maxHeartbeats 4000000 in
set_option maxRecDepth 100000 in
theorem b_X9_waits_51 {v : EV} {p : Program} {l : Launch} {e : Env} {s : State} {m : MethodId} {args : Array Value} {below : List Frame} {meth : Method} {c : Code} (hC : Cx v p l e s m args meth c RX9 cX9_waits 3 none) {S : Mem} {xt0 : Int32} {xt1 : Int32} {xt2 : Int32}  {r : Mem} (hf : f_X9_waits_51 S xt0 xt1 xt2 = some r) : Mj v p l e (rmF 7 146) s m args below meth c 3 (MQ below (Qc v (none) r) args s 0 0 (eG v)) 0 S 51 [] [.int xt0, .int xt1, .int xt2, .ref (eA v (219))] := by
  refine i_iadd hC dX9_waits_51 ?_
  obtain ⟨k8, hf⟩ := ck_of hf
  refine i_iast hC (j0 := ((xt2).toNatClampNeg)) (pln rfl) (lay_p219) (bk_l ⟨rfl, rfl, rfl, rfl⟩) (inb_in k8) (Nat.zero_add _) dX9_waits_52 ?_
  exact Mj.to (b_X9_waits_53 hC  hf) trivial
set_option maxHeartbeats 4000000 in
set_option maxRecDepth 100000 in
theorem b_X9_waits_0 {v : EV} {p : Program} {l : Launch} {e : Env} {s : State} {m : MethodId} {args : Array Value} {below : List Frame} {meth : Method} {c : Code} (hC : Cx v p l e s m args meth c RX9 cX9_waits 3 none) {S : Mem} {x1 : Int32}  {r : Mem} (hf : f_X9_waits_0 S x1 = some r) : Mj v p l e (rmF 7 146) s m args below meth c 3 (MQ below (Qc v (none) r) args s 0 0 (eG v)) 0 S 0 [(0, .ref (eA v (218))), (1, .int x1)] [] := by
  refine i_aload_n hC dX9_waits_0 rfl ?_
  refine i_iload_n hC dX9_waits_1 rfl ?_
  refine i_iconst hC dX9_waits_2 li_3 ?_
  refine i_aload_n hC dX9_waits_3 rfl ?_
  refine i_iload_n hC dX9_waits_4 rfl ?_
  refine i_iconst hC dX9_waits_5 li_3 ?_
  obtain ⟨r1, hc1, hf⟩ := bd1_of hf
  refine i_callVi hC mv_X9_69 (c_X9_of hC.2.2.2.2.2.2.2.1 hc1) (pln rfl) (lay_p218) rfl rfl rfl rfl ⟨Nat.le_of_ble_eq_true rfl, Nat.le_of_ble_eq_true rfl⟩ (Nat.le_of_ble_eq_true rfl) dX9_waits_6 ?_
  refine i_iconst hC dX9_waits_9 li_1 ?_
  refine i_iadd hC dX9_waits_10 ?_
  obtain ⟨S2, hc2, hf⟩ := bd1_of hf
  refine i_callVv hC mv_X9_92 (c_X9_sets hC.2.2.2.2.2.2.2.1 hc2) (pln rfl) (lay_p218) rfl rfl rfl rfl ⟨Nat.le_of_ble_eq_true rfl, Nat.le_of_ble_eq_true rfl⟩ (Nat.le_of_ble_eq_true rfl) dX9_waits_11 ?_
  refine i_aload_n hC dX9_waits_14 rfl ?_
  refine i_iload_n hC dX9_waits_15 rfl ?_
  refine i_iconst hC dX9_waits_16 li_3 ?_
  obtain ⟨r3, hc3, hf⟩ := bd1_of hf
  refine i_callVi hC mv_X9_69 (c_X9_of hC.2.2.2.2.2.2.2.1 hc3) (pln rfl) (lay_p218) rfl rfl rfl rfl ⟨Nat.le_of_ble_eq_true rfl, Nat.le_of_ble_eq_true rfl⟩ (Nat.le_of_ble_eq_true rfl) dX9_waits_17 ?_
  refine i_aload_n hC dX9_waits_20 rfl ?_
  refine i_iload_n hC dX9_waits_21 rfl ?_
  refine i_iconst hC dX9_waits_22 li_2 ?_
  obtain ⟨r4, hc4, hf⟩ := bd1_of hf
  refine i_callVi hC mv_X9_69 (c_X9_of hC.2.2.2.2.2.2.2.1 hc4) (pln rfl) (lay_p218) rfl rfl rfl rfl ⟨Nat.le_of_ble_eq_true rfl, Nat.le_of_ble_eq_true rfl⟩ (Nat.le_of_ble_eq_true rfl) dX9_waits_23 ?_
  refine i_icmp_lt hC (tgt := 53) dX9_waits_26 (by decide) (fun c5 => ?_) (fun c5 => ?_)
  · replace hf := (if_pos c5).symm.trans hf
    exact Mj.to (b_X9_waits_53 hC  hf) trivial
  · replace hf := (if_neg c5).symm.trans hf
    refine i_aload_n hC dX9_waits_29 rfl ?_
    refine i_iload_n hC dX9_waits_30 rfl ?_
    obtain ⟨r6, S6, hc6, hf⟩ := bd2_of hf
    refine i_callVi hC mv_X9_125 (c_X9_asksNow hC.2.2.2.2.2.2.2.1 hc6) (pln rfl) (lay_p218) rfl rfl rfl rfl ⟨Nat.le_of_ble_eq_true rfl, Nat.le_of_ble_eq_true rfl⟩ (Nat.le_of_ble_eq_true rfl) dX9_waits_31 ?_
    refine i_istore_n hC dX9_waits_34 (by decide) ?_
    refine i_aload_n hC dX9_waits_35 rfl ?_
    refine i_getR hC fl_X9_9 (pln rfl) (lay_p218) rfl dX9_waits_36 ?_
    refine i_iconst hC dX9_waits_39 li_0 ?_
    refine i_dup2 hC dX9_waits_40 rfl rfl ?_
    refine i_iald hC (j0 := 0) (pln rfl) (lay_p219) (inb_in (by decide)) (by decide) dX9_waits_41 ?_
    refine i_iload_n hC dX9_waits_42 rfl ?_
    refine i_if_ge hC (tgt := 50) dX9_waits_43 (by decide) (fun c7 => ?_) (fun c7 => ?_)
    · replace hf := (if_pos c7).symm.trans hf
      refine i_iconst hC dX9_waits_50 li_0 ?_
      exact Mj.to (b_X9_waits_51 hC  hf) trivial
    · replace hf := (if_neg c7).symm.trans hf
      refine i_iload_n hC dX9_waits_46 rfl ?_
      refine i_goto hC (tgt := 51) dX9_waits_47 (by decide) ?_
      exact Mj.to (b_X9_waits_51 hC  hf) trivial
theorem c_X9_waits {v : EV} {l : Launch} (hst : Stb v) {S : Mem} {x1 : Int32}  {r : Mem} (hf : g_X9_waits S x1 = some r) : Con v l yX9_waits cX9_waits 3 none 7 146 [.ref (eA v (218)), .int x1] S (none) r := con_of (by decide) hst (Nat.le_of_ble_eq_true rfl) (fun p e s m args below meth c hC => b_X9_waits_0 hC  hf)
def f_X9_isText_56 (S : Mem) (xt0 : Int32) : Option (Int32 × Mem) := ck (isb xt0) (some (xt0, S))
def f_X9_isText_55 (S : Mem)  : Option (Int32 × Mem) := f_X9_isText_56 S (0 : Int32)
def f_X9_isText_36 (S : Mem) (x1 : Int32) : Option (Int32 × Mem) := (if x1 = 0 then f_X9_isText_55 S else (if (S 28 15) = (S 28 14) then f_X9_isText_56 S (1 : Int32) else f_X9_isText_55 S))
def f_X9_isText_15_b (ih15 : (Mem × Int32) → Option (Int32 × Mem)) (S : Mem) (x1 : Int32) : Option (Int32 × Mem) := (if x1 = 0 then f_X9_isText_36 S x1 else bd2 (g_X9_isSign S (59 : Int32)) (fun r6 S6 => (if r6 = 0 then f_X9_isText_36 S6 x1 else bd2 (g_X9_readsCommand S6) (fun r8 S8 => ih15 (S8, r8)))))
def f_X9_isText_15 (S : Mem) (x1 : Int32) : Option (Int32 × Mem) := lp (fun ih15 s9 => f_X9_isText_15_b ih15 s9.1 s9.2) 2000 (S, x1)
def f_X9_isText_0 (S : Mem)  : Option (Int32 × Mem) := bd2 (g_X9_readsCommand (up (up S 28 15 (0 : Int32)) 28 16 (0 : Int32))) (fun r1 S1 => f_X9_isText_15 S1 r1)
def g_X9_isText (S : Mem)  : Option (Int32 × Mem) := f_X9_isText_0 S
set_option maxHeartbeats 4000000 in
set_option maxRecDepth 100000 in
theorem b_X9_isText_56 {v : EV} {p : Program} {l : Launch} {e : Env} {s : State} {m : MethodId} {args : Array Value} {below : List Frame} {meth : Method} {c : Code} (hC : Cx v p l e s m args meth c RX9 cX9_isText 2 (some .boolean)) {S : Mem} {xt0 : Int32}  {r : Int32 × Mem} (hf : f_X9_isText_56 S xt0 = some r) : Mj v p l e (rmF 8 163) s m args below meth c 2 (MQ below (Qc v (some (.int r.1)) r.2) args s 0 0 (eG v)) 0 S 56 [] [.int xt0] := by
  obtain ⟨k4, hf⟩ := ck_of hf
  obtain rfl := Option.some.inj hf
  exact i_zret hC dX9_isText_56 (isb_z k4).1
set_option maxHeartbeats 4000000 in
set_option maxRecDepth 100000 in
theorem b_X9_isText_55 {v : EV} {p : Program} {l : Launch} {e : Env} {s : State} {m : MethodId} {args : Array Value} {below : List Frame} {meth : Method} {c : Code} (hC : Cx v p l e s m args meth c RX9 cX9_isText 2 (some .boolean)) {S : Mem}  {r : Int32 × Mem} (hf : f_X9_isText_55 S = some r) : Mj v p l e (rmF 8 163) s m args below meth c 2 (MQ below (Qc v (some (.int r.1)) r.2) args s 0 0 (eG v)) 0 S 55 [] [] := by
  refine i_iconst hC dX9_isText_55 li_0 ?_
  exact Mj.to (b_X9_isText_56 hC  hf) trivial
set_option maxHeartbeats 4000000 in
set_option maxRecDepth 100000 in
theorem b_X9_isText_36 {v : EV} {p : Program} {l : Launch} {e : Env} {s : State} {m : MethodId} {args : Array Value} {below : List Frame} {meth : Method} {c : Code} (hC : Cx v p l e s m args meth c RX9 cX9_isText 2 (some .boolean)) {S : Mem} {x1 : Int32}  {r : Int32 × Mem} (hf : f_X9_isText_36 S x1 = some r) : Mj v p l e (rmF 8 163) s m args below meth c 2 (MQ below (Qc v (some (.int r.1)) r.2) args s 0 0 (eG v)) 0 S 36 [(0, .ref (eA v (218))), (1, .int x1)] [] := by
  refine i_iload_n hC dX9_isText_36 rfl ?_
  refine i_if_eq hC (tgt := 55) dX9_isText_37 (by decide) (fun c3 => ?_) (fun c3 => ?_)
  · replace hf := (if_pos c3).symm.trans hf
    exact Mj.to (b_X9_isText_55 hC  hf) trivial
  · replace hf := (if_neg c3).symm.trans hf
    refine i_aload_n hC dX9_isText_40 rfl ?_
    refine i_getI hC fl_X9_185 (pln rfl) (lay_p218) rfl dX9_isText_41 ?_
    refine i_aload_n hC dX9_isText_44 rfl ?_
    refine i_getI hC fl_X9_182 (pln rfl) (lay_p218) rfl dX9_isText_45 ?_
    refine i_icmp_ne hC (tgt := 55) dX9_isText_48 (by decide) (fun c5 => ?_) (fun c5 => ?_)
    · replace hf := (if_neg c5).symm.trans hf
      exact Mj.to (b_X9_isText_55 hC  hf) trivial
    · replace hf := (if_pos c5).symm.trans hf
      refine i_iconst hC dX9_isText_51 li_1 ?_
      refine i_goto hC (tgt := 56) dX9_isText_52 (by decide) ?_
      exact Mj.to (b_X9_isText_56 hC  hf) trivial
set_option maxHeartbeats 4000000 in
set_option maxRecDepth 100000 in
theorem b_X9_isText_15_b {v : EV} {p : Program} {l : Launch} {e : Env} {s : State} {m : MethodId} {args : Array Value} {below : List Frame} {meth : Method} {c : Code} (hC : Cx v p l e s m args meth c RX9 cX9_isText 2 (some .boolean)) {S : Mem} {x1 : Int32}  {r : Int32 × Mem} {ih15 : (Mem × Int32) → Option (Int32 × Mem)} (hih15 : ∀ s9 : (Mem × Int32), ih15 s9 = some r → Mj v p l e (rmF 8 163) s m args below meth c 2 (MQ below (Qc v (some (.int r.1)) r.2) args s 0 0 (eG v)) 0 s9.1 15 [(0, .ref (eA v (218))), (1, .int (s9.2))] []) (hf : f_X9_isText_15_b ih15 S x1 = some r) : Mj v p l e (rmF 8 163) s m args below meth c 2 (MQ below (Qc v (some (.int r.1)) r.2) args s 0 0 (eG v)) 0 S 15 [(0, .ref (eA v (218))), (1, .int x1)] [] := by
  refine i_iload_n hC dX9_isText_15 rfl ?_
  refine i_if_eq hC (tgt := 36) dX9_isText_16 (by decide) (fun c2 => ?_) (fun c2 => ?_)
  · replace hf := (if_pos c2).symm.trans hf
    exact Mj.to (b_X9_isText_36 hC  hf) ⟨rfl, rfl, trivial⟩
  · replace hf := (if_neg c2).symm.trans hf
    refine i_aload_n hC dX9_isText_19 rfl ?_
    refine i_bipush hC dX9_isText_20 lb_59 ?_
    obtain ⟨r6, S6, hc6, hf⟩ := bd2_of hf
    refine i_callVi hC mv_X9_239 (c_X9_isSign hC.2.2.2.2.2.2.2.1 hc6) (pln rfl) (lay_p218) rfl rfl rfl rfl ⟨Nat.le_of_ble_eq_true rfl, Nat.le_of_ble_eq_true rfl⟩ (Nat.le_of_ble_eq_true rfl) dX9_isText_22 ?_
    refine i_if_eq hC (tgt := 36) dX9_isText_25 (by decide) (fun c7 => ?_) (fun c7 => ?_)
    · replace hf := (if_pos c7).symm.trans hf
      exact Mj.to (b_X9_isText_36 hC  hf) ⟨rfl, rfl, trivial⟩
    · replace hf := (if_neg c7).symm.trans hf
      refine i_aload_n hC dX9_isText_28 rfl ?_
      obtain ⟨r8, S8, hc8, hf⟩ := bd2_of hf
      refine i_callVi hC mv_X9_245 (c_X9_readsCommand hC.2.2.2.2.2.2.2.1 hc8) (pln rfl) (lay_p218) rfl rfl rfl rfl ⟨Nat.le_of_ble_eq_true rfl, Nat.le_of_ble_eq_true rfl⟩ (Nat.le_of_ble_eq_true rfl) dX9_isText_29 ?_
      refine i_istore_n hC dX9_isText_32 (by decide) ?_
      refine i_goto hC (tgt := 15) dX9_isText_33 (by decide) ?_
      exact Mj.to (hih15 _ hf) ⟨rfl, rfl, trivial⟩
theorem b_X9_isText_15 {v : EV} {p : Program} {l : Launch} {e : Env} {s : State} {m : MethodId} {args : Array Value} {below : List Frame} {meth : Method} {c : Code} (hC : Cx v p l e s m args meth c RX9 cX9_isText 2 (some .boolean)) {S : Mem} {x1 : Int32}  {r : Int32 × Mem} (hf : f_X9_isText_15 S x1 = some r) : Mj v p l e (rmF 8 163) s m args below meth c 2 (MQ below (Qc v (some (.int r.1)) r.2) args s 0 0 (eG v)) 0 S 15 [(0, .ref (eA v (218))), (1, .int x1)] [] :=
  lp_ind (P := fun s9 : (Mem × Int32) => Mj v p l e (rmF 8 163) s m args below meth c 2 (MQ below (Qc v (some (.int r.1)) r.2) args s 0 0 (eG v)) 0 s9.1 15 [(0, .ref (eA v (218))), (1, .int (s9.2))] []) (fun ih s9 hih hf => b_X9_isText_15_b hC   hih hf) _ _ hf
set_option maxHeartbeats 4000000 in
set_option maxRecDepth 100000 in
theorem b_X9_isText_0 {v : EV} {p : Program} {l : Launch} {e : Env} {s : State} {m : MethodId} {args : Array Value} {below : List Frame} {meth : Method} {c : Code} (hC : Cx v p l e s m args meth c RX9 cX9_isText 2 (some .boolean)) {S : Mem}  {r : Int32 × Mem} (hf : f_X9_isText_0 S = some r) : Mj v p l e (rmF 8 163) s m args below meth c 2 (MQ below (Qc v (some (.int r.1)) r.2) args s 0 0 (eG v)) 0 S 0 [(0, .ref (eA v (218)))] [] := by
  refine i_aload_n hC dX9_isText_0 rfl ?_
  refine i_iconst hC dX9_isText_1 li_0 ?_
  refine i_putI hC fl_X9_185 (pln rfl) (lay_p218) rfl (bk_l ⟨rfl, rfl, rfl, rfl⟩) (nf_int _) dX9_isText_2 ?_
  refine i_aload_n hC dX9_isText_5 rfl ?_
  refine i_iconst hC dX9_isText_6 li_0 ?_
  refine i_putI hC fl_X9_233 (pln rfl) (lay_p218) rfl (bk_l ⟨rfl, rfl, rfl, rfl⟩) (nf_int _) dX9_isText_7 ?_
  refine i_aload_n hC dX9_isText_10 rfl ?_
  obtain ⟨r1, S1, hc1, hf⟩ := bd2_of hf
  refine i_callVi hC mv_X9_245 (c_X9_readsCommand hC.2.2.2.2.2.2.2.1 hc1) (pln rfl) (lay_p218) rfl rfl rfl rfl ⟨Nat.le_of_ble_eq_true rfl, Nat.le_of_ble_eq_true rfl⟩ (Nat.le_of_ble_eq_true rfl) dX9_isText_11 ?_
  refine i_istore_n hC dX9_isText_14 (by decide) ?_
  exact Mj.to (b_X9_isText_15 hC  hf) ⟨rfl, rfl, trivial⟩
theorem c_X9_isText {v : EV} {l : Launch} (hst : Stb v) {S : Mem}  {r : Int32 × Mem} (hf : g_X9_isText S = some r) : Con v l yX9_isText cX9_isText 2 (some .boolean) 8 163 [.ref (eA v (218))] S (some (.int r.1)) r.2 := con_of (by decide) hst (Nat.le_of_ble_eq_true rfl) (fun p e s m args below meth c hC => b_X9_isText_0 hC  hf)
