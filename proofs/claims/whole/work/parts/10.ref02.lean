def f_X9_agreed_4_b (ih4 : (Int32 × Int32) → Option (Int32)) (S : Mem) (x1 : Int32) (x2 : Int32) : Option (Int32) := (if (S 20 1) ≤ x2 then some x1 else bd1 (g_X9_of S x2 (6 : Int32)) (fun r2 => bd1 (g_X9_greater x1 r2) (fun r3 => ih4 (r3, (x2 + (1 : Int32))))))
def f_X9_agreed_4 (S : Mem) (x1 : Int32) (x2 : Int32) : Option (Int32) := lp (fun ih4 s9 => f_X9_agreed_4_b ih4 S s9.1 s9.2) 2000 (x1, x2)
def f_X9_agreed_0 (S : Mem)  : Option (Int32) := f_X9_agreed_4 S (0 : Int32) (0 : Int32)
def g_X9_agreed (S : Mem)  : Option (Int32) := f_X9_agreed_0 S
set_option maxHeartbeats 4000000 in
set_option maxRecDepth 100000 in
theorem b_X9_agreed_4_b {v : EV} {p : Program} {l : Launch} {e : Env} {s : State} {m : MethodId} {args : Array Value} {below : List Frame} {meth : Method} {c : Code} (hC : Cx v p l e s m args meth c RX9 cX9_agreed 3 (some .int)) {S : Mem} {x1 : Int32} {x2 : Int32}  {r : Int32} {ih4 : (Int32 × Int32) → Option (Int32)} (hih4 : ∀ s9 : (Int32 × Int32), ih4 s9 = some r → Mj v p l e (rmF 3 55) s m args below meth c 3 (MQ below (Qc v (some (.int r)) S) args s 0 0 (eG v)) 0 S 4 [(0, .ref (eA v (218))), (1, .int (s9.1)), (2, .int (s9.2))] []) (hf : f_X9_agreed_4_b ih4 S x1 x2 = some r) : Mj v p l e (rmF 3 55) s m args below meth c 3 (MQ below (Qc v (some (.int r)) S) args s 0 0 (eG v)) 0 S 4 [(0, .ref (eA v (218))), (1, .int x1), (2, .int x2)] [] := by
  refine i_iload_n hC dX9_agreed_4 rfl ?_
  refine i_aload_n hC dX9_agreed_5 rfl ?_
  refine i_getR hC fl_X9_9 (pln rfl) (lay_p218) rfl dX9_agreed_6 ?_
  refine i_iconst hC dX9_agreed_9 li_1 ?_
  refine i_iald hC (j0 := 1) (pln rfl) (lay_p219) (inb_in (by decide)) (by decide) dX9_agreed_10 ?_
  refine i_icmp_ge hC (tgt := 32) dX9_agreed_11 (by decide) (fun c1 => ?_) (fun c1 => ?_)
  · replace hf := (if_pos c1).symm.trans hf
    refine i_iload_n hC dX9_agreed_32 rfl ?_
    obtain rfl := Option.some.inj hf
    exact i_iret hC dX9_agreed_33
  · replace hf := (if_neg c1).symm.trans hf
    refine i_iload_n hC dX9_agreed_14 rfl ?_
    refine i_aload_n hC dX9_agreed_15 rfl ?_
    refine i_iload_n hC dX9_agreed_16 rfl ?_
    refine i_bipush hC dX9_agreed_17 lb_6 ?_
    obtain ⟨r2, hc2, hf⟩ := bd1_of hf
    refine i_callVi hC mv_X9_69 (c_X9_of hC.2.2.2.2.2.2.2.1 hc2) (pln rfl) (lay_p218) rfl rfl rfl rfl ⟨Nat.le_of_ble_eq_true rfl, Nat.le_of_ble_eq_true rfl⟩ (Nat.le_of_ble_eq_true rfl) dX9_agreed_19 ?_
    obtain ⟨r3, hc3, hf⟩ := bd1_of hf
    refine i_callSi hC mv_X9_75 (c_X9_greater hC.2.2.2.2.2.2.2.1 hc3) rfl rfl rfl ⟨Nat.le_of_ble_eq_true rfl, Nat.le_of_ble_eq_true rfl⟩ (Nat.le_of_ble_eq_true rfl) dX9_agreed_22 ?_
    refine i_istore_n hC dX9_agreed_25 (by decide) ?_
    refine i_iinc hC dX9_agreed_26 rfl li_1 (by decide) ?_
    refine i_goto hC (tgt := 4) dX9_agreed_29 (by decide) ?_
    exact Mj.to (hih4 _ hf) ⟨rfl, rfl, rfl, trivial⟩
theorem b_X9_agreed_4 {v : EV} {p : Program} {l : Launch} {e : Env} {s : State} {m : MethodId} {args : Array Value} {below : List Frame} {meth : Method} {c : Code} (hC : Cx v p l e s m args meth c RX9 cX9_agreed 3 (some .int)) {S : Mem} {x1 : Int32} {x2 : Int32}  {r : Int32} (hf : f_X9_agreed_4 S x1 x2 = some r) : Mj v p l e (rmF 3 55) s m args below meth c 3 (MQ below (Qc v (some (.int r)) S) args s 0 0 (eG v)) 0 S 4 [(0, .ref (eA v (218))), (1, .int x1), (2, .int x2)] [] :=
  lp_ind (P := fun s9 : (Int32 × Int32) => Mj v p l e (rmF 3 55) s m args below meth c 3 (MQ below (Qc v (some (.int r)) S) args s 0 0 (eG v)) 0 S 4 [(0, .ref (eA v (218))), (1, .int (s9.1)), (2, .int (s9.2))] []) (fun ih s9 hih hf => b_X9_agreed_4_b hC   hih hf) _ _ hf
set_option maxHeartbeats 4000000 in
set_option maxRecDepth 100000 in
theorem b_X9_agreed_0 {v : EV} {p : Program} {l : Launch} {e : Env} {s : State} {m : MethodId} {args : Array Value} {below : List Frame} {meth : Method} {c : Code} (hC : Cx v p l e s m args meth c RX9 cX9_agreed 3 (some .int)) {S : Mem}  {r : Int32} (hf : f_X9_agreed_0 S = some r) : Mj v p l e (rmF 3 55) s m args below meth c 3 (MQ below (Qc v (some (.int r)) S) args s 0 0 (eG v)) 0 S 0 [(0, .ref (eA v (218)))] [] := by
  refine i_iconst hC dX9_agreed_0 li_0 ?_
  refine i_istore_n hC dX9_agreed_1 (by decide) ?_
  refine i_iconst hC dX9_agreed_2 li_0 ?_
  refine i_istore_n hC dX9_agreed_3 (by decide) ?_
  exact Mj.to (b_X9_agreed_4 hC  hf) ⟨rfl, rfl, rfl, trivial⟩
theorem c_X9_agreed {v : EV} {l : Launch} (hst : Stb v) {S : Mem}  {r : Int32} (hf : g_X9_agreed S = some r) : Con v l yX9_agreed cX9_agreed 3 (some .int) 3 55 [.ref (eA v (218))] S (some (.int r)) S := con_of (by decide) hst (Nat.le_of_ble_eq_true rfl) (fun p e s m args below meth c hC => b_X9_agreed_0 hC  hf)
def f_X9_agreedAgain_9_b (ih3 : Int32 → Option (Int32)) (ih9 : Int32 → Option (Int32)) (S : Mem) (x1 : Int32) (x2 : Int32) : Option (Int32) := (if (S 20 1) ≤ x2 then ih3 ((x1 + (-1 : Int32))) else bd1 (g_X9_of S x2 (6 : Int32)) (fun r3 => (if r3 = x1 then some x1 else ih9 ((x2 + (1 : Int32))))))
def f_X9_agreedAgain_9 (ih3 : Int32 → Option (Int32)) (S : Mem) (x1 : Int32) (x2 : Int32) : Option (Int32) := lp (fun ih9 s9 => f_X9_agreedAgain_9_b ih3 ih9 S x1 s9) 2000 (x2)
def f_X9_agreedAgain_3_b (ih3 : Int32 → Option (Int32)) (S : Mem) (x1 : Int32) : Option (Int32) := (if x1 ≤ 0 then some (0 : Int32) else f_X9_agreedAgain_9 ih3 S x1 (0 : Int32))
def f_X9_agreedAgain_3 (S : Mem) (x1 : Int32) : Option (Int32) := lp (fun ih3 s9 => f_X9_agreedAgain_3_b ih3 S s9) 2000 (x1)
def f_X9_agreedAgain_0 (S : Mem)  : Option (Int32) := f_X9_agreedAgain_3 S (12 : Int32)
def g_X9_agreedAgain (S : Mem)  : Option (Int32) := f_X9_agreedAgain_0 S
set_option maxHeartbeats 4000000 in
set_option maxRecDepth 100000 in
theorem b_X9_agreedAgain_9_b {v : EV} {p : Program} {l : Launch} {e : Env} {s : State} {m : MethodId} {args : Array Value} {below : List Frame} {meth : Method} {c : Code} (hC : Cx v p l e s m args meth c RX9 cX9_agreedAgain 3 (some .int)) {S : Mem} {x1 : Int32} {x2 : Int32}  {r : Int32} {ih3 : Int32 → Option (Int32)} (hih3 : ∀ s9 : Int32, ih3 s9 = some r → Mj v p l e (rmF 3 55) s m args below meth c 3 (MQ below (Qc v (some (.int r)) S) args s 0 0 (eG v)) 0 S 3 [(0, .ref (eA v (218))), (1, .int (s9))] []) {ih9 : Int32 → Option (Int32)} (hih9 : ∀ s9 : Int32, ih9 s9 = some r → Mj v p l e (rmF 3 55) s m args below meth c 3 (MQ below (Qc v (some (.int r)) S) args s 0 0 (eG v)) 0 S 9 [(0, .ref (eA v (218))), (1, .int x1), (2, .int (s9))] []) (hf : f_X9_agreedAgain_9_b ih3 ih9 S x1 x2 = some r) : Mj v p l e (rmF 3 55) s m args below meth c 3 (MQ below (Qc v (some (.int r)) S) args s 0 0 (eG v)) 0 S 9 [(0, .ref (eA v (218))), (1, .int x1), (2, .int x2)] [] := by
  refine i_iload_n hC dX9_agreedAgain_9 rfl ?_
  refine i_aload_n hC dX9_agreedAgain_10 rfl ?_
  refine i_getR hC fl_X9_9 (pln rfl) (lay_p218) rfl dX9_agreedAgain_11 ?_
  refine i_iconst hC dX9_agreedAgain_14 li_1 ?_
  refine i_iald hC (j0 := 1) (pln rfl) (lay_p219) (inb_in (by decide)) (by decide) dX9_agreedAgain_15 ?_
  refine i_icmp_ge hC (tgt := 38) dX9_agreedAgain_16 (by decide) (fun c2 => ?_) (fun c2 => ?_)
  · replace hf := (if_pos c2).symm.trans hf
    refine i_iinc hC dX9_agreedAgain_38 rfl li_m1 (by decide) ?_
    refine i_goto hC (tgt := 3) dX9_agreedAgain_41 (by decide) ?_
    exact Mj.to (hih3 _ hf) ⟨rfl, rfl, trivial⟩
  · replace hf := (if_neg c2).symm.trans hf
    refine i_aload_n hC dX9_agreedAgain_19 rfl ?_
    refine i_iload_n hC dX9_agreedAgain_20 rfl ?_
    refine i_bipush hC dX9_agreedAgain_21 lb_6 ?_
    obtain ⟨r3, hc3, hf⟩ := bd1_of hf
    refine i_callVi hC mv_X9_69 (c_X9_of hC.2.2.2.2.2.2.2.1 hc3) (pln rfl) (lay_p218) rfl rfl rfl rfl ⟨Nat.le_of_ble_eq_true rfl, Nat.le_of_ble_eq_true rfl⟩ (Nat.le_of_ble_eq_true rfl) dX9_agreedAgain_23 ?_
    refine i_iload_n hC dX9_agreedAgain_26 rfl ?_
    refine i_icmp_ne hC (tgt := 32) dX9_agreedAgain_27 (by decide) (fun c4 => ?_) (fun c4 => ?_)
    · replace hf := (if_neg c4).symm.trans hf
      refine i_iinc hC dX9_agreedAgain_32 rfl li_1 (by decide) ?_
      refine i_goto hC (tgt := 9) dX9_agreedAgain_35 (by decide) ?_
      exact Mj.to (hih9 _ hf) ⟨rfl, rfl, rfl, trivial⟩
    · replace hf := (if_pos c4).symm.trans hf
      refine i_iload_n hC dX9_agreedAgain_30 rfl ?_
      obtain rfl := Option.some.inj hf
      exact i_iret hC dX9_agreedAgain_31
theorem b_X9_agreedAgain_9 {v : EV} {p : Program} {l : Launch} {e : Env} {s : State} {m : MethodId} {args : Array Value} {below : List Frame} {meth : Method} {c : Code} (hC : Cx v p l e s m args meth c RX9 cX9_agreedAgain 3 (some .int)) {S : Mem} {x1 : Int32} {x2 : Int32}  {r : Int32} {ih3 : Int32 → Option (Int32)} (hih3 : ∀ s9 : Int32, ih3 s9 = some r → Mj v p l e (rmF 3 55) s m args below meth c 3 (MQ below (Qc v (some (.int r)) S) args s 0 0 (eG v)) 0 S 3 [(0, .ref (eA v (218))), (1, .int (s9))] []) (hf : f_X9_agreedAgain_9 ih3 S x1 x2 = some r) : Mj v p l e (rmF 3 55) s m args below meth c 3 (MQ below (Qc v (some (.int r)) S) args s 0 0 (eG v)) 0 S 9 [(0, .ref (eA v (218))), (1, .int x1), (2, .int x2)] [] :=
  lp_ind (P := fun s9 : Int32 => Mj v p l e (rmF 3 55) s m args below meth c 3 (MQ below (Qc v (some (.int r)) S) args s 0 0 (eG v)) 0 S 9 [(0, .ref (eA v (218))), (1, .int x1), (2, .int (s9))] []) (fun ih s9 hih hf => b_X9_agreedAgain_9_b hC  hih3 hih hf) _ _ hf
set_option maxHeartbeats 4000000 in
set_option maxRecDepth 100000 in
theorem b_X9_agreedAgain_3_b {v : EV} {p : Program} {l : Launch} {e : Env} {s : State} {m : MethodId} {args : Array Value} {below : List Frame} {meth : Method} {c : Code} (hC : Cx v p l e s m args meth c RX9 cX9_agreedAgain 3 (some .int)) {S : Mem} {x1 : Int32}  {r : Int32} {ih3 : Int32 → Option (Int32)} (hih3 : ∀ s9 : Int32, ih3 s9 = some r → Mj v p l e (rmF 3 55) s m args below meth c 3 (MQ below (Qc v (some (.int r)) S) args s 0 0 (eG v)) 0 S 3 [(0, .ref (eA v (218))), (1, .int (s9))] []) (hf : f_X9_agreedAgain_3_b ih3 S x1 = some r) : Mj v p l e (rmF 3 55) s m args below meth c 3 (MQ below (Qc v (some (.int r)) S) args s 0 0 (eG v)) 0 S 3 [(0, .ref (eA v (218))), (1, .int x1)] [] := by
  refine i_iload_n hC dX9_agreedAgain_3 rfl ?_
  refine i_if_le hC (tgt := 44) dX9_agreedAgain_4 (by decide) (fun c1 => ?_) (fun c1 => ?_)
  · replace hf := (if_pos c1).symm.trans hf
    refine i_iconst hC dX9_agreedAgain_44 li_0 ?_
    obtain rfl := Option.some.inj hf
    exact i_iret hC dX9_agreedAgain_45
  · replace hf := (if_neg c1).symm.trans hf
    refine i_iconst hC dX9_agreedAgain_7 li_0 ?_
    refine i_istore_n hC dX9_agreedAgain_8 (by decide) ?_
    exact Mj.to (b_X9_agreedAgain_9 hC hih3 hf) ⟨rfl, rfl, rfl, trivial⟩
theorem b_X9_agreedAgain_3 {v : EV} {p : Program} {l : Launch} {e : Env} {s : State} {m : MethodId} {args : Array Value} {below : List Frame} {meth : Method} {c : Code} (hC : Cx v p l e s m args meth c RX9 cX9_agreedAgain 3 (some .int)) {S : Mem} {x1 : Int32}  {r : Int32} (hf : f_X9_agreedAgain_3 S x1 = some r) : Mj v p l e (rmF 3 55) s m args below meth c 3 (MQ below (Qc v (some (.int r)) S) args s 0 0 (eG v)) 0 S 3 [(0, .ref (eA v (218))), (1, .int x1)] [] :=
  lp_ind (P := fun s9 : Int32 => Mj v p l e (rmF 3 55) s m args below meth c 3 (MQ below (Qc v (some (.int r)) S) args s 0 0 (eG v)) 0 S 3 [(0, .ref (eA v (218))), (1, .int (s9))] []) (fun ih s9 hih hf => b_X9_agreedAgain_3_b hC   hih hf) _ _ hf
set_option maxHeartbeats 4000000 in
set_option maxRecDepth 100000 in
theorem b_X9_agreedAgain_0 {v : EV} {p : Program} {l : Launch} {e : Env} {s : State} {m : MethodId} {args : Array Value} {below : List Frame} {meth : Method} {c : Code} (hC : Cx v p l e s m args meth c RX9 cX9_agreedAgain 3 (some .int)) {S : Mem}  {r : Int32} (hf : f_X9_agreedAgain_0 S = some r) : Mj v p l e (rmF 3 55) s m args below meth c 3 (MQ below (Qc v (some (.int r)) S) args s 0 0 (eG v)) 0 S 0 [(0, .ref (eA v (218)))] [] := by
  refine i_bipush hC dX9_agreedAgain_0 lb_12 ?_
  refine i_istore_n hC dX9_agreedAgain_2 (by decide) ?_
  exact Mj.to (b_X9_agreedAgain_3 hC  hf) ⟨rfl, rfl, trivial⟩
theorem c_X9_agreedAgain {v : EV} {l : Launch} (hst : Stb v) {S : Mem}  {r : Int32} (hf : g_X9_agreedAgain S = some r) : Con v l yX9_agreedAgain cX9_agreedAgain 3 (some .int) 3 55 [.ref (eA v (218))] S (some (.int r)) S := con_of (by decide) hst (Nat.le_of_ble_eq_true rfl) (fun p e s m args below meth c hC => b_X9_agreedAgain_0 hC  hf)
def f_X9_conflicts_51 (ih4 : (Int32 × Int32) → Option (Int32)) (ih16 : (Int32 × Int32) → Option (Int32)) (S : Mem) (x2 : Int32) (x3 : Int32) (xt0 : Int32) (xt1 : Int32) : Option (Int32) := ih16 ((xt1 + xt0), (x3 + (1 : Int32)))
def f_X9_conflicts_16_b (ih4 : (Int32 × Int32) → Option (Int32)) (ih16 : (Int32 × Int32) → Option (Int32)) (S : Mem) (x1 : Int32) (x2 : Int32) (x3 : Int32) : Option (Int32) := (if x2 ≤ x3 then ih4 (x1, (x2 + (1 : Int32))) else bd1 (g_X9_alikeTo S x2 x3) (fun r3 => bd1 (g_X9_of S x2 (5 : Int32)) (fun r4 => bd1 (g_X9_of S x3 (5 : Int32)) (fun r5 => bd1 (g_X9_lesser r4 r5) (fun r6 => (if r6 ≤ r3 then f_X9_conflicts_51 ih4 ih16 S x2 x3 (0 : Int32) x1 else f_X9_conflicts_51 ih4 ih16 S x2 x3 (1 : Int32) x1))))))
def f_X9_conflicts_16 (ih4 : (Int32 × Int32) → Option (Int32)) (S : Mem) (x1 : Int32) (x2 : Int32) (x3 : Int32) : Option (Int32) := lp (fun ih16 s9 => f_X9_conflicts_16_b ih4 ih16 S s9.1 x2 s9.2) 2000 (x1, x3)
def f_X9_conflicts_4_b (ih4 : (Int32 × Int32) → Option (Int32)) (S : Mem) (x1 : Int32) (x2 : Int32) : Option (Int32) := (if (S 20 1) ≤ x2 then some x1 else f_X9_conflicts_16 ih4 S x1 x2 (0 : Int32))
def f_X9_conflicts_4 (S : Mem) (x1 : Int32) (x2 : Int32) : Option (Int32) := lp (fun ih4 s9 => f_X9_conflicts_4_b ih4 S s9.1 s9.2) 2000 (x1, x2)
def f_X9_conflicts_0 (S : Mem)  : Option (Int32) := f_X9_conflicts_4 S (0 : Int32) (0 : Int32)
def g_X9_conflicts (S : Mem)  : Option (Int32) := f_X9_conflicts_0 S
set_option maxHeartbeats 4000000 in
set_option maxRecDepth 100000 in
theorem b_X9_conflicts_51 {v : EV} {p : Program} {l : Launch} {e : Env} {s : State} {m : MethodId} {args : Array Value} {below : List Frame} {meth : Method} {c : Code} (hC : Cx v p l e s m args meth c RX9 cX9_conflicts 4 (some .int)) {S : Mem} {x2 : Int32} {x3 : Int32} {xt0 : Int32} {xt1 : Int32}  {r : Int32} {ih4 : (Int32 × Int32) → Option (Int32)} (hih4 : ∀ s9 : (Int32 × Int32), ih4 s9 = some r → Mj v p l e (rmF 4 79) s m args below meth c 4 (MQ below (Qc v (some (.int r)) S) args s 0 0 (eG v)) 0 S 4 [(0, .ref (eA v (218))), (1, .int (s9.1)), (2, .int (s9.2))] []) {ih16 : (Int32 × Int32) → Option (Int32)} (hih16 : ∀ s9 : (Int32 × Int32), ih16 s9 = some r → Mj v p l e (rmF 4 79) s m args below meth c 4 (MQ below (Qc v (some (.int r)) S) args s 0 0 (eG v)) 0 S 16 [(0, .ref (eA v (218))), (1, .int (s9.1)), (2, .int x2), (3, .int (s9.2))] []) (hf : f_X9_conflicts_51 ih4 ih16 S x2 x3 xt0 xt1 = some r) : Mj v p l e (rmF 4 79) s m args below meth c 4 (MQ below (Qc v (some (.int r)) S) args s 0 0 (eG v)) 0 S 51 [(0, .ref (eA v (218))), (2, .int x2), (3, .int x3)] [.int xt0, .int xt1] := by
  refine i_iadd hC dX9_conflicts_51 ?_
  refine i_istore_n hC dX9_conflicts_52 (by decide) ?_
  refine i_iinc hC dX9_conflicts_53 rfl li_1 (by decide) ?_
  refine i_goto hC (tgt := 16) dX9_conflicts_56 (by decide) ?_
  exact Mj.to (hih16 _ hf) ⟨rfl, rfl, rfl, rfl, trivial⟩
set_option maxHeartbeats 4000000 in
set_option maxRecDepth 100000 in
theorem b_X9_conflicts_16_b {v : EV} {p : Program} {l : Launch} {e : Env} {s : State} {m : MethodId} {args : Array Value} {below : List Frame} {meth : Method} {c : Code} (hC : Cx v p l e s m args meth c RX9 cX9_conflicts 4 (some .int)) {S : Mem} {x1 : Int32} {x2 : Int32} {x3 : Int32}  {r : Int32} {ih4 : (Int32 × Int32) → Option (Int32)} (hih4 : ∀ s9 : (Int32 × Int32), ih4 s9 = some r → Mj v p l e (rmF 4 79) s m args below meth c 4 (MQ below (Qc v (some (.int r)) S) args s 0 0 (eG v)) 0 S 4 [(0, .ref (eA v (218))), (1, .int (s9.1)), (2, .int (s9.2))] []) {ih16 : (Int32 × Int32) → Option (Int32)} (hih16 : ∀ s9 : (Int32 × Int32), ih16 s9 = some r → Mj v p l e (rmF 4 79) s m args below meth c 4 (MQ below (Qc v (some (.int r)) S) args s 0 0 (eG v)) 0 S 16 [(0, .ref (eA v (218))), (1, .int (s9.1)), (2, .int x2), (3, .int (s9.2))] []) (hf : f_X9_conflicts_16_b ih4 ih16 S x1 x2 x3 = some r) : Mj v p l e (rmF 4 79) s m args below meth c 4 (MQ below (Qc v (some (.int r)) S) args s 0 0 (eG v)) 0 S 16 [(0, .ref (eA v (218))), (1, .int x1), (2, .int x2), (3, .int x3)] [] := by
  refine i_iload_n hC dX9_conflicts_16 rfl ?_
  refine i_iload_n hC dX9_conflicts_17 rfl ?_
  refine i_icmp_ge hC (tgt := 59) dX9_conflicts_18 (by decide) (fun c2 => ?_) (fun c2 => ?_)
  · replace hf := (if_pos c2).symm.trans hf
    refine i_iinc hC dX9_conflicts_59 rfl li_1 (by decide) ?_
    refine i_goto hC (tgt := 4) dX9_conflicts_62 (by decide) ?_
    exact Mj.to (hih4 _ hf) ⟨rfl, rfl, rfl, trivial⟩
  · replace hf := (if_neg c2).symm.trans hf
    refine i_iload_n hC dX9_conflicts_21 rfl ?_
    refine i_aload_n hC dX9_conflicts_22 rfl ?_
    refine i_iload_n hC dX9_conflicts_23 rfl ?_
    refine i_iload_n hC dX9_conflicts_24 rfl ?_
    obtain ⟨r3, hc3, hf⟩ := bd1_of hf
    refine i_callVi hC mv_X9_131 (c_X9_alikeTo hC.2.2.2.2.2.2.2.1 hc3) (pln rfl) (lay_p218) rfl rfl rfl rfl ⟨Nat.le_of_ble_eq_true rfl, Nat.le_of_ble_eq_true rfl⟩ (Nat.le_of_ble_eq_true rfl) dX9_conflicts_25 ?_
    refine i_aload_n hC dX9_conflicts_28 rfl ?_
    refine i_iload_n hC dX9_conflicts_29 rfl ?_
    refine i_iconst hC dX9_conflicts_30 li_5 ?_
    obtain ⟨r4, hc4, hf⟩ := bd1_of hf
    refine i_callVi hC mv_X9_69 (c_X9_of hC.2.2.2.2.2.2.2.1 hc4) (pln rfl) (lay_p218) rfl rfl rfl rfl ⟨Nat.le_of_ble_eq_true rfl, Nat.le_of_ble_eq_true rfl⟩ (Nat.le_of_ble_eq_true rfl) dX9_conflicts_31 ?_
    refine i_aload_n hC dX9_conflicts_34 rfl ?_
    refine i_iload_n hC dX9_conflicts_35 rfl ?_
    refine i_iconst hC dX9_conflicts_36 li_5 ?_
    obtain ⟨r5, hc5, hf⟩ := bd1_of hf
    refine i_callVi hC mv_X9_69 (c_X9_of hC.2.2.2.2.2.2.2.1 hc5) (pln rfl) (lay_p218) rfl rfl rfl rfl ⟨Nat.le_of_ble_eq_true rfl, Nat.le_of_ble_eq_true rfl⟩ (Nat.le_of_ble_eq_true rfl) dX9_conflicts_37 ?_
    obtain ⟨r6, hc6, hf⟩ := bd1_of hf
    refine i_callSi hC mv_X9_72 (c_X9_lesser hC.2.2.2.2.2.2.2.1 hc6) rfl rfl rfl ⟨Nat.le_of_ble_eq_true rfl, Nat.le_of_ble_eq_true rfl⟩ (Nat.le_of_ble_eq_true rfl) dX9_conflicts_40 ?_
    refine i_icmp_ge hC (tgt := 50) dX9_conflicts_43 (by decide) (fun c7 => ?_) (fun c7 => ?_)
    · replace hf := (if_pos c7).symm.trans hf
      refine i_iconst hC dX9_conflicts_50 li_0 ?_
      exact Mj.to (b_X9_conflicts_51 hC hih4 hih16 hf) ⟨rfl, rfl, rfl, trivial⟩
    · replace hf := (if_neg c7).symm.trans hf
      refine i_iconst hC dX9_conflicts_46 li_1 ?_
      refine i_goto hC (tgt := 51) dX9_conflicts_47 (by decide) ?_
      exact Mj.to (b_X9_conflicts_51 hC hih4 hih16 hf) ⟨rfl, rfl, rfl, trivial⟩
theorem b_X9_conflicts_16 {v : EV} {p : Program} {l : Launch} {e : Env} {s : State} {m : MethodId} {args : Array Value} {below : List Frame} {meth : Method} {c : Code} (hC : Cx v p l e s m args meth c RX9 cX9_conflicts 4 (some .int)) {S : Mem} {x1 : Int32} {x2 : Int32} {x3 : Int32}  {r : Int32} {ih4 : (Int32 × Int32) → Option (Int32)} (hih4 : ∀ s9 : (Int32 × Int32), ih4 s9 = some r → Mj v p l e (rmF 4 79) s m args below meth c 4 (MQ below (Qc v (some (.int r)) S) args s 0 0 (eG v)) 0 S 4 [(0, .ref (eA v (218))), (1, .int (s9.1)), (2, .int (s9.2))] []) (hf : f_X9_conflicts_16 ih4 S x1 x2 x3 = some r) : Mj v p l e (rmF 4 79) s m args below meth c 4 (MQ below (Qc v (some (.int r)) S) args s 0 0 (eG v)) 0 S 16 [(0, .ref (eA v (218))), (1, .int x1), (2, .int x2), (3, .int x3)] [] :=
  lp_ind (P := fun s9 : (Int32 × Int32) => Mj v p l e (rmF 4 79) s m args below meth c 4 (MQ below (Qc v (some (.int r)) S) args s 0 0 (eG v)) 0 S 16 [(0, .ref (eA v (218))), (1, .int (s9.1)), (2, .int x2), (3, .int (s9.2))] []) (fun ih s9 hih hf => b_X9_conflicts_16_b hC  hih4 hih hf) _ _ hf
set_option maxHeartbeats 4000000 in
set_option maxRecDepth 100000 in
theorem b_X9_conflicts_4_b {v : EV} {p : Program} {l : Launch} {e : Env} {s : State} {m : MethodId} {args : Array Value} {below : List Frame} {meth : Method} {c : Code} (hC : Cx v p l e s m args meth c RX9 cX9_conflicts 4 (some .int)) {S : Mem} {x1 : Int32} {x2 : Int32}  {r : Int32} {ih4 : (Int32 × Int32) → Option (Int32)} (hih4 : ∀ s9 : (Int32 × Int32), ih4 s9 = some r → Mj v p l e (rmF 4 79) s m args below meth c 4 (MQ below (Qc v (some (.int r)) S) args s 0 0 (eG v)) 0 S 4 [(0, .ref (eA v (218))), (1, .int (s9.1)), (2, .int (s9.2))] []) (hf : f_X9_conflicts_4_b ih4 S x1 x2 = some r) : Mj v p l e (rmF 4 79) s m args below meth c 4 (MQ below (Qc v (some (.int r)) S) args s 0 0 (eG v)) 0 S 4 [(0, .ref (eA v (218))), (1, .int x1), (2, .int x2)] [] := by
  refine i_iload_n hC dX9_conflicts_4 rfl ?_
  refine i_aload_n hC dX9_conflicts_5 rfl ?_
  refine i_getR hC fl_X9_9 (pln rfl) (lay_p218) rfl dX9_conflicts_6 ?_
  refine i_iconst hC dX9_conflicts_9 li_1 ?_
  refine i_iald hC (j0 := 1) (pln rfl) (lay_p219) (inb_in (by decide)) (by decide) dX9_conflicts_10 ?_
  refine i_icmp_ge hC (tgt := 65) dX9_conflicts_11 (by decide) (fun c1 => ?_) (fun c1 => ?_)
  · replace hf := (if_pos c1).symm.trans hf
    refine i_iload_n hC dX9_conflicts_65 rfl ?_
    obtain rfl := Option.some.inj hf
    exact i_iret hC dX9_conflicts_66
  · replace hf := (if_neg c1).symm.trans hf
    refine i_iconst hC dX9_conflicts_14 li_0 ?_
    refine i_istore_n hC dX9_conflicts_15 (by decide) ?_
    exact Mj.to (b_X9_conflicts_16 hC hih4 hf) ⟨rfl, rfl, rfl, rfl, trivial⟩
theorem b_X9_conflicts_4 {v : EV} {p : Program} {l : Launch} {e : Env} {s : State} {m : MethodId} {args : Array Value} {below : List Frame} {meth : Method} {c : Code} (hC : Cx v p l e s m args meth c RX9 cX9_conflicts 4 (some .int)) {S : Mem} {x1 : Int32} {x2 : Int32}  {r : Int32} (hf : f_X9_conflicts_4 S x1 x2 = some r) : Mj v p l e (rmF 4 79) s m args below meth c 4 (MQ below (Qc v (some (.int r)) S) args s 0 0 (eG v)) 0 S 4 [(0, .ref (eA v (218))), (1, .int x1), (2, .int x2)] [] :=
  lp_ind (P := fun s9 : (Int32 × Int32) => Mj v p l e (rmF 4 79) s m args below meth c 4 (MQ below (Qc v (some (.int r)) S) args s 0 0 (eG v)) 0 S 4 [(0, .ref (eA v (218))), (1, .int (s9.1)), (2, .int (s9.2))] []) (fun ih s9 hih hf => b_X9_conflicts_4_b hC   hih hf) _ _ hf
set_option maxHeartbeats 4000000 in
set_option maxRecDepth 100000 in
theorem b_X9_conflicts_0 {v : EV} {p : Program} {l : Launch} {e : Env} {s : State} {m : MethodId} {args : Array Value} {below : List Frame} {meth : Method} {c : Code} (hC : Cx v p l e s m args meth c RX9 cX9_conflicts 4 (some .int)) {S : Mem}  {r : Int32} (hf : f_X9_conflicts_0 S = some r) : Mj v p l e (rmF 4 79) s m args below meth c 4 (MQ below (Qc v (some (.int r)) S) args s 0 0 (eG v)) 0 S 0 [(0, .ref (eA v (218)))] [] := by
  refine i_iconst hC dX9_conflicts_0 li_0 ?_
  refine i_istore_n hC dX9_conflicts_1 (by decide) ?_
  refine i_iconst hC dX9_conflicts_2 li_0 ?_
  refine i_istore_n hC dX9_conflicts_3 (by decide) ?_
  exact Mj.to (b_X9_conflicts_4 hC  hf) ⟨rfl, rfl, rfl, trivial⟩
theorem c_X9_conflicts {v : EV} {l : Launch} (hst : Stb v) {S : Mem}  {r : Int32} (hf : g_X9_conflicts S = some r) : Con v l yX9_conflicts cX9_conflicts 4 (some .int) 4 79 [.ref (eA v (218))] S (some (.int r)) S := con_of (by decide) hst (Nat.le_of_ble_eq_true rfl) (fun p e s m args below meth c hC => b_X9_conflicts_0 hC  hf)
def f_X9_isSafe_14_b (ih2 : Int32 → Option (Int32)) (ih14 : Int32 → Option (Int32)) (S : Mem) (x1 : Int32) (x2 : Int32) : Option (Int32) := (if x1 ≤ x2 then ih2 ((x1 + (1 : Int32))) else bd1 (g_X9_alikeTo S x1 x2) (fun r3 => bd1 (g_X9_of S x1 (6 : Int32)) (fun r4 => bd1 (g_X9_of S x2 (6 : Int32)) (fun r5 => bd1 (g_X9_lesser r4 r5) (fun r6 => (if r6 ≤ r3 then ih14 ((x2 + (1 : Int32))) else some (0 : Int32)))))))
def f_X9_isSafe_14 (ih2 : Int32 → Option (Int32)) (S : Mem) (x1 : Int32) (x2 : Int32) : Option (Int32) := lp (fun ih14 s9 => f_X9_isSafe_14_b ih2 ih14 S x1 s9) 2000 (x2)
def f_X9_isSafe_2_b (ih2 : Int32 → Option (Int32)) (S : Mem) (x1 : Int32) : Option (Int32) := (if (S 20 1) ≤ x1 then some (1 : Int32) else f_X9_isSafe_14 ih2 S x1 (0 : Int32))
def f_X9_isSafe_2 (S : Mem) (x1 : Int32) : Option (Int32) := lp (fun ih2 s9 => f_X9_isSafe_2_b ih2 S s9) 2000 (x1)
def f_X9_isSafe_0 (S : Mem)  : Option (Int32) := f_X9_isSafe_2 S (0 : Int32)
def g_X9_isSafe (S : Mem)  : Option (Int32) := f_X9_isSafe_0 S
set_option maxHeartbeats 4000000 in
set_option maxRecDepth 100000 in
theorem b_X9_isSafe_14_b {v : EV} {p : Program} {l : Launch} {e : Env} {s : State} {m : MethodId} {args : Array Value} {below : List Frame} {meth : Method} {c : Code} (hC : Cx v p l e s m args meth c RX9 cX9_isSafe 3 (some .int)) {S : Mem} {x1 : Int32} {x2 : Int32}  {r : Int32} {ih2 : Int32 → Option (Int32)} (hih2 : ∀ s9 : Int32, ih2 s9 = some r → Mj v p l e (rmF 4 79) s m args below meth c 3 (MQ below (Qc v (some (.int r)) S) args s 0 0 (eG v)) 0 S 2 [(0, .ref (eA v (218))), (1, .int (s9))] []) {ih14 : Int32 → Option (Int32)} (hih14 : ∀ s9 : Int32, ih14 s9 = some r → Mj v p l e (rmF 4 79) s m args below meth c 3 (MQ below (Qc v (some (.int r)) S) args s 0 0 (eG v)) 0 S 14 [(0, .ref (eA v (218))), (1, .int x1), (2, .int (s9))] []) (hf : f_X9_isSafe_14_b ih2 ih14 S x1 x2 = some r) : Mj v p l e (rmF 4 79) s m args below meth c 3 (MQ below (Qc v (some (.int r)) S) args s 0 0 (eG v)) 0 S 14 [(0, .ref (eA v (218))), (1, .int x1), (2, .int x2)] [] := by
  refine i_iload_n hC dX9_isSafe_14 rfl ?_
  refine i_iload_n hC dX9_isSafe_15 rfl ?_
  refine i_icmp_ge hC (tgt := 53) dX9_isSafe_16 (by decide) (fun c2 => ?_) (fun c2 => ?_)
  · replace hf := (if_pos c2).symm.trans hf
    refine i_iinc hC dX9_isSafe_53 rfl li_1 (by decide) ?_
    refine i_goto hC (tgt := 2) dX9_isSafe_56 (by decide) ?_
    exact Mj.to (hih2 _ hf) ⟨rfl, rfl, trivial⟩
  · replace hf := (if_neg c2).symm.trans hf
    refine i_aload_n hC dX9_isSafe_19 rfl ?_
    refine i_iload_n hC dX9_isSafe_20 rfl ?_
    refine i_iload_n hC dX9_isSafe_21 rfl ?_
    obtain ⟨r3, hc3, hf⟩ := bd1_of hf
    refine i_callVi hC mv_X9_131 (c_X9_alikeTo hC.2.2.2.2.2.2.2.1 hc3) (pln rfl) (lay_p218) rfl rfl rfl rfl ⟨Nat.le_of_ble_eq_true rfl, Nat.le_of_ble_eq_true rfl⟩ (Nat.le_of_ble_eq_true rfl) dX9_isSafe_22 ?_
    refine i_aload_n hC dX9_isSafe_25 rfl ?_
    refine i_iload_n hC dX9_isSafe_26 rfl ?_
    refine i_bipush hC dX9_isSafe_27 lb_6 ?_
    obtain ⟨r4, hc4, hf⟩ := bd1_of hf
    refine i_callVi hC mv_X9_69 (c_X9_of hC.2.2.2.2.2.2.2.1 hc4) (pln rfl) (lay_p218) rfl rfl rfl rfl ⟨Nat.le_of_ble_eq_true rfl, Nat.le_of_ble_eq_true rfl⟩ (Nat.le_of_ble_eq_true rfl) dX9_isSafe_29 ?_
    refine i_aload_n hC dX9_isSafe_32 rfl ?_
    refine i_iload_n hC dX9_isSafe_33 rfl ?_
    refine i_bipush hC dX9_isSafe_34 lb_6 ?_
    obtain ⟨r5, hc5, hf⟩ := bd1_of hf
    refine i_callVi hC mv_X9_69 (c_X9_of hC.2.2.2.2.2.2.2.1 hc5) (pln rfl) (lay_p218) rfl rfl rfl rfl ⟨Nat.le_of_ble_eq_true rfl, Nat.le_of_ble_eq_true rfl⟩ (Nat.le_of_ble_eq_true rfl) dX9_isSafe_36 ?_
    obtain ⟨r6, hc6, hf⟩ := bd1_of hf
    refine i_callSi hC mv_X9_72 (c_X9_lesser hC.2.2.2.2.2.2.2.1 hc6) rfl rfl rfl ⟨Nat.le_of_ble_eq_true rfl, Nat.le_of_ble_eq_true rfl⟩ (Nat.le_of_ble_eq_true rfl) dX9_isSafe_39 ?_
    refine i_icmp_ge hC (tgt := 47) dX9_isSafe_42 (by decide) (fun c7 => ?_) (fun c7 => ?_)
    · replace hf := (if_pos c7).symm.trans hf
      refine i_iinc hC dX9_isSafe_47 rfl li_1 (by decide) ?_
      refine i_goto hC (tgt := 14) dX9_isSafe_50 (by decide) ?_
      exact Mj.to (hih14 _ hf) ⟨rfl, rfl, rfl, trivial⟩
    · replace hf := (if_neg c7).symm.trans hf
      refine i_iconst hC dX9_isSafe_45 li_0 ?_
      obtain rfl := Option.some.inj hf
      exact i_iret hC dX9_isSafe_46
theorem b_X9_isSafe_14 {v : EV} {p : Program} {l : Launch} {e : Env} {s : State} {m : MethodId} {args : Array Value} {below : List Frame} {meth : Method} {c : Code} (hC : Cx v p l e s m args meth c RX9 cX9_isSafe 3 (some .int)) {S : Mem} {x1 : Int32} {x2 : Int32}  {r : Int32} {ih2 : Int32 → Option (Int32)} (hih2 : ∀ s9 : Int32, ih2 s9 = some r → Mj v p l e (rmF 4 79) s m args below meth c 3 (MQ below (Qc v (some (.int r)) S) args s 0 0 (eG v)) 0 S 2 [(0, .ref (eA v (218))), (1, .int (s9))] []) (hf : f_X9_isSafe_14 ih2 S x1 x2 = some r) : Mj v p l e (rmF 4 79) s m args below meth c 3 (MQ below (Qc v (some (.int r)) S) args s 0 0 (eG v)) 0 S 14 [(0, .ref (eA v (218))), (1, .int x1), (2, .int x2)] [] :=
  lp_ind (P := fun s9 : Int32 => Mj v p l e (rmF 4 79) s m args below meth c 3 (MQ below (Qc v (some (.int r)) S) args s 0 0 (eG v)) 0 S 14 [(0, .ref (eA v (218))), (1, .int x1), (2, .int (s9))] []) (fun ih s9 hih hf => b_X9_isSafe_14_b hC  hih2 hih hf) _ _ hf
set_option maxHeartbeats 4000000 in
set_option maxRecDepth 100000 in
theorem b_X9_isSafe_2_b {v : EV} {p : Program} {l : Launch} {e : Env} {s : State} {m : MethodId} {args : Array Value} {below : List Frame} {meth : Method} {c : Code} (hC : Cx v p l e s m args meth c RX9 cX9_isSafe 3 (some .int)) {S : Mem} {x1 : Int32}  {r : Int32} {ih2 : Int32 → Option (Int32)} (hih2 : ∀ s9 : Int32, ih2 s9 = some r → Mj v p l e (rmF 4 79) s m args below meth c 3 (MQ below (Qc v (some (.int r)) S) args s 0 0 (eG v)) 0 S 2 [(0, .ref (eA v (218))), (1, .int (s9))] []) (hf : f_X9_isSafe_2_b ih2 S x1 = some r) : Mj v p l e (rmF 4 79) s m args below meth c 3 (MQ below (Qc v (some (.int r)) S) args s 0 0 (eG v)) 0 S 2 [(0, .ref (eA v (218))), (1, .int x1)] [] := by
  refine i_iload_n hC dX9_isSafe_2 rfl ?_
  refine i_aload_n hC dX9_isSafe_3 rfl ?_
  refine i_getR hC fl_X9_9 (pln rfl) (lay_p218) rfl dX9_isSafe_4 ?_
  refine i_iconst hC dX9_isSafe_7 li_1 ?_
  refine i_iald hC (j0 := 1) (pln rfl) (lay_p219) (inb_in (by decide)) (by decide) dX9_isSafe_8 ?_
  refine i_icmp_ge hC (tgt := 59) dX9_isSafe_9 (by decide) (fun c1 => ?_) (fun c1 => ?_)
  · replace hf := (if_pos c1).symm.trans hf
    refine i_iconst hC dX9_isSafe_59 li_1 ?_
    obtain rfl := Option.some.inj hf
    exact i_iret hC dX9_isSafe_60
  · replace hf := (if_neg c1).symm.trans hf
    refine i_iconst hC dX9_isSafe_12 li_0 ?_
    refine i_istore_n hC dX9_isSafe_13 (by decide) ?_
    exact Mj.to (b_X9_isSafe_14 hC hih2 hf) ⟨rfl, rfl, rfl, trivial⟩
theorem b_X9_isSafe_2 {v : EV} {p : Program} {l : Launch} {e : Env} {s : State} {m : MethodId} {args : Array Value} {below : List Frame} {meth : Method} {c : Code} (hC : Cx v p l e s m args meth c RX9 cX9_isSafe 3 (some .int)) {S : Mem} {x1 : Int32}  {r : Int32} (hf : f_X9_isSafe_2 S x1 = some r) : Mj v p l e (rmF 4 79) s m args below meth c 3 (MQ below (Qc v (some (.int r)) S) args s 0 0 (eG v)) 0 S 2 [(0, .ref (eA v (218))), (1, .int x1)] [] :=
  lp_ind (P := fun s9 : Int32 => Mj v p l e (rmF 4 79) s m args below meth c 3 (MQ below (Qc v (some (.int r)) S) args s 0 0 (eG v)) 0 S 2 [(0, .ref (eA v (218))), (1, .int (s9))] []) (fun ih s9 hih hf => b_X9_isSafe_2_b hC   hih hf) _ _ hf
set_option maxHeartbeats 4000000 in
set_option maxRecDepth 100000 in
theorem b_X9_isSafe_0 {v : EV} {p : Program} {l : Launch} {e : Env} {s : State} {m : MethodId} {args : Array Value} {below : List Frame} {meth : Method} {c : Code} (hC : Cx v p l e s m args meth c RX9 cX9_isSafe 3 (some .int)) {S : Mem}  {r : Int32} (hf : f_X9_isSafe_0 S = some r) : Mj v p l e (rmF 4 79) s m args below meth c 3 (MQ below (Qc v (some (.int r)) S) args s 0 0 (eG v)) 0 S 0 [(0, .ref (eA v (218)))] [] := by
  refine i_iconst hC dX9_isSafe_0 li_0 ?_
  refine i_istore_n hC dX9_isSafe_1 (by decide) ?_
  exact Mj.to (b_X9_isSafe_2 hC  hf) ⟨rfl, rfl, trivial⟩
theorem c_X9_isSafe {v : EV} {l : Launch} (hst : Stb v) {S : Mem}  {r : Int32} (hf : g_X9_isSafe S = some r) : Con v l yX9_isSafe cX9_isSafe 3 (some .int) 4 79 [.ref (eA v (218))] S (some (.int r)) S := con_of (by decide) hst (Nat.le_of_ble_eq_true rfl) (fun p e s m args below meth c hC => b_X9_isSafe_0 hC  hf)
def f_X9_waitsYet_0 (S : Mem) (x1 : Int32) : Option (Int32) := bd1 (g_X9_of S x1 (2 : Int32)) (fun r1 => bd1 (g_X9_of S x1 (3 : Int32)) (fun r2 => some (r1 - r2)))
def g_X9_waitsYet (S : Mem) (x1 : Int32) : Option (Int32) := f_X9_waitsYet_0 S x1
set_option maxHeartbeats 4000000 in
set_option maxRecDepth 100000 in
theorem b_X9_waitsYet_0 {v : EV} {p : Program} {l : Launch} {e : Env} {s : State} {m : MethodId} {args : Array Value} {below : List Frame} {meth : Method} {c : Code} (hC : Cx v p l e s m args meth c RX9 cX9_waitsYet 2 (some .int)) {S : Mem} {x1 : Int32}  {r : Int32} (hf : f_X9_waitsYet_0 S x1 = some r) : Mj v p l e (rmF 3 55) s m args below meth c 2 (MQ below (Qc v (some (.int r)) S) args s 0 0 (eG v)) 0 S 0 [(0, .ref (eA v (218))), (1, .int x1)] [] := by
  refine i_aload_n hC dX9_waitsYet_0 rfl ?_
  refine i_iload_n hC dX9_waitsYet_1 rfl ?_
  refine i_iconst hC dX9_waitsYet_2 li_2 ?_
  obtain ⟨r1, hc1, hf⟩ := bd1_of hf
  refine i_callVi hC mv_X9_69 (c_X9_of hC.2.2.2.2.2.2.2.1 hc1) (pln rfl) (lay_p218) rfl rfl rfl rfl ⟨Nat.le_of_ble_eq_true rfl, Nat.le_of_ble_eq_true rfl⟩ (Nat.le_of_ble_eq_true rfl) dX9_waitsYet_3 ?_
  refine i_aload_n hC dX9_waitsYet_6 rfl ?_
  refine i_iload_n hC dX9_waitsYet_7 rfl ?_
  refine i_iconst hC dX9_waitsYet_8 li_3 ?_
  obtain ⟨r2, hc2, hf⟩ := bd1_of hf
  refine i_callVi hC mv_X9_69 (c_X9_of hC.2.2.2.2.2.2.2.1 hc2) (pln rfl) (lay_p218) rfl rfl rfl rfl ⟨Nat.le_of_ble_eq_true rfl, Nat.le_of_ble_eq_true rfl⟩ (Nat.le_of_ble_eq_true rfl) dX9_waitsYet_9 ?_
  refine i_isub hC dX9_waitsYet_12 ?_
  obtain rfl := Option.some.inj hf
  exact i_iret hC dX9_waitsYet_13
theorem c_X9_waitsYet {v : EV} {l : Launch} (hst : Stb v) {S : Mem} {x1 : Int32}  {r : Int32} (hf : g_X9_waitsYet S x1 = some r) : Con v l yX9_waitsYet cX9_waitsYet 2 (some .int) 3 55 [.ref (eA v (218)), .int x1] S (some (.int r)) S := con_of (by decide) hst (Nat.le_of_ble_eq_true rfl) (fun p e s m args below meth c hC => b_X9_waitsYet_0 hC  hf)
def f_X9_puts_0 (S : Mem) (x1 : Int32) : Option (Mem) := ck (inb (S 28 19) 120) (some (up (up S 27 (((S 28 19)).toNatClampNeg) x1) 28 19 (((up S 27 (((S 28 19)).toNatClampNeg) x1) 28 19) + (1 : Int32))))
def g_X9_puts (S : Mem) (x1 : Int32) : Option (Mem) := f_X9_puts_0 S x1
set_option maxHeartbeats 4000000 in
set_option maxRecDepth 100000 in
theorem b_X9_puts_0 {v : EV} {p : Program} {l : Launch} {e : Env} {s : State} {m : MethodId} {args : Array Value} {below : List Frame} {meth : Method} {c : Code} (hC : Cx v p l e s m args meth c RX9 cX9_puts 2 none) {S : Mem} {x1 : Int32}  {r : Mem} (hf : f_X9_puts_0 S x1 = some r) : Mj v p l e (rmF 1 12) s m args below meth c 2 (MQ below (Qc v (none) r) args s 0 0 (eG v)) 0 S 0 [(0, .ref (eA v (218))), (1, .int x1)] [] := by
  refine i_aload_n hC dX9_puts_0 rfl ?_
  refine i_getR hC fl_X9_35 (pln rfl) (lay_p218) rfl dX9_puts_1 ?_
  refine i_aload_n hC dX9_puts_4 rfl ?_
  refine i_getI hC fl_X9_282 (pln rfl) (lay_p218) rfl dX9_puts_5 ?_
  refine i_iload_n hC dX9_puts_8 rfl ?_
  obtain ⟨k1, hf⟩ := ck_of hf
  refine i_iast hC (j0 := (((S 28 19)).toNatClampNeg)) (pln rfl) (lay_p226) (bk_l ⟨rfl, rfl, rfl, rfl⟩) (inb_in k1) (Nat.zero_add _) dX9_puts_9 ?_
  refine i_aload_n hC dX9_puts_10 rfl ?_
  refine i_dup hC dX9_puts_11 rfl ?_
  refine i_getI hC fl_X9_282 (pln rfl) (lay_p218) rfl dX9_puts_12 ?_
  refine i_iconst hC dX9_puts_15 li_1 ?_
  refine i_iadd hC dX9_puts_16 ?_
  refine i_putI hC fl_X9_282 (pln rfl) (lay_p218) rfl (bk_l ⟨rfl, rfl, rfl, rfl⟩) (nf_int _) dX9_puts_17 ?_
  obtain rfl := Option.some.inj hf
  exact i_vret hC dX9_puts_20
theorem c_X9_puts {v : EV} {l : Launch} (hst : Stb v) {S : Mem} {x1 : Int32}  {r : Mem} (hf : g_X9_puts S x1 = some r) : Con v l yX9_puts cX9_puts 2 none 1 12 [.ref (eA v (218)), .int x1] S (none) r := con_of (by decide) hst (Nat.le_of_ble_eq_true rfl) (fun p e s m args below meth c hC => b_X9_puts_0 hC  hf)
def f_X9_tellVotes_92 (S : Mem)  : Option (Int32 × Mem) := some ((S 28 19), S)
def f_X9_tellVotes_73 (ih17 : (Mem × Int32) → Option (Int32 × Mem)) (S : Mem) (x1 : Int32) (x2 : Int32) : Option (Int32 × Mem) := ih17 (S, (x2 + (1 : Int32)))
def f_X9_tellVotes_65 (ih17 : (Mem × Int32) → Option (Int32 × Mem)) (S : Mem) (x1 : Int32) (x2 : Int32) : Option (Int32 × Mem) := bd1 (g_X9_puts S ((48 : Int32) + x2)) (fun S12 => f_X9_tellVotes_73 ih17 S12 x1 x2)
def f_X9_tellVotes_17_b (ih17 : (Mem × Int32) → Option (Int32 × Mem)) (S : Mem) (x1 : Int32) (x2 : Int32) : Option (Int32 × Mem) := (if (S 20 1) ≤ x2 then (if (S 28 19) = 0 then bd1 (g_X9_puts S (45 : Int32)) (fun S5 => f_X9_tellVotes_92 S5) else f_X9_tellVotes_92 S) else bd1 (g_X9_of S x2 (4 : Int32)) (fun r6 => (if r6 = x1 then bd1 (g_X9_of S x2 (1 : Int32)) (fun r8 => bd1 (g_X9_of S x1 (1 : Int32)) (fun r9 => (if r8 = r9 then (if (S 28 19) ≤ 0 then f_X9_tellVotes_65 ih17 S x1 x2 else bd1 (g_X9_puts S (44 : Int32)) (fun S13 => f_X9_tellVotes_65 ih17 S13 x1 x2)) else f_X9_tellVotes_73 ih17 S x1 x2))) else f_X9_tellVotes_73 ih17 S x1 x2)))
def f_X9_tellVotes_17 (S : Mem) (x1 : Int32) (x2 : Int32) : Option (Int32 × Mem) := lp (fun ih17 s9 => f_X9_tellVotes_17_b ih17 s9.1 x1 s9.2) 2000 (S, x2)
def f_X9_tellVotes_0 (S : Mem) (x1 : Int32) : Option (Int32 × Mem) := bd1 (g_X9_isDriver S x1) (fun r1 => (if r1 = 0 then some ((-1 : Int32), S) else f_X9_tellVotes_17 (up S 28 19 (0 : Int32)) x1 (0 : Int32)))
def g_X9_tellVotes (S : Mem) (x1 : Int32) : Option (Int32 × Mem) := f_X9_tellVotes_0 S x1
set_option maxHeartbeats 4000000 in
set_option maxRecDepth 100000 in
theorem b_X9_tellVotes_92 {v : EV} {p : Program} {l : Launch} {e : Env} {s : State} {m : MethodId} {args : Array Value} {below : List Frame} {meth : Method} {c : Code} (hC : Cx v p l e s m args meth c RX9 cX9_tellVotes 3 (some .int)) {S : Mem}  {r : Int32 × Mem} (hf : f_X9_tellVotes_92 S = some r) : Mj v p l e (rmF 3 55) s m args below meth c 3 (MQ below (Qc v (some (.int r.1)) r.2) args s 0 0 (eG v)) 0 S 92 [(0, .ref (eA v (218)))] [] := by
  refine i_aload_n hC dX9_tellVotes_92 rfl ?_
  refine i_getI hC fl_X9_282 (pln rfl) (lay_p218) rfl dX9_tellVotes_93 ?_
  obtain rfl := Option.some.inj hf
  exact i_iret hC dX9_tellVotes_96
set_option maxHeartbeats 4000000 in
set_option maxRecDepth 100000 in
theorem b_X9_tellVotes_73 {v : EV} {p : Program} {l : Launch} {e : Env} {s : State} {m : MethodId} {args : Array Value} {below : List Frame} {meth : Method} {c : Code} (hC : Cx v p l e s m args meth c RX9 cX9_tellVotes 3 (some .int)) {S : Mem} {x1 : Int32} {x2 : Int32}  {r : Int32 × Mem} {ih17 : (Mem × Int32) → Option (Int32 × Mem)} (hih17 : ∀ s9 : (Mem × Int32), ih17 s9 = some r → Mj v p l e (rmF 3 55) s m args below meth c 3 (MQ below (Qc v (some (.int r.1)) r.2) args s 0 0 (eG v)) 0 s9.1 17 [(0, .ref (eA v (218))), (1, .int x1), (2, .int (s9.2))] []) (hf : f_X9_tellVotes_73 ih17 S x1 x2 = some r) : Mj v p l e (rmF 3 55) s m args below meth c 3 (MQ below (Qc v (some (.int r.1)) r.2) args s 0 0 (eG v)) 0 S 73 [(0, .ref (eA v (218))), (1, .int x1), (2, .int x2)] [] := by
  refine i_iinc hC dX9_tellVotes_73 rfl li_1 (by decide) ?_
  refine i_goto hC (tgt := 17) dX9_tellVotes_76 (by decide) ?_
  exact Mj.to (hih17 _ hf) ⟨rfl, rfl, rfl, trivial⟩
set_option maxHeartbeats 4000000 in
set_option maxRecDepth 100000 in
theorem b_X9_tellVotes_65 {v : EV} {p : Program} {l : Launch} {e : Env} {s : State} {m : MethodId} {args : Array Value} {below : List Frame} {meth : Method} {c : Code} (hC : Cx v p l e s m args meth c RX9 cX9_tellVotes 3 (some .int)) {S : Mem} {x1 : Int32} {x2 : Int32}  {r : Int32 × Mem} {ih17 : (Mem × Int32) → Option (Int32 × Mem)} (hih17 : ∀ s9 : (Mem × Int32), ih17 s9 = some r → Mj v p l e (rmF 3 55) s m args below meth c 3 (MQ below (Qc v (some (.int r.1)) r.2) args s 0 0 (eG v)) 0 s9.1 17 [(0, .ref (eA v (218))), (1, .int x1), (2, .int (s9.2))] []) (hf : f_X9_tellVotes_65 ih17 S x1 x2 = some r) : Mj v p l e (rmF 3 55) s m args below meth c 3 (MQ below (Qc v (some (.int r.1)) r.2) args s 0 0 (eG v)) 0 S 65 [(0, .ref (eA v (218))), (1, .int x1), (2, .int x2)] [] := by
  refine i_aload_n hC dX9_tellVotes_65 rfl ?_
  refine i_bipush hC dX9_tellVotes_66 lb_48 ?_
  refine i_iload_n hC dX9_tellVotes_68 rfl ?_
  refine i_iadd hC dX9_tellVotes_69 ?_
  obtain ⟨S12, hc12, hf⟩ := bd1_of hf
  refine i_callVv hC mv_X9_288 (c_X9_puts hC.2.2.2.2.2.2.2.1 hc12) (pln rfl) (lay_p218) rfl rfl rfl rfl ⟨Nat.le_of_ble_eq_true rfl, Nat.le_of_ble_eq_true rfl⟩ (Nat.le_of_ble_eq_true rfl) dX9_tellVotes_70 ?_
  exact Mj.to (b_X9_tellVotes_73 hC hih17 hf) ⟨rfl, rfl, rfl, trivial⟩
set_option maxHeartbeats 4000000 in
set_option maxRecDepth 100000 in
theorem b_X9_tellVotes_17_b {v : EV} {p : Program} {l : Launch} {e : Env} {s : State} {m : MethodId} {args : Array Value} {below : List Frame} {meth : Method} {c : Code} (hC : Cx v p l e s m args meth c RX9 cX9_tellVotes 3 (some .int)) {S : Mem} {x1 : Int32} {x2 : Int32}  {r : Int32 × Mem} {ih17 : (Mem × Int32) → Option (Int32 × Mem)} (hih17 : ∀ s9 : (Mem × Int32), ih17 s9 = some r → Mj v p l e (rmF 3 55) s m args below meth c 3 (MQ below (Qc v (some (.int r.1)) r.2) args s 0 0 (eG v)) 0 s9.1 17 [(0, .ref (eA v (218))), (1, .int x1), (2, .int (s9.2))] []) (hf : f_X9_tellVotes_17_b ih17 S x1 x2 = some r) : Mj v p l e (rmF 3 55) s m args below meth c 3 (MQ below (Qc v (some (.int r.1)) r.2) args s 0 0 (eG v)) 0 S 17 [(0, .ref (eA v (218))), (1, .int x1), (2, .int x2)] [] := by
  refine i_iload_n hC dX9_tellVotes_17 rfl ?_
  refine i_aload_n hC dX9_tellVotes_18 rfl ?_
  refine i_getR hC fl_X9_9 (pln rfl) (lay_p218) rfl dX9_tellVotes_19 ?_
  refine i_iconst hC dX9_tellVotes_22 li_1 ?_
  refine i_iald hC (j0 := 1) (pln rfl) (lay_p219) (inb_in (by decide)) (by decide) dX9_tellVotes_23 ?_
  refine i_icmp_ge hC (tgt := 79) dX9_tellVotes_24 (by decide) (fun c3 => ?_) (fun c3 => ?_)
  · replace hf := (if_pos c3).symm.trans hf
    refine i_aload_n hC dX9_tellVotes_79 rfl ?_
    refine i_getI hC fl_X9_282 (pln rfl) (lay_p218) rfl dX9_tellVotes_80 ?_
    refine i_if_ne hC (tgt := 92) dX9_tellVotes_83 (by decide) (fun c4 => ?_) (fun c4 => ?_)
    · replace hf := (if_neg c4).symm.trans hf
      exact Mj.to (b_X9_tellVotes_92 hC  hf) ⟨rfl, trivial⟩
    · replace hf := (if_pos c4).symm.trans hf
      refine i_aload_n hC dX9_tellVotes_86 rfl ?_
      refine i_bipush hC dX9_tellVotes_87 lb_45 ?_
      obtain ⟨S5, hc5, hf⟩ := bd1_of hf
      refine i_callVv hC mv_X9_288 (c_X9_puts hC.2.2.2.2.2.2.2.1 hc5) (pln rfl) (lay_p218) rfl rfl rfl rfl ⟨Nat.le_of_ble_eq_true rfl, Nat.le_of_ble_eq_true rfl⟩ (Nat.le_of_ble_eq_true rfl) dX9_tellVotes_89 ?_
      exact Mj.to (b_X9_tellVotes_92 hC  hf) ⟨rfl, trivial⟩
  · replace hf := (if_neg c3).symm.trans hf
    refine i_aload_n hC dX9_tellVotes_27 rfl ?_
    refine i_iload_n hC dX9_tellVotes_28 rfl ?_
    refine i_iconst hC dX9_tellVotes_29 li_4 ?_
    obtain ⟨r6, hc6, hf⟩ := bd1_of hf
    refine i_callVi hC mv_X9_69 (c_X9_of hC.2.2.2.2.2.2.2.1 hc6) (pln rfl) (lay_p218) rfl rfl rfl rfl ⟨Nat.le_of_ble_eq_true rfl, Nat.le_of_ble_eq_true rfl⟩ (Nat.le_of_ble_eq_true rfl) dX9_tellVotes_30 ?_
    refine i_iload_n hC dX9_tellVotes_33 rfl ?_
    refine i_icmp_ne hC (tgt := 73) dX9_tellVotes_34 (by decide) (fun c7 => ?_) (fun c7 => ?_)
    · replace hf := (if_neg c7).symm.trans hf
      exact Mj.to (b_X9_tellVotes_73 hC hih17 hf) ⟨rfl, rfl, rfl, trivial⟩
    · replace hf := (if_pos c7).symm.trans hf
      refine i_aload_n hC dX9_tellVotes_37 rfl ?_
      refine i_iload_n hC dX9_tellVotes_38 rfl ?_
      refine i_iconst hC dX9_tellVotes_39 li_1 ?_
      obtain ⟨r8, hc8, hf⟩ := bd1_of hf
      refine i_callVi hC mv_X9_69 (c_X9_of hC.2.2.2.2.2.2.2.1 hc8) (pln rfl) (lay_p218) rfl rfl rfl rfl ⟨Nat.le_of_ble_eq_true rfl, Nat.le_of_ble_eq_true rfl⟩ (Nat.le_of_ble_eq_true rfl) dX9_tellVotes_40 ?_
      refine i_aload_n hC dX9_tellVotes_43 rfl ?_
      refine i_iload_n hC dX9_tellVotes_44 rfl ?_
      refine i_iconst hC dX9_tellVotes_45 li_1 ?_
      obtain ⟨r9, hc9, hf⟩ := bd1_of hf
      refine i_callVi hC mv_X9_69 (c_X9_of hC.2.2.2.2.2.2.2.1 hc9) (pln rfl) (lay_p218) rfl rfl rfl rfl ⟨Nat.le_of_ble_eq_true rfl, Nat.le_of_ble_eq_true rfl⟩ (Nat.le_of_ble_eq_true rfl) dX9_tellVotes_46 ?_
      refine i_icmp_ne hC (tgt := 73) dX9_tellVotes_49 (by decide) (fun c10 => ?_) (fun c10 => ?_)
      · replace hf := (if_neg c10).symm.trans hf
        exact Mj.to (b_X9_tellVotes_73 hC hih17 hf) ⟨rfl, rfl, rfl, trivial⟩
      · replace hf := (if_pos c10).symm.trans hf
        refine i_aload_n hC dX9_tellVotes_52 rfl ?_
        refine i_getI hC fl_X9_282 (pln rfl) (lay_p218) rfl dX9_tellVotes_53 ?_
        refine i_if_le hC (tgt := 65) dX9_tellVotes_56 (by decide) (fun c11 => ?_) (fun c11 => ?_)
        · replace hf := (if_pos c11).symm.trans hf
          exact Mj.to (b_X9_tellVotes_65 hC hih17 hf) ⟨rfl, rfl, rfl, trivial⟩
        · replace hf := (if_neg c11).symm.trans hf
          refine i_aload_n hC dX9_tellVotes_59 rfl ?_
          refine i_bipush hC dX9_tellVotes_60 lb_44 ?_
          obtain ⟨S13, hc13, hf⟩ := bd1_of hf
          refine i_callVv hC mv_X9_288 (c_X9_puts hC.2.2.2.2.2.2.2.1 hc13) (pln rfl) (lay_p218) rfl rfl rfl rfl ⟨Nat.le_of_ble_eq_true rfl, Nat.le_of_ble_eq_true rfl⟩ (Nat.le_of_ble_eq_true rfl) dX9_tellVotes_62 ?_
          exact Mj.to (b_X9_tellVotes_65 hC hih17 hf) ⟨rfl, rfl, rfl, trivial⟩
theorem b_X9_tellVotes_17 {v : EV} {p : Program} {l : Launch} {e : Env} {s : State} {m : MethodId} {args : Array Value} {below : List Frame} {meth : Method} {c : Code} (hC : Cx v p l e s m args meth c RX9 cX9_tellVotes 3 (some .int)) {S : Mem} {x1 : Int32} {x2 : Int32}  {r : Int32 × Mem} (hf : f_X9_tellVotes_17 S x1 x2 = some r) : Mj v p l e (rmF 3 55) s m args below meth c 3 (MQ below (Qc v (some (.int r.1)) r.2) args s 0 0 (eG v)) 0 S 17 [(0, .ref (eA v (218))), (1, .int x1), (2, .int x2)] [] :=
  lp_ind (P := fun s9 : (Mem × Int32) => Mj v p l e (rmF 3 55) s m args below meth c 3 (MQ below (Qc v (some (.int r.1)) r.2) args s 0 0 (eG v)) 0 s9.1 17 [(0, .ref (eA v (218))), (1, .int x1), (2, .int (s9.2))] []) (fun ih s9 hih hf => b_X9_tellVotes_17_b hC   hih hf) _ _ hf
set_option maxHeartbeats 4000000 in
set_option maxRecDepth 100000 in
theorem b_X9_tellVotes_0 {v : EV} {p : Program} {l : Launch} {e : Env} {s : State} {m : MethodId} {args : Array Value} {below : List Frame} {meth : Method} {c : Code} (hC : Cx v p l e s m args meth c RX9 cX9_tellVotes 3 (some .int)) {S : Mem} {x1 : Int32}  {r : Int32 × Mem} (hf : f_X9_tellVotes_0 S x1 = some r) : Mj v p l e (rmF 3 55) s m args below meth c 3 (MQ below (Qc v (some (.int r.1)) r.2) args s 0 0 (eG v)) 0 S 0 [(0, .ref (eA v (218))), (1, .int x1)] [] := by
  refine i_aload_n hC dX9_tellVotes_0 rfl ?_
  refine i_iload_n hC dX9_tellVotes_1 rfl ?_
  obtain ⟨r1, hc1, hf⟩ := bd1_of hf
  refine i_callVi hC mv_X9_65 (c_X9_isDriver hC.2.2.2.2.2.2.2.1 hc1) (pln rfl) (lay_p218) rfl rfl rfl rfl ⟨Nat.le_of_ble_eq_true rfl, Nat.le_of_ble_eq_true rfl⟩ (Nat.le_of_ble_eq_true rfl) dX9_tellVotes_2 ?_
  refine i_if_ne hC (tgt := 10) dX9_tellVotes_5 (by decide) (fun c2 => ?_) (fun c2 => ?_)
  · replace hf := (if_neg c2).symm.trans hf
    refine i_aload_n hC dX9_tellVotes_10 rfl ?_
    refine i_iconst hC dX9_tellVotes_11 li_0 ?_
    refine i_putI hC fl_X9_282 (pln rfl) (lay_p218) rfl (bk_l ⟨rfl, rfl, rfl, rfl⟩) (nf_int _) dX9_tellVotes_12 ?_
    refine i_iconst hC dX9_tellVotes_15 li_0 ?_
    refine i_istore_n hC dX9_tellVotes_16 (by decide) ?_
    exact Mj.to (b_X9_tellVotes_17 hC  hf) ⟨rfl, rfl, rfl, trivial⟩
  · replace hf := (if_pos c2).symm.trans hf
    refine i_iconst hC dX9_tellVotes_8 li_m1 ?_
    obtain rfl := Option.some.inj hf
    exact i_iret hC dX9_tellVotes_9
theorem c_X9_tellVotes {v : EV} {l : Launch} (hst : Stb v) {S : Mem} {x1 : Int32}  {r : Int32 × Mem} (hf : g_X9_tellVotes S x1 = some r) : Con v l yX9_tellVotes cX9_tellVotes 3 (some .int) 3 55 [.ref (eA v (218)), .int x1] S (some (.int r.1)) r.2 := con_of (by decide) hst (Nat.le_of_ble_eq_true rfl) (fun p e s m args below meth c hC => b_X9_tellVotes_0 hC  hf)
def f_X9_written_24 (S : Mem) (xt0 : Int32) : Option (Int32) := some xt0
def f_X9_written_0 (S : Mem) (x1 : Int32) : Option (Int32) := bd1 (g_X9_isIn x1 (0 : Int32) ((S 28 19) - (1 : Int32))) (fun r1 => (if r1 = 0 then f_X9_written_24 S (-1 : Int32) else ck (inb x1 120) (f_X9_written_24 S (S 27 ((x1).toNatClampNeg)))))
def g_X9_written (S : Mem) (x1 : Int32) : Option (Int32) := f_X9_written_0 S x1
set_option maxHeartbeats 4000000 in
set_option maxRecDepth 100000 in
theorem b_X9_written_24 {v : EV} {p : Program} {l : Launch} {e : Env} {s : State} {m : MethodId} {args : Array Value} {below : List Frame} {meth : Method} {c : Code} (hC : Cx v p l e s m args meth c RX9 cX9_written 2 (some .int)) {S : Mem} {xt0 : Int32}  {r : Int32} (hf : f_X9_written_24 S xt0 = some r) : Mj v p l e (rmF 2 34) s m args below meth c 2 (MQ below (Qc v (some (.int r)) S) args s 0 0 (eG v)) 0 S 24 [] [.int xt0] := by
  obtain rfl := Option.some.inj hf
  exact i_iret hC dX9_written_24
set_option maxHeartbeats 4000000 in
set_option maxRecDepth 100000 in
theorem b_X9_written_0 {v : EV} {p : Program} {l : Launch} {e : Env} {s : State} {m : MethodId} {args : Array Value} {below : List Frame} {meth : Method} {c : Code} (hC : Cx v p l e s m args meth c RX9 cX9_written 2 (some .int)) {S : Mem} {x1 : Int32}  {r : Int32} (hf : f_X9_written_0 S x1 = some r) : Mj v p l e (rmF 2 34) s m args below meth c 2 (MQ below (Qc v (some (.int r)) S) args s 0 0 (eG v)) 0 S 0 [(0, .ref (eA v (218))), (1, .int x1)] [] := by
  refine i_iload_n hC dX9_written_0 rfl ?_
  refine i_iconst hC dX9_written_1 li_0 ?_
  refine i_aload_n hC dX9_written_2 rfl ?_
  refine i_getI hC fl_X9_282 (pln rfl) (lay_p218) rfl dX9_written_3 ?_
  refine i_iconst hC dX9_written_6 li_1 ?_
  refine i_isub hC dX9_written_7 ?_
  obtain ⟨r1, hc1, hf⟩ := bd1_of hf
  refine i_callSi hC mv_X9_61 (c_X9_isIn hC.2.2.2.2.2.2.2.1 hc1) rfl rfl rfl ⟨Nat.le_of_ble_eq_true rfl, Nat.le_of_ble_eq_true rfl⟩ (Nat.le_of_ble_eq_true rfl) dX9_written_8 ?_
  refine i_if_eq hC (tgt := 23) dX9_written_11 (by decide) (fun c2 => ?_) (fun c2 => ?_)
  · replace hf := (if_pos c2).symm.trans hf
    refine i_iconst hC dX9_written_23 li_m1 ?_
    exact Mj.to (b_X9_written_24 hC  hf) trivial
  · replace hf := (if_neg c2).symm.trans hf
    refine i_aload_n hC dX9_written_14 rfl ?_
    refine i_getR hC fl_X9_35 (pln rfl) (lay_p218) rfl dX9_written_15 ?_
    refine i_iload_n hC dX9_written_18 rfl ?_
    obtain ⟨k3, hf⟩ := ck_of hf
    refine i_iald hC (j0 := ((x1).toNatClampNeg)) (pln rfl) (lay_p226) (inb_in k3) (Nat.zero_add _) dX9_written_19 ?_
    refine i_goto hC (tgt := 24) dX9_written_20 (by decide) ?_
    exact Mj.to (b_X9_written_24 hC  hf) trivial
theorem c_X9_written {v : EV} {l : Launch} (hst : Stb v) {S : Mem} {x1 : Int32}  {r : Int32} (hf : g_X9_written S x1 = some r) : Con v l yX9_written cX9_written 2 (some .int) 2 34 [.ref (eA v (218)), .int x1] S (some (.int r)) S := con_of (by decide) hst (Nat.le_of_ble_eq_true rfl) (fun p e s m args below meth c hC => b_X9_written_0 hC  hf)
def f_X9_allOf_4_b (ih4 : (Int32 × Int32) → Option (Int32)) (S : Mem) (x1 : Int32) (x2 : Int32) (x3 : Int32) : Option (Int32) := (if (S 20 1) ≤ x3 then some x2 else bd1 (g_X9_of S x3 x1) (fun r2 => ih4 ((x2 + r2), (x3 + (1 : Int32)))))
def f_X9_allOf_4 (S : Mem) (x1 : Int32) (x2 : Int32) (x3 : Int32) : Option (Int32) := lp (fun ih4 s9 => f_X9_allOf_4_b ih4 S x1 s9.1 s9.2) 2000 (x2, x3)
def f_X9_allOf_0 (S : Mem) (x1 : Int32) : Option (Int32) := f_X9_allOf_4 S x1 (0 : Int32) (0 : Int32)
def g_X9_allOf (S : Mem) (x1 : Int32) : Option (Int32) := f_X9_allOf_0 S x1
set_option maxHeartbeats 4000000 in
set_option maxRecDepth 100000 in
theorem b_X9_allOf_4_b {v : EV} {p : Program} {l : Launch} {e : Env} {s : State} {m : MethodId} {args : Array Value} {below : List Frame} {meth : Method} {c : Code} (hC : Cx v p l e s m args meth c RX9 cX9_allOf 4 (some .int)) {S : Mem} {x1 : Int32} {x2 : Int32} {x3 : Int32}  {r : Int32} {ih4 : (Int32 × Int32) → Option (Int32)} (hih4 : ∀ s9 : (Int32 × Int32), ih4 s9 = some r → Mj v p l e (rmF 3 55) s m args below meth c 4 (MQ below (Qc v (some (.int r)) S) args s 0 0 (eG v)) 0 S 4 [(0, .ref (eA v (218))), (1, .int x1), (2, .int (s9.1)), (3, .int (s9.2))] []) (hf : f_X9_allOf_4_b ih4 S x1 x2 x3 = some r) : Mj v p l e (rmF 3 55) s m args below meth c 4 (MQ below (Qc v (some (.int r)) S) args s 0 0 (eG v)) 0 S 4 [(0, .ref (eA v (218))), (1, .int x1), (2, .int x2), (3, .int x3)] [] := by
  refine i_iload_n hC dX9_allOf_4 rfl ?_
  refine i_aload_n hC dX9_allOf_5 rfl ?_
  refine i_getR hC fl_X9_9 (pln rfl) (lay_p218) rfl dX9_allOf_6 ?_
  refine i_iconst hC dX9_allOf_9 li_1 ?_
  refine i_iald hC (j0 := 1) (pln rfl) (lay_p219) (inb_in (by decide)) (by decide) dX9_allOf_10 ?_
  refine i_icmp_ge hC (tgt := 29) dX9_allOf_11 (by decide) (fun c1 => ?_) (fun c1 => ?_)
  · replace hf := (if_pos c1).symm.trans hf
    refine i_iload_n hC dX9_allOf_29 rfl ?_
    obtain rfl := Option.some.inj hf
    exact i_iret hC dX9_allOf_30
  · replace hf := (if_neg c1).symm.trans hf
    refine i_iload_n hC dX9_allOf_14 rfl ?_
    refine i_aload_n hC dX9_allOf_15 rfl ?_
    refine i_iload_n hC dX9_allOf_16 rfl ?_
    refine i_iload_n hC dX9_allOf_17 rfl ?_
    obtain ⟨r2, hc2, hf⟩ := bd1_of hf
    refine i_callVi hC mv_X9_69 (c_X9_of hC.2.2.2.2.2.2.2.1 hc2) (pln rfl) (lay_p218) rfl rfl rfl rfl ⟨Nat.le_of_ble_eq_true rfl, Nat.le_of_ble_eq_true rfl⟩ (Nat.le_of_ble_eq_true rfl) dX9_allOf_18 ?_
    refine i_iadd hC dX9_allOf_21 ?_
    refine i_istore_n hC dX9_allOf_22 (by decide) ?_
    refine i_iinc hC dX9_allOf_23 rfl li_1 (by decide) ?_
    refine i_goto hC (tgt := 4) dX9_allOf_26 (by decide) ?_
    exact Mj.to (hih4 _ hf) ⟨rfl, rfl, rfl, rfl, trivial⟩
theorem b_X9_allOf_4 {v : EV} {p : Program} {l : Launch} {e : Env} {s : State} {m : MethodId} {args : Array Value} {below : List Frame} {meth : Method} {c : Code} (hC : Cx v p l e s m args meth c RX9 cX9_allOf 4 (some .int)) {S : Mem} {x1 : Int32} {x2 : Int32} {x3 : Int32}  {r : Int32} (hf : f_X9_allOf_4 S x1 x2 x3 = some r) : Mj v p l e (rmF 3 55) s m args below meth c 4 (MQ below (Qc v (some (.int r)) S) args s 0 0 (eG v)) 0 S 4 [(0, .ref (eA v (218))), (1, .int x1), (2, .int x2), (3, .int x3)] [] :=
  lp_ind (P := fun s9 : (Int32 × Int32) => Mj v p l e (rmF 3 55) s m args below meth c 4 (MQ below (Qc v (some (.int r)) S) args s 0 0 (eG v)) 0 S 4 [(0, .ref (eA v (218))), (1, .int x1), (2, .int (s9.1)), (3, .int (s9.2))] []) (fun ih s9 hih hf => b_X9_allOf_4_b hC   hih hf) _ _ hf
set_option maxHeartbeats 4000000 in
set_option maxRecDepth 100000 in
theorem b_X9_allOf_0 {v : EV} {p : Program} {l : Launch} {e : Env} {s : State} {m : MethodId} {args : Array Value} {below : List Frame} {meth : Method} {c : Code} (hC : Cx v p l e s m args meth c RX9 cX9_allOf 4 (some .int)) {S : Mem} {x1 : Int32}  {r : Int32} (hf : f_X9_allOf_0 S x1 = some r) : Mj v p l e (rmF 3 55) s m args below meth c 4 (MQ below (Qc v (some (.int r)) S) args s 0 0 (eG v)) 0 S 0 [(0, .ref (eA v (218))), (1, .int x1)] [] := by
  refine i_iconst hC dX9_allOf_0 li_0 ?_
  refine i_istore_n hC dX9_allOf_1 (by decide) ?_
  refine i_iconst hC dX9_allOf_2 li_0 ?_
  refine i_istore_n hC dX9_allOf_3 (by decide) ?_
  exact Mj.to (b_X9_allOf_4 hC  hf) ⟨rfl, rfl, rfl, rfl, trivial⟩
theorem c_X9_allOf {v : EV} {l : Launch} (hst : Stb v) {S : Mem} {x1 : Int32}  {r : Int32} (hf : g_X9_allOf S x1 = some r) : Con v l yX9_allOf cX9_allOf 4 (some .int) 3 55 [.ref (eA v (218)), .int x1] S (some (.int r)) S := con_of (by decide) hst (Nat.le_of_ble_eq_true rfl) (fun p e s m args below meth c hC => b_X9_allOf_0 hC  hf)
def f_X9_greatestTerm_4_b (ih4 : (Int32 × Int32) → Option (Int32)) (S : Mem) (x1 : Int32) (x2 : Int32) : Option (Int32) := (if (S 20 1) ≤ x2 then some x1 else bd1 (g_X9_of S x2 (1 : Int32)) (fun r2 => bd1 (g_X9_greater x1 r2) (fun r3 => ih4 (r3, (x2 + (1 : Int32))))))
def f_X9_greatestTerm_4 (S : Mem) (x1 : Int32) (x2 : Int32) : Option (Int32) := lp (fun ih4 s9 => f_X9_greatestTerm_4_b ih4 S s9.1 s9.2) 2000 (x1, x2)
def f_X9_greatestTerm_0 (S : Mem)  : Option (Int32) := f_X9_greatestTerm_4 S (0 : Int32) (0 : Int32)
def g_X9_greatestTerm (S : Mem)  : Option (Int32) := f_X9_greatestTerm_0 S
set_option maxHeartbeats 4000000 in
set_option maxRecDepth 100000 in
theorem b_X9_greatestTerm_4_b {v : EV} {p : Program} {l : Launch} {e : Env} {s : State} {m : MethodId} {args : Array Value} {below : List Frame} {meth : Method} {c : Code} (hC : Cx v p l e s m args meth c RX9 cX9_greatestTerm 3 (some .int)) {S : Mem} {x1 : Int32} {x2 : Int32}  {r : Int32} {ih4 : (Int32 × Int32) → Option (Int32)} (hih4 : ∀ s9 : (Int32 × Int32), ih4 s9 = some r → Mj v p l e (rmF 3 55) s m args below meth c 3 (MQ below (Qc v (some (.int r)) S) args s 0 0 (eG v)) 0 S 4 [(0, .ref (eA v (218))), (1, .int (s9.1)), (2, .int (s9.2))] []) (hf : f_X9_greatestTerm_4_b ih4 S x1 x2 = some r) : Mj v p l e (rmF 3 55) s m args below meth c 3 (MQ below (Qc v (some (.int r)) S) args s 0 0 (eG v)) 0 S 4 [(0, .ref (eA v (218))), (1, .int x1), (2, .int x2)] [] := by
  refine i_iload_n hC dX9_greatestTerm_4 rfl ?_
  refine i_aload_n hC dX9_greatestTerm_5 rfl ?_
  refine i_getR hC fl_X9_9 (pln rfl) (lay_p218) rfl dX9_greatestTerm_6 ?_
  refine i_iconst hC dX9_greatestTerm_9 li_1 ?_
  refine i_iald hC (j0 := 1) (pln rfl) (lay_p219) (inb_in (by decide)) (by decide) dX9_greatestTerm_10 ?_
  refine i_icmp_ge hC (tgt := 31) dX9_greatestTerm_11 (by decide) (fun c1 => ?_) (fun c1 => ?_)
  · replace hf := (if_pos c1).symm.trans hf
    refine i_iload_n hC dX9_greatestTerm_31 rfl ?_
    obtain rfl := Option.some.inj hf
    exact i_iret hC dX9_greatestTerm_32
  · replace hf := (if_neg c1).symm.trans hf
    refine i_iload_n hC dX9_greatestTerm_14 rfl ?_
    refine i_aload_n hC dX9_greatestTerm_15 rfl ?_
    refine i_iload_n hC dX9_greatestTerm_16 rfl ?_
    refine i_iconst hC dX9_greatestTerm_17 li_1 ?_
    obtain ⟨r2, hc2, hf⟩ := bd1_of hf
    refine i_callVi hC mv_X9_69 (c_X9_of hC.2.2.2.2.2.2.2.1 hc2) (pln rfl) (lay_p218) rfl rfl rfl rfl ⟨Nat.le_of_ble_eq_true rfl, Nat.le_of_ble_eq_true rfl⟩ (Nat.le_of_ble_eq_true rfl) dX9_greatestTerm_18 ?_
    obtain ⟨r3, hc3, hf⟩ := bd1_of hf
    refine i_callSi hC mv_X9_75 (c_X9_greater hC.2.2.2.2.2.2.2.1 hc3) rfl rfl rfl ⟨Nat.le_of_ble_eq_true rfl, Nat.le_of_ble_eq_true rfl⟩ (Nat.le_of_ble_eq_true rfl) dX9_greatestTerm_21 ?_
    refine i_istore_n hC dX9_greatestTerm_24 (by decide) ?_
    refine i_iinc hC dX9_greatestTerm_25 rfl li_1 (by decide) ?_
    refine i_goto hC (tgt := 4) dX9_greatestTerm_28 (by decide) ?_
    exact Mj.to (hih4 _ hf) ⟨rfl, rfl, rfl, trivial⟩
theorem b_X9_greatestTerm_4 {v : EV} {p : Program} {l : Launch} {e : Env} {s : State} {m : MethodId} {args : Array Value} {below : List Frame} {meth : Method} {c : Code} (hC : Cx v p l e s m args meth c RX9 cX9_greatestTerm 3 (some .int)) {S : Mem} {x1 : Int32} {x2 : Int32}  {r : Int32} (hf : f_X9_greatestTerm_4 S x1 x2 = some r) : Mj v p l e (rmF 3 55) s m args below meth c 3 (MQ below (Qc v (some (.int r)) S) args s 0 0 (eG v)) 0 S 4 [(0, .ref (eA v (218))), (1, .int x1), (2, .int x2)] [] :=
  lp_ind (P := fun s9 : (Int32 × Int32) => Mj v p l e (rmF 3 55) s m args below meth c 3 (MQ below (Qc v (some (.int r)) S) args s 0 0 (eG v)) 0 S 4 [(0, .ref (eA v (218))), (1, .int (s9.1)), (2, .int (s9.2))] []) (fun ih s9 hih hf => b_X9_greatestTerm_4_b hC   hih hf) _ _ hf
set_option maxHeartbeats 4000000 in
set_option maxRecDepth 100000 in
theorem b_X9_greatestTerm_0 {v : EV} {p : Program} {l : Launch} {e : Env} {s : State} {m : MethodId} {args : Array Value} {below : List Frame} {meth : Method} {c : Code} (hC : Cx v p l e s m args meth c RX9 cX9_greatestTerm 3 (some .int)) {S : Mem}  {r : Int32} (hf : f_X9_greatestTerm_0 S = some r) : Mj v p l e (rmF 3 55) s m args below meth c 3 (MQ below (Qc v (some (.int r)) S) args s 0 0 (eG v)) 0 S 0 [(0, .ref (eA v (218)))] [] := by
  refine i_iconst hC dX9_greatestTerm_0 li_0 ?_
  refine i_istore_n hC dX9_greatestTerm_1 (by decide) ?_
  refine i_iconst hC dX9_greatestTerm_2 li_0 ?_
  refine i_istore_n hC dX9_greatestTerm_3 (by decide) ?_
  exact Mj.to (b_X9_greatestTerm_4 hC  hf) ⟨rfl, rfl, rfl, trivial⟩
theorem c_X9_greatestTerm {v : EV} {l : Launch} (hst : Stb v) {S : Mem}  {r : Int32} (hf : g_X9_greatestTerm S = some r) : Con v l yX9_greatestTerm cX9_greatestTerm 3 (some .int) 3 55 [.ref (eA v (218))] S (some (.int r)) S := con_of (by decide) hst (Nat.le_of_ble_eq_true rfl) (fun p e s m args below meth c hC => b_X9_greatestTerm_0 hC  hf)
