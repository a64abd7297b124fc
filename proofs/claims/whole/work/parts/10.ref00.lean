def f_X9_clear_9_b (ih9 : (Mem × Int32) → Option (Int32 × Mem)) (S : Mem) (x1 : Int32) (x2 : Int32) : Option (Int32 × Mem) := (if (203 : Int32) ≤ x2 then some (x1, (up S 28 5 (0 : Int32))) else ck (inb x2 203) (ih9 ((up S 20 ((x2).toNatClampNeg) (0 : Int32)), (x2 + (1 : Int32)))))
def f_X9_clear_9 (S : Mem) (x1 : Int32) (x2 : Int32) : Option (Int32 × Mem) := lp (fun ih9 s9 => f_X9_clear_9_b ih9 s9.1 x1 s9.2) 2000 (S, x2)
def f_X9_clear_0 (S : Mem)  : Option (Int32 × Mem) := f_X9_clear_9 S (S 20 1) (0 : Int32)
def g_X9_clear (S : Mem)  : Option (Int32 × Mem) := f_X9_clear_0 S
set_option maxHeartbeats 4000000 in
set_option maxRecDepth 100000 in
theorem b_X9_clear_9_b {v : EV} {p : Program} {l : Launch} {e : Env} {s : State} {m : MethodId} {args : Array Value} {below : List Frame} {meth : Method} {c : Code} (hC : Cx v p l e s m args meth c RX9 cX9_clear 3 (some .int)) {S : Mem} {x1 : Int32} {x2 : Int32}  {r : Int32 × Mem} {ih9 : (Mem × Int32) → Option (Int32 × Mem)} (hih9 : ∀ s9 : (Mem × Int32), ih9 s9 = some r → Mj v p l e (rmF 1 12) s m args below meth c 3 (MQ below (Qc v (some (.int r.1)) r.2) args s 0 0 (eG v)) 0 s9.1 9 [(0, .ref (eA v (218))), (1, .int x1), (2, .int (s9.2))] []) (hf : f_X9_clear_9_b ih9 S x1 x2 = some r) : Mj v p l e (rmF 1 12) s m args below meth c 3 (MQ below (Qc v (some (.int r.1)) r.2) args s 0 0 (eG v)) 0 S 9 [(0, .ref (eA v (218))), (1, .int x1), (2, .int x2)] [] := by
  refine i_iload_n hC dX9_clear_9 rfl ?_
  refine i_sipush hC dX9_clear_10 lh_203 ?_
  refine i_icmp_ge hC (tgt := 29) dX9_clear_13 (by decide) (fun c1 => ?_) (fun c1 => ?_)
  · replace hf := (if_pos c1).symm.trans hf
    refine i_aload_n hC dX9_clear_29 rfl ?_
    refine i_iconst hC dX9_clear_30 li_0 ?_
    refine i_putI hC fl_X9_42 (pln rfl) (lay_p218) rfl (bk_l ⟨rfl, rfl, rfl, rfl⟩) (nf_int _) dX9_clear_31 ?_
    refine i_iload_n hC dX9_clear_34 rfl ?_
    obtain rfl := Option.some.inj hf
    exact i_iret hC dX9_clear_35
  · replace hf := (if_neg c1).symm.trans hf
    refine i_aload_n hC dX9_clear_16 rfl ?_
    refine i_getR hC fl_X9_9 (pln rfl) (lay_p218) rfl dX9_clear_17 ?_
    refine i_iload_n hC dX9_clear_20 rfl ?_
    refine i_iconst hC dX9_clear_21 li_0 ?_
    obtain ⟨k2, hf⟩ := ck_of hf
    refine i_iast hC (j0 := ((x2).toNatClampNeg)) (pln rfl) (lay_p219) (bk_l ⟨rfl, rfl, rfl, rfl⟩) (inb_in k2) (Nat.zero_add _) dX9_clear_22 ?_
    refine i_iinc hC dX9_clear_23 rfl li_1 (by decide) ?_
    refine i_goto hC (tgt := 9) dX9_clear_26 (by decide) ?_
    exact Mj.to (hih9 _ hf) ⟨rfl, rfl, rfl, trivial⟩
theorem b_X9_clear_9 {v : EV} {p : Program} {l : Launch} {e : Env} {s : State} {m : MethodId} {args : Array Value} {below : List Frame} {meth : Method} {c : Code} (hC : Cx v p l e s m args meth c RX9 cX9_clear 3 (some .int)) {S : Mem} {x1 : Int32} {x2 : Int32}  {r : Int32 × Mem} (hf : f_X9_clear_9 S x1 x2 = some r) : Mj v p l e (rmF 1 12) s m args below meth c 3 (MQ below (Qc v (some (.int r.1)) r.2) args s 0 0 (eG v)) 0 S 9 [(0, .ref (eA v (218))), (1, .int x1), (2, .int x2)] [] :=
  lp_ind (P := fun s9 : (Mem × Int32) => Mj v p l e (rmF 1 12) s m args below meth c 3 (MQ below (Qc v (some (.int r.1)) r.2) args s 0 0 (eG v)) 0 s9.1 9 [(0, .ref (eA v (218))), (1, .int x1), (2, .int (s9.2))] []) (fun ih s9 hih hf => b_X9_clear_9_b hC   hih hf) _ _ hf
set_option maxHeartbeats 4000000 in
set_option maxRecDepth 100000 in
theorem b_X9_clear_0 {v : EV} {p : Program} {l : Launch} {e : Env} {s : State} {m : MethodId} {args : Array Value} {below : List Frame} {meth : Method} {c : Code} (hC : Cx v p l e s m args meth c RX9 cX9_clear 3 (some .int)) {S : Mem}  {r : Int32 × Mem} (hf : f_X9_clear_0 S = some r) : Mj v p l e (rmF 1 12) s m args below meth c 3 (MQ below (Qc v (some (.int r.1)) r.2) args s 0 0 (eG v)) 0 S 0 [(0, .ref (eA v (218)))] [] := by
  refine i_aload_n hC dX9_clear_0 rfl ?_
  refine i_getR hC fl_X9_9 (pln rfl) (lay_p218) rfl dX9_clear_1 ?_
  refine i_iconst hC dX9_clear_4 li_1 ?_
  refine i_iald hC (j0 := 1) (pln rfl) (lay_p219) (inb_in (by decide)) (by decide) dX9_clear_5 ?_
  refine i_istore_n hC dX9_clear_6 (by decide) ?_
  refine i_iconst hC dX9_clear_7 li_0 ?_
  refine i_istore_n hC dX9_clear_8 (by decide) ?_
  exact Mj.to (b_X9_clear_9 hC  hf) ⟨rfl, rfl, rfl, trivial⟩
theorem c_X9_clear {v : EV} {l : Launch} (hst : Stb v) {S : Mem}  {r : Int32 × Mem} (hf : g_X9_clear S = some r) : Con v l yX9_clear cX9_clear 3 (some .int) 1 12 [.ref (eA v (218))] S (some (.int r.1)) r.2 := con_of (by decide) hst (Nat.le_of_ble_eq_true rfl) (fun p e s m args below meth c hC => b_X9_clear_0 hC  hf)
def f_X9_copies_3_b (ih3 : (Mem × Int32) → Option (Mem)) (S : Mem) (d0_0 : Nat) (x1 : Int32) (d2_0 : Nat) (x3 : Int32) (x4 : Int32) : Option (Mem) := (if (203 : Int32) ≤ x4 then some S else ck (inb (x1 + x4) (lenM d0_0)) (ck (inb (x3 + x4) (lenM d2_0)) (ih3 ((up S d2_0 (((x3 + x4)).toNatClampNeg) (S d0_0 (((x1 + x4)).toNatClampNeg))), (x4 + (1 : Int32))))))
def f_X9_copies_3 (S : Mem) (d0_0 : Nat) (x1 : Int32) (d2_0 : Nat) (x3 : Int32) (x4 : Int32) : Option (Mem) := lp (fun ih3 s9 => f_X9_copies_3_b ih3 s9.1 d0_0 x1 d2_0 x3 s9.2) 2000 (S, x4)
def f_X9_copies_0 (S : Mem) (d0_0 : Nat) (x1 : Int32) (d2_0 : Nat) (x3 : Int32) : Option (Mem) := f_X9_copies_3 S d0_0 x1 d2_0 x3 (0 : Int32)
def g_X9_copies (S : Mem) (d0_0 : Nat) (x1 : Int32) (d2_0 : Nat) (x3 : Int32) : Option (Mem) := f_X9_copies_0 S d0_0 x1 d2_0 x3
set_option maxHeartbeats 4000000 in
set_option maxRecDepth 100000 in
theorem b_X9_copies_3_b {v : EV} {p : Program} {l : Launch} {e : Env} {s : State} {m : MethodId} {args : Array Value} {below : List Frame} {meth : Method} {c : Code} (hC : Cx v p l e s m args meth c RX9 cX9_copies 5 none) {S : Mem} {d0_0 : Nat} {x1 : Int32} {d2_0 : Nat} {x3 : Int32} {x4 : Int32} (h0 : 20 ≤ d0_0 ∧ d0_0 < 25) (h2 : 20 ≤ d2_0 ∧ d2_0 < 25) {r : Mem} {ih3 : (Mem × Int32) → Option (Mem)} (hih3 : ∀ s9 : (Mem × Int32), ih3 s9 = some r → Mj v p l e (rmF 1 12) s m args below meth c 5 (MQ below (Qc v (none) r) args s 0 0 (eG v)) 0 s9.1 3 [(0, .ref (eA v (pM d0_0))), (1, .int x1), (2, .ref (eA v (pM d2_0))), (3, .int x3), (4, .int (s9.2))] []) (hf : f_X9_copies_3_b ih3 S d0_0 x1 d2_0 x3 x4 = some r) : Mj v p l e (rmF 1 12) s m args below meth c 5 (MQ below (Qc v (none) r) args s 0 0 (eG v)) 0 S 3 [(0, .ref (eA v (pM d0_0))), (1, .int x1), (2, .ref (eA v (pM d2_0))), (3, .int x3), (4, .int x4)] [] := by
  refine i_iload hC dX9_copies_3 rfl ?_
  refine i_sipush hC dX9_copies_5 lh_203 ?_
  refine i_icmp_ge hC (tgt := 29) dX9_copies_8 (by decide) (fun c1 => ?_) (fun c1 => ?_)
  · replace hf := (if_pos c1).symm.trans hf
    obtain rfl := Option.some.inj hf
    exact i_vret hC dX9_copies_29
  · replace hf := (if_neg c1).symm.trans hf
    refine i_aload_n hC dX9_copies_11 rfl ?_
    refine i_iload_n hC dX9_copies_12 rfl ?_
    refine i_iload hC dX9_copies_13 rfl ?_
    refine i_iadd hC dX9_copies_15 ?_
    refine i_aload_n hC dX9_copies_16 rfl ?_
    refine i_iload_n hC dX9_copies_17 rfl ?_
    refine i_iload hC dX9_copies_18 rfl ?_
    refine i_iadd hC dX9_copies_20 ?_
    obtain ⟨k2, hf⟩ := ck_of hf
    refine i_iald hC (j0 := (((x1 + x4)).toNatClampNeg)) (pl_M h0) (lay_M h0) (inb_in k2) (Nat.zero_add _) dX9_copies_21 ?_
    obtain ⟨k3, hf⟩ := ck_of hf
    refine i_iast hC (j0 := (((x3 + x4)).toNatClampNeg)) (pl_M h2) (lay_M h2) (bk_M h2) (inb_in k3) (Nat.zero_add _) dX9_copies_22 ?_
    refine i_iinc hC dX9_copies_23 rfl li_1 (by decide) ?_
    refine i_goto hC (tgt := 3) dX9_copies_26 (by decide) ?_
    exact Mj.to (hih3 _ hf) ⟨rfl, rfl, rfl, rfl, rfl, trivial⟩
theorem b_X9_copies_3 {v : EV} {p : Program} {l : Launch} {e : Env} {s : State} {m : MethodId} {args : Array Value} {below : List Frame} {meth : Method} {c : Code} (hC : Cx v p l e s m args meth c RX9 cX9_copies 5 none) {S : Mem} {d0_0 : Nat} {x1 : Int32} {d2_0 : Nat} {x3 : Int32} {x4 : Int32} (h0 : 20 ≤ d0_0 ∧ d0_0 < 25) (h2 : 20 ≤ d2_0 ∧ d2_0 < 25) {r : Mem} (hf : f_X9_copies_3 S d0_0 x1 d2_0 x3 x4 = some r) : Mj v p l e (rmF 1 12) s m args below meth c 5 (MQ below (Qc v (none) r) args s 0 0 (eG v)) 0 S 3 [(0, .ref (eA v (pM d0_0))), (1, .int x1), (2, .ref (eA v (pM d2_0))), (3, .int x3), (4, .int x4)] [] :=
  lp_ind (P := fun s9 : (Mem × Int32) => Mj v p l e (rmF 1 12) s m args below meth c 5 (MQ below (Qc v (none) r) args s 0 0 (eG v)) 0 s9.1 3 [(0, .ref (eA v (pM d0_0))), (1, .int x1), (2, .ref (eA v (pM d2_0))), (3, .int x3), (4, .int (s9.2))] []) (fun ih s9 hih hf => b_X9_copies_3_b hC h0 h2  hih hf) _ _ hf
set_option maxHeartbeats 4000000 in
set_option maxRecDepth 100000 in
theorem b_X9_copies_0 {v : EV} {p : Program} {l : Launch} {e : Env} {s : State} {m : MethodId} {args : Array Value} {below : List Frame} {meth : Method} {c : Code} (hC : Cx v p l e s m args meth c RX9 cX9_copies 5 none) {S : Mem} {d0_0 : Nat} {x1 : Int32} {d2_0 : Nat} {x3 : Int32} (h0 : 20 ≤ d0_0 ∧ d0_0 < 25) (h2 : 20 ≤ d2_0 ∧ d2_0 < 25) {r : Mem} (hf : f_X9_copies_0 S d0_0 x1 d2_0 x3 = some r) : Mj v p l e (rmF 1 12) s m args below meth c 5 (MQ below (Qc v (none) r) args s 0 0 (eG v)) 0 S 0 [(0, .ref (eA v (pM d0_0))), (1, .int x1), (2, .ref (eA v (pM d2_0))), (3, .int x3)] [] := by
  refine i_iconst hC dX9_copies_0 li_0 ?_
  refine i_istore hC dX9_copies_1 (by decide) ?_
  exact Mj.to (b_X9_copies_3 hC h0 h2 hf) ⟨rfl, rfl, rfl, rfl, rfl, trivial⟩
theorem c_X9_copies {v : EV} {l : Launch} (hst : Stb v) {S : Mem} {d0_0 d2_0 : Nat} {x1 x3 : Int32} (h0 : 20 ≤ d0_0 ∧ d0_0 < 25) (h2 : 20 ≤ d2_0 ∧ d2_0 < 25) {r : Mem} (hf : g_X9_copies S d0_0 x1 d2_0 x3 = some r) : Con v l yX9_copies cX9_copies 5 none 1 12 [.ref (eA v (pM d0_0)), .int x1, .ref (eA v (pM d2_0)), .int x3] S (none) r := con_of (by decide) hst (Nat.le_of_ble_eq_true rfl) (fun p e s m args below meth c hC => b_X9_copies_0 hC h0 h2 hf)
def f_X9_isIn_15 (xt0 : Int32) : Option (Int32) := ck (isb xt0) (some xt0)
def f_X9_isIn_14  : Option (Int32) := f_X9_isIn_15 (0 : Int32)
def f_X9_isIn_0 (x0 : Int32) (x1 : Int32) (x2 : Int32) : Option (Int32) := (if x0 < x1 then f_X9_isIn_14 else (if x2 < x0 then f_X9_isIn_14 else f_X9_isIn_15 (1 : Int32)))
def g_X9_isIn (x0 : Int32) (x1 : Int32) (x2 : Int32) : Option (Int32) := f_X9_isIn_0 x0 x1 x2
set_option maxHeartbeats 4000000 in
set_option maxRecDepth 100000 in
theorem b_X9_isIn_15 {v : EV} {p : Program} {l : Launch} {e : Env} {s : State} {m : MethodId} {args : Array Value} {below : List Frame} {meth : Method} {c : Code} (hC : Cx v p l e s m args meth c RX9 cX9_isIn 3 (some .boolean)) {S : Mem} {xt0 : Int32}  {r : Int32} (hf : f_X9_isIn_15 xt0 = some r) : Mj v p l e (rmF 1 12) s m args below meth c 3 (MQ below (Qc v (some (.int r)) S) args s 0 0 (eG v)) 0 S 15 [] [.int xt0] := by
  obtain ⟨k2, hf⟩ := ck_of hf
  obtain rfl := Option.some.inj hf
  exact i_zret hC dX9_isIn_15 (isb_z k2).1
set_option maxHeartbeats 4000000 in
set_option maxRecDepth 100000 in
theorem b_X9_isIn_14 {v : EV} {p : Program} {l : Launch} {e : Env} {s : State} {m : MethodId} {args : Array Value} {below : List Frame} {meth : Method} {c : Code} (hC : Cx v p l e s m args meth c RX9 cX9_isIn 3 (some .boolean)) {S : Mem}  {r : Int32} (hf : f_X9_isIn_14 = some r) : Mj v p l e (rmF 1 12) s m args below meth c 3 (MQ below (Qc v (some (.int r)) S) args s 0 0 (eG v)) 0 S 14 [] [] := by
  refine i_iconst hC dX9_isIn_14 li_0 ?_
  exact Mj.to (b_X9_isIn_15 hC  hf) trivial
set_option maxHeartbeats 4000000 in
set_option maxRecDepth 100000 in
theorem b_X9_isIn_0 {v : EV} {p : Program} {l : Launch} {e : Env} {s : State} {m : MethodId} {args : Array Value} {below : List Frame} {meth : Method} {c : Code} (hC : Cx v p l e s m args meth c RX9 cX9_isIn 3 (some .boolean)) {S : Mem} {x0 : Int32} {x1 : Int32} {x2 : Int32}  {r : Int32} (hf : f_X9_isIn_0 x0 x1 x2 = some r) : Mj v p l e (rmF 1 12) s m args below meth c 3 (MQ below (Qc v (some (.int r)) S) args s 0 0 (eG v)) 0 S 0 [(0, .int x0), (1, .int x1), (2, .int x2)] [] := by
  refine i_iload_n hC dX9_isIn_0 rfl ?_
  refine i_iload_n hC dX9_isIn_1 rfl ?_
  refine i_icmp_lt hC (tgt := 14) dX9_isIn_2 (by decide) (fun c1 => ?_) (fun c1 => ?_)
  · replace hf := (if_pos c1).symm.trans hf
    exact Mj.to (b_X9_isIn_14 hC  hf) trivial
  · replace hf := (if_neg c1).symm.trans hf
    refine i_iload_n hC dX9_isIn_5 rfl ?_
    refine i_iload_n hC dX9_isIn_6 rfl ?_
    refine i_icmp_gt hC (tgt := 14) dX9_isIn_7 (by decide) (fun c3 => ?_) (fun c3 => ?_)
    · replace hf := (if_pos c3).symm.trans hf
      exact Mj.to (b_X9_isIn_14 hC  hf) trivial
    · replace hf := (if_neg c3).symm.trans hf
      refine i_iconst hC dX9_isIn_10 li_1 ?_
      refine i_goto hC (tgt := 15) dX9_isIn_11 (by decide) ?_
      exact Mj.to (b_X9_isIn_15 hC  hf) trivial
theorem c_X9_isIn {v : EV} {l : Launch} (hst : Stb v) {S : Mem} {x0 x1 x2 : Int32}  {r : Int32} (hf : g_X9_isIn x0 x1 x2 = some r) : Con v l yX9_isIn cX9_isIn 3 (some .boolean) 1 12 [.int x0, .int x1, .int x2] S (some (.int r)) S := con_of (by decide) hst (Nat.le_of_ble_eq_true rfl) (fun p e s m args below meth c hC => b_X9_isIn_0 hC  hf)
def f_X9_isRefused_19 (S : Mem) (x1 : Int32) : Option (Int32 × Mem) := ck (isb x1) (some (x1, S))
def f_X9_isRefused_0 (S : Mem) (x1 : Int32) (x2 : Int32) (x3 : Int32) : Option (Int32 × Mem) := (if x1 = 0 then f_X9_isRefused_19 S x1 else f_X9_isRefused_19 (up (up (up S 28 6 x2) 28 7 x3) 28 8 (0 : Int32)) x1)
def g_X9_isRefused (S : Mem) (x1 : Int32) (x2 : Int32) (x3 : Int32) : Option (Int32 × Mem) := f_X9_isRefused_0 S x1 x2 x3
set_option maxHeartbeats 4000000 in
set_option maxRecDepth 100000 in
theorem b_X9_isRefused_19 {v : EV} {p : Program} {l : Launch} {e : Env} {s : State} {m : MethodId} {args : Array Value} {below : List Frame} {meth : Method} {c : Code} (hC : Cx v p l e s m args meth c RX9 cX9_isRefused 4 (some .boolean)) {S : Mem} {x1 : Int32}  {r : Int32 × Mem} (hf : f_X9_isRefused_19 S x1 = some r) : Mj v p l e (rmF 1 12) s m args below meth c 4 (MQ below (Qc v (some (.int r.1)) r.2) args s 0 0 (eG v)) 0 S 19 [(1, .int x1)] [] := by
  refine i_iload_n hC dX9_isRefused_19 rfl ?_
  obtain ⟨k2, hf⟩ := ck_of hf
  obtain rfl := Option.some.inj hf
  exact i_zret hC dX9_isRefused_20 (isb_z k2).1
set_option maxHeartbeats 4000000 in
set_option maxRecDepth 100000 in
theorem b_X9_isRefused_0 {v : EV} {p : Program} {l : Launch} {e : Env} {s : State} {m : MethodId} {args : Array Value} {below : List Frame} {meth : Method} {c : Code} (hC : Cx v p l e s m args meth c RX9 cX9_isRefused 4 (some .boolean)) {S : Mem} {x1 : Int32} {x2 : Int32} {x3 : Int32}  {r : Int32 × Mem} (hf : f_X9_isRefused_0 S x1 x2 x3 = some r) : Mj v p l e (rmF 1 12) s m args below meth c 4 (MQ below (Qc v (some (.int r.1)) r.2) args s 0 0 (eG v)) 0 S 0 [(0, .ref (eA v (218))), (1, .int x1), (2, .int x2), (3, .int x3)] [] := by
  refine i_iload_n hC dX9_isRefused_0 rfl ?_
  refine i_if_eq hC (tgt := 19) dX9_isRefused_1 (by decide) (fun c1 => ?_) (fun c1 => ?_)
  · replace hf := (if_pos c1).symm.trans hf
    exact Mj.to (b_X9_isRefused_19 hC  hf) ⟨rfl, trivial⟩
  · replace hf := (if_neg c1).symm.trans hf
    refine i_aload_n hC dX9_isRefused_4 rfl ?_
    refine i_iload_n hC dX9_isRefused_5 rfl ?_
    refine i_putI hC fl_X9_48 (pln rfl) (lay_p218) rfl (bk_l ⟨rfl, rfl, rfl, rfl⟩) (nf_int _) dX9_isRefused_6 ?_
    refine i_aload_n hC dX9_isRefused_9 rfl ?_
    refine i_iload_n hC dX9_isRefused_10 rfl ?_
    refine i_putI hC fl_X9_51 (pln rfl) (lay_p218) rfl (bk_l ⟨rfl, rfl, rfl, rfl⟩) (nf_int _) dX9_isRefused_11 ?_
    refine i_aload_n hC dX9_isRefused_14 rfl ?_
    refine i_iconst hC dX9_isRefused_15 li_0 ?_
    refine i_putI hC fl_X9_54 (pln rfl) (lay_p218) rfl (bk_l ⟨rfl, rfl, rfl, rfl⟩) (nf_int _) dX9_isRefused_16 ?_
    exact Mj.to (b_X9_isRefused_19 hC  hf) ⟨rfl, trivial⟩
theorem c_X9_isRefused {v : EV} {l : Launch} (hst : Stb v) {S : Mem} {x1 x2 x3 : Int32}  {r : Int32 × Mem} (hf : g_X9_isRefused S x1 x2 x3 = some r) : Con v l yX9_isRefused cX9_isRefused 4 (some .boolean) 1 12 [.ref (eA v (218)), .int x1, .int x2, .int x3] S (some (.int r.1)) r.2 := con_of (by decide) hst (Nat.le_of_ble_eq_true rfl) (fun p e s m args below meth c hC => b_X9_isRefused_0 hC  hf)
def f_X9_at_0 (x0 : Int32) (x1 : Int32) : Option (Int32) := some (((33 : Int32) + ((34 : Int32) * x0)) + x1)
def g_X9_at (x0 : Int32) (x1 : Int32) : Option (Int32) := f_X9_at_0 x0 x1
set_option maxHeartbeats 4000000 in
set_option maxRecDepth 100000 in
theorem b_X9_at_0 {v : EV} {p : Program} {l : Launch} {e : Env} {s : State} {m : MethodId} {args : Array Value} {below : List Frame} {meth : Method} {c : Code} (hC : Cx v p l e s m args meth c RX9 cX9_at 2 (some .int)) {S : Mem} {x0 : Int32} {x1 : Int32}  {r : Int32} (hf : f_X9_at_0 x0 x1 = some r) : Mj v p l e (rmF 1 12) s m args below meth c 2 (MQ below (Qc v (some (.int r)) S) args s 0 0 (eG v)) 0 S 0 [(0, .int x0), (1, .int x1)] [] := by
  refine i_bipush hC dX9_at_0 lb_33 ?_
  refine i_bipush hC dX9_at_2 lb_34 ?_
  refine i_iload_n hC dX9_at_4 rfl ?_
  refine i_imul hC dX9_at_5 ?_
  refine i_iadd hC dX9_at_6 ?_
  refine i_iload_n hC dX9_at_7 rfl ?_
  refine i_iadd hC dX9_at_8 ?_
  obtain rfl := Option.some.inj hf
  exact i_iret hC dX9_at_9
theorem c_X9_at {v : EV} {l : Launch} (hst : Stb v) {S : Mem} {x0 x1 : Int32}  {r : Int32} (hf : g_X9_at x0 x1 = some r) : Con v l yX9_at cX9_at 2 (some .int) 1 12 [.int x0, .int x1] S (some (.int r)) S := con_of (by decide) hst (Nat.le_of_ble_eq_true rfl) (fun p e s m args below meth c hC => b_X9_at_0 hC  hf)
def f_X9_changed_56 (S : Mem)  : Option (Mem) := bd1 (g_X9_copies S 21 (0 : Int32) 24 ((203 : Int32) * (S 28 5))) (fun S2 => some (up S2 28 5 ((S2 28 5) + (1 : Int32))))
def f_X9_changed_11_b (ih11 : (Mem × Int32) → Option (Mem)) (S : Mem) (x1 : Int32) : Option (Mem) := (if (8 : Int32) ≤ x1 then f_X9_changed_56 (up S 28 5 ((S 28 5) - (1 : Int32))) else bd1 (g_X9_copies S 24 ((203 : Int32) * x1) 24 ((203 : Int32) * (x1 - (1 : Int32)))) (fun S4 => ih11 (S4, (x1 + (1 : Int32)))))
def f_X9_changed_11 (S : Mem) (x1 : Int32) : Option (Mem) := lp (fun ih11 s9 => f_X9_changed_11_b ih11 s9.1 s9.2) 2000 (S, x1)
def f_X9_changed_0 (S : Mem)  : Option (Mem) := (if (S 28 5) = (8 : Int32) then f_X9_changed_11 S (1 : Int32) else f_X9_changed_56 S)
def g_X9_changed (S : Mem)  : Option (Mem) := f_X9_changed_0 S
set_option maxHeartbeats 4000000 in
set_option maxRecDepth 100000 in
theorem b_X9_changed_56 {v : EV} {p : Program} {l : Launch} {e : Env} {s : State} {m : MethodId} {args : Array Value} {below : List Frame} {meth : Method} {c : Code} (hC : Cx v p l e s m args meth c RX9 cX9_changed 2 none) {S : Mem}  {r : Mem} (hf : f_X9_changed_56 S = some r) : Mj v p l e (rmF 2 36) s m args below meth c 2 (MQ below (Qc v (none) r) args s 0 0 (eG v)) 0 S 56 [(0, .ref (eA v (218)))] [] := by
  refine i_aload_n hC dX9_changed_56 rfl ?_
  refine i_getR hC fl_X9_13 (pln rfl) (lay_p218) rfl dX9_changed_57 ?_
  refine i_iconst hC dX9_changed_60 li_0 ?_
  refine i_aload_n hC dX9_changed_61 rfl ?_
  refine i_getR hC fl_X9_22 (pln rfl) (lay_p218) rfl dX9_changed_62 ?_
  refine i_sipush hC dX9_changed_65 lh_203 ?_
  refine i_aload_n hC dX9_changed_68 rfl ?_
  refine i_getI hC fl_X9_42 (pln rfl) (lay_p218) rfl dX9_changed_69 ?_
  refine i_imul hC dX9_changed_72 ?_
  obtain ⟨S2, hc2, hf⟩ := bd1_of hf
  refine i_callSv hC mv_X9_38 (c_X9_copies hC.2.2.2.2.2.2.2.1 (by decide) (by decide) hc2) rfl rfl rfl ⟨Nat.le_of_ble_eq_true rfl, Nat.le_of_ble_eq_true rfl⟩ (Nat.le_of_ble_eq_true rfl) dX9_changed_73 ?_
  refine i_aload_n hC dX9_changed_76 rfl ?_
  refine i_dup hC dX9_changed_77 rfl ?_
  refine i_getI hC fl_X9_42 (pln rfl) (lay_p218) rfl dX9_changed_78 ?_
  refine i_iconst hC dX9_changed_81 li_1 ?_
  refine i_iadd hC dX9_changed_82 ?_
  refine i_putI hC fl_X9_42 (pln rfl) (lay_p218) rfl (bk_l ⟨rfl, rfl, rfl, rfl⟩) (nf_int _) dX9_changed_83 ?_
  obtain rfl := Option.some.inj hf
  exact i_vret hC dX9_changed_86
set_option maxHeartbeats 4000000 in
set_option maxRecDepth 100000 in
theorem b_X9_changed_11_b {v : EV} {p : Program} {l : Launch} {e : Env} {s : State} {m : MethodId} {args : Array Value} {below : List Frame} {meth : Method} {c : Code} (hC : Cx v p l e s m args meth c RX9 cX9_changed 2 none) {S : Mem} {x1 : Int32}  {r : Mem} {ih11 : (Mem × Int32) → Option (Mem)} (hih11 : ∀ s9 : (Mem × Int32), ih11 s9 = some r → Mj v p l e (rmF 2 36) s m args below meth c 2 (MQ below (Qc v (none) r) args s 0 0 (eG v)) 0 s9.1 11 [(0, .ref (eA v (218))), (1, .int (s9.2))] []) (hf : f_X9_changed_11_b ih11 S x1 = some r) : Mj v p l e (rmF 2 36) s m args below meth c 2 (MQ below (Qc v (none) r) args s 0 0 (eG v)) 0 S 11 [(0, .ref (eA v (218))), (1, .int x1)] [] := by
  refine i_iload_n hC dX9_changed_11 rfl ?_
  refine i_bipush hC dX9_changed_12 lb_8 ?_
  refine i_icmp_ge hC (tgt := 46) dX9_changed_14 (by decide) (fun c3 => ?_) (fun c3 => ?_)
  · replace hf := (if_pos c3).symm.trans hf
    refine i_aload_n hC dX9_changed_46 rfl ?_
    refine i_dup hC dX9_changed_47 rfl ?_
    refine i_getI hC fl_X9_42 (pln rfl) (lay_p218) rfl dX9_changed_48 ?_
    refine i_iconst hC dX9_changed_51 li_1 ?_
    refine i_isub hC dX9_changed_52 ?_
    refine i_putI hC fl_X9_42 (pln rfl) (lay_p218) rfl (bk_l ⟨rfl, rfl, rfl, rfl⟩) (nf_int _) dX9_changed_53 ?_
    exact Mj.to (b_X9_changed_56 hC  hf) ⟨rfl, trivial⟩
  · replace hf := (if_neg c3).symm.trans hf
    refine i_aload_n hC dX9_changed_17 rfl ?_
    refine i_getR hC fl_X9_22 (pln rfl) (lay_p218) rfl dX9_changed_18 ?_
    refine i_sipush hC dX9_changed_21 lh_203 ?_
    refine i_iload_n hC dX9_changed_24 rfl ?_
    refine i_imul hC dX9_changed_25 ?_
    refine i_aload_n hC dX9_changed_26 rfl ?_
    refine i_getR hC fl_X9_22 (pln rfl) (lay_p218) rfl dX9_changed_27 ?_
    refine i_sipush hC dX9_changed_30 lh_203 ?_
    refine i_iload_n hC dX9_changed_33 rfl ?_
    refine i_iconst hC dX9_changed_34 li_1 ?_
    refine i_isub hC dX9_changed_35 ?_
    refine i_imul hC dX9_changed_36 ?_
    obtain ⟨S4, hc4, hf⟩ := bd1_of hf
    refine i_callSv hC mv_X9_38 (c_X9_copies hC.2.2.2.2.2.2.2.1 (by decide) (by decide) hc4) rfl rfl rfl ⟨Nat.le_of_ble_eq_true rfl, Nat.le_of_ble_eq_true rfl⟩ (Nat.le_of_ble_eq_true rfl) dX9_changed_37 ?_
    refine i_iinc hC dX9_changed_40 rfl li_1 (by decide) ?_
    refine i_goto hC (tgt := 11) dX9_changed_43 (by decide) ?_
    exact Mj.to (hih11 _ hf) ⟨rfl, rfl, trivial⟩
theorem b_X9_changed_11 {v : EV} {p : Program} {l : Launch} {e : Env} {s : State} {m : MethodId} {args : Array Value} {below : List Frame} {meth : Method} {c : Code} (hC : Cx v p l e s m args meth c RX9 cX9_changed 2 none) {S : Mem} {x1 : Int32}  {r : Mem} (hf : f_X9_changed_11 S x1 = some r) : Mj v p l e (rmF 2 36) s m args below meth c 2 (MQ below (Qc v (none) r) args s 0 0 (eG v)) 0 S 11 [(0, .ref (eA v (218))), (1, .int x1)] [] :=
  lp_ind (P := fun s9 : (Mem × Int32) => Mj v p l e (rmF 2 36) s m args below meth c 2 (MQ below (Qc v (none) r) args s 0 0 (eG v)) 0 s9.1 11 [(0, .ref (eA v (218))), (1, .int (s9.2))] []) (fun ih s9 hih hf => b_X9_changed_11_b hC   hih hf) _ _ hf
set_option maxHeartbeats 4000000 in
set_option maxRecDepth 100000 in
theorem b_X9_changed_0 {v : EV} {p : Program} {l : Launch} {e : Env} {s : State} {m : MethodId} {args : Array Value} {below : List Frame} {meth : Method} {c : Code} (hC : Cx v p l e s m args meth c RX9 cX9_changed 2 none) {S : Mem}  {r : Mem} (hf : f_X9_changed_0 S = some r) : Mj v p l e (rmF 2 36) s m args below meth c 2 (MQ below (Qc v (none) r) args s 0 0 (eG v)) 0 S 0 [(0, .ref (eA v (218)))] [] := by
  refine i_aload_n hC dX9_changed_0 rfl ?_
  refine i_getI hC fl_X9_42 (pln rfl) (lay_p218) rfl dX9_changed_1 ?_
  refine i_bipush hC dX9_changed_4 lb_8 ?_
  refine i_icmp_ne hC (tgt := 56) dX9_changed_6 (by decide) (fun c1 => ?_) (fun c1 => ?_)
  · replace hf := (if_neg c1).symm.trans hf
    exact Mj.to (b_X9_changed_56 hC  hf) ⟨rfl, trivial⟩
  · replace hf := (if_pos c1).symm.trans hf
    refine i_iconst hC dX9_changed_9 li_1 ?_
    refine i_istore_n hC dX9_changed_10 (by decide) ?_
    exact Mj.to (b_X9_changed_11 hC  hf) ⟨rfl, rfl, trivial⟩
theorem c_X9_changed {v : EV} {l : Launch} (hst : Stb v) {S : Mem}  {r : Mem} (hf : g_X9_changed S = some r) : Con v l yX9_changed cX9_changed 2 none 2 36 [.ref (eA v (218))] S (none) r := con_of (by decide) hst (Nat.le_of_ble_eq_true rfl) (fun p e s m args below meth c hC => b_X9_changed_0 hC  hf)
def f_X9_isDriver_0 (S : Mem) (x1 : Int32) : Option (Int32) := bd1 (g_X9_isIn x1 (0 : Int32) ((S 20 1) - (1 : Int32))) (fun r1 => ck (isb r1) (some r1))
def g_X9_isDriver (S : Mem) (x1 : Int32) : Option (Int32) := f_X9_isDriver_0 S x1
set_option maxHeartbeats 4000000 in
set_option maxRecDepth 100000 in
theorem b_X9_isDriver_0 {v : EV} {p : Program} {l : Launch} {e : Env} {s : State} {m : MethodId} {args : Array Value} {below : List Frame} {meth : Method} {c : Code} (hC : Cx v p l e s m args meth c RX9 cX9_isDriver 2 (some .boolean)) {S : Mem} {x1 : Int32}  {r : Int32} (hf : f_X9_isDriver_0 S x1 = some r) : Mj v p l e (rmF 2 34) s m args below meth c 2 (MQ below (Qc v (some (.int r)) S) args s 0 0 (eG v)) 0 S 0 [(0, .ref (eA v (218))), (1, .int x1)] [] := by
  refine i_iload_n hC dX9_isDriver_0 rfl ?_
  refine i_iconst hC dX9_isDriver_1 li_0 ?_
  refine i_aload_n hC dX9_isDriver_2 rfl ?_
  refine i_getR hC fl_X9_9 (pln rfl) (lay_p218) rfl dX9_isDriver_3 ?_
  refine i_iconst hC dX9_isDriver_6 li_1 ?_
  refine i_iald hC (j0 := 1) (pln rfl) (lay_p219) (inb_in (by decide)) (by decide) dX9_isDriver_7 ?_
  refine i_iconst hC dX9_isDriver_8 li_1 ?_
  refine i_isub hC dX9_isDriver_9 ?_
  obtain ⟨r1, hc1, hf⟩ := bd1_of hf
  refine i_callSi hC mv_X9_61 (c_X9_isIn hC.2.2.2.2.2.2.2.1 hc1) rfl rfl rfl ⟨Nat.le_of_ble_eq_true rfl, Nat.le_of_ble_eq_true rfl⟩ (Nat.le_of_ble_eq_true rfl) dX9_isDriver_10 ?_
  obtain ⟨k2, hf⟩ := ck_of hf
  obtain rfl := Option.some.inj hf
  exact i_zret hC dX9_isDriver_13 (isb_z k2).1
theorem c_X9_isDriver {v : EV} {l : Launch} (hst : Stb v) {S : Mem} {x1 : Int32}  {r : Int32} (hf : g_X9_isDriver S x1 = some r) : Con v l yX9_isDriver cX9_isDriver 2 (some .boolean) 2 34 [.ref (eA v (218)), .int x1] S (some (.int r)) S := con_of (by decide) hst (Nat.le_of_ble_eq_true rfl) (fun p e s m args below meth c hC => b_X9_isDriver_0 hC  hf)
def f_X9_of_0 (S : Mem) (x1 : Int32) (x2 : Int32) : Option (Int32) := bd1 (g_X9_at x1 x2) (fun r1 => ck (inb r1 203) (some (S 20 ((r1).toNatClampNeg))))
def g_X9_of (S : Mem) (x1 : Int32) (x2 : Int32) : Option (Int32) := f_X9_of_0 S x1 x2
set_option maxHeartbeats 4000000 in
set_option maxRecDepth 100000 in
theorem b_X9_of_0 {v : EV} {p : Program} {l : Launch} {e : Env} {s : State} {m : MethodId} {args : Array Value} {below : List Frame} {meth : Method} {c : Code} (hC : Cx v p l e s m args meth c RX9 cX9_of 3 (some .int)) {S : Mem} {x1 : Int32} {x2 : Int32}  {r : Int32} (hf : f_X9_of_0 S x1 x2 = some r) : Mj v p l e (rmF 2 33) s m args below meth c 3 (MQ below (Qc v (some (.int r)) S) args s 0 0 (eG v)) 0 S 0 [(0, .ref (eA v (218))), (1, .int x1), (2, .int x2)] [] := by
  refine i_aload_n hC dX9_of_0 rfl ?_
  refine i_getR hC fl_X9_9 (pln rfl) (lay_p218) rfl dX9_of_1 ?_
  refine i_iload_n hC dX9_of_4 rfl ?_
  refine i_iload_n hC dX9_of_5 rfl ?_
  obtain ⟨r1, hc1, hf⟩ := bd1_of hf
  refine i_callSi hC mv_X9_57 (c_X9_at hC.2.2.2.2.2.2.2.1 hc1) rfl rfl rfl ⟨Nat.le_of_ble_eq_true rfl, Nat.le_of_ble_eq_true rfl⟩ (Nat.le_of_ble_eq_true rfl) dX9_of_6 ?_
  obtain ⟨k2, hf⟩ := ck_of hf
  refine i_iald hC (j0 := ((r1).toNatClampNeg)) (pln rfl) (lay_p219) (inb_in k2) (Nat.zero_add _) dX9_of_9 ?_
  obtain rfl := Option.some.inj hf
  exact i_iret hC dX9_of_10
theorem c_X9_of {v : EV} {l : Launch} (hst : Stb v) {S : Mem} {x1 x2 : Int32}  {r : Int32} (hf : g_X9_of S x1 x2 = some r) : Con v l yX9_of cX9_of 3 (some .int) 2 33 [.ref (eA v (218)), .int x1, .int x2] S (some (.int r)) S := con_of (by decide) hst (Nat.le_of_ble_eq_true rfl) (fun p e s m args below meth c hC => b_X9_of_0 hC  hf)
def f_X9_lesser_10 (xt0 : Int32) : Option (Int32) := some xt0
def f_X9_lesser_0 (x0 : Int32) (x1 : Int32) : Option (Int32) := (if x1 ≤ x0 then f_X9_lesser_10 x1 else f_X9_lesser_10 x0)
def g_X9_lesser (x0 : Int32) (x1 : Int32) : Option (Int32) := f_X9_lesser_0 x0 x1
set_option maxHeartbeats 4000000 in
set_option maxRecDepth 100000 in
theorem b_X9_lesser_10 {v : EV} {p : Program} {l : Launch} {e : Env} {s : State} {m : MethodId} {args : Array Value} {below : List Frame} {meth : Method} {c : Code} (hC : Cx v p l e s m args meth c RX9 cX9_lesser 2 (some .int)) {S : Mem} {xt0 : Int32}  {r : Int32} (hf : f_X9_lesser_10 xt0 = some r) : Mj v p l e (rmF 1 12) s m args below meth c 2 (MQ below (Qc v (some (.int r)) S) args s 0 0 (eG v)) 0 S 10 [] [.int xt0] := by
  obtain rfl := Option.some.inj hf
  exact i_iret hC dX9_lesser_10
set_option maxHeartbeats 4000000 in
set_option maxRecDepth 100000 in
theorem b_X9_lesser_0 {v : EV} {p : Program} {l : Launch} {e : Env} {s : State} {m : MethodId} {args : Array Value} {below : List Frame} {meth : Method} {c : Code} (hC : Cx v p l e s m args meth c RX9 cX9_lesser 2 (some .int)) {S : Mem} {x0 : Int32} {x1 : Int32}  {r : Int32} (hf : f_X9_lesser_0 x0 x1 = some r) : Mj v p l e (rmF 1 12) s m args below meth c 2 (MQ below (Qc v (some (.int r)) S) args s 0 0 (eG v)) 0 S 0 [(0, .int x0), (1, .int x1)] [] := by
  refine i_iload_n hC dX9_lesser_0 rfl ?_
  refine i_iload_n hC dX9_lesser_1 rfl ?_
  refine i_icmp_ge hC (tgt := 9) dX9_lesser_2 (by decide) (fun c1 => ?_) (fun c1 => ?_)
  · replace hf := (if_pos c1).symm.trans hf
    refine i_iload_n hC dX9_lesser_9 rfl ?_
    exact Mj.to (b_X9_lesser_10 hC  hf) trivial
  · replace hf := (if_neg c1).symm.trans hf
    refine i_iload_n hC dX9_lesser_5 rfl ?_
    refine i_goto hC (tgt := 10) dX9_lesser_6 (by decide) ?_
    exact Mj.to (b_X9_lesser_10 hC  hf) trivial
theorem c_X9_lesser {v : EV} {l : Launch} (hst : Stb v) {S : Mem} {x0 x1 : Int32}  {r : Int32} (hf : g_X9_lesser x0 x1 = some r) : Con v l yX9_lesser cX9_lesser 2 (some .int) 1 12 [.int x0, .int x1] S (some (.int r)) S := con_of (by decide) hst (Nat.le_of_ble_eq_true rfl) (fun p e s m args below meth c hC => b_X9_lesser_0 hC  hf)
def f_X9_greater_10 (xt0 : Int32) : Option (Int32) := some xt0
def f_X9_greater_0 (x0 : Int32) (x1 : Int32) : Option (Int32) := (if x0 ≤ x1 then f_X9_greater_10 x1 else f_X9_greater_10 x0)
def g_X9_greater (x0 : Int32) (x1 : Int32) : Option (Int32) := f_X9_greater_0 x0 x1
set_option maxHeartbeats 4000000 in
set_option maxRecDepth 100000 in
theorem b_X9_greater_10 {v : EV} {p : Program} {l : Launch} {e : Env} {s : State} {m : MethodId} {args : Array Value} {below : List Frame} {meth : Method} {c : Code} (hC : Cx v p l e s m args meth c RX9 cX9_greater 2 (some .int)) {S : Mem} {xt0 : Int32}  {r : Int32} (hf : f_X9_greater_10 xt0 = some r) : Mj v p l e (rmF 1 12) s m args below meth c 2 (MQ below (Qc v (some (.int r)) S) args s 0 0 (eG v)) 0 S 10 [] [.int xt0] := by
  obtain rfl := Option.some.inj hf
  exact i_iret hC dX9_greater_10
set_option maxHeartbeats 4000000 in
set_option maxRecDepth 100000 in
theorem b_X9_greater_0 {v : EV} {p : Program} {l : Launch} {e : Env} {s : State} {m : MethodId} {args : Array Value} {below : List Frame} {meth : Method} {c : Code} (hC : Cx v p l e s m args meth c RX9 cX9_greater 2 (some .int)) {S : Mem} {x0 : Int32} {x1 : Int32}  {r : Int32} (hf : f_X9_greater_0 x0 x1 = some r) : Mj v p l e (rmF 1 12) s m args below meth c 2 (MQ below (Qc v (some (.int r)) S) args s 0 0 (eG v)) 0 S 0 [(0, .int x0), (1, .int x1)] [] := by
  refine i_iload_n hC dX9_greater_0 rfl ?_
  refine i_iload_n hC dX9_greater_1 rfl ?_
  refine i_icmp_le hC (tgt := 9) dX9_greater_2 (by decide) (fun c1 => ?_) (fun c1 => ?_)
  · replace hf := (if_pos c1).symm.trans hf
    refine i_iload_n hC dX9_greater_9 rfl ?_
    exact Mj.to (b_X9_greater_10 hC  hf) trivial
  · replace hf := (if_neg c1).symm.trans hf
    refine i_iload_n hC dX9_greater_5 rfl ?_
    refine i_goto hC (tgt := 10) dX9_greater_6 (by decide) ?_
    exact Mj.to (b_X9_greater_10 hC  hf) trivial
theorem c_X9_greater {v : EV} {l : Launch} (hst : Stb v) {S : Mem} {x0 x1 : Int32}  {r : Int32} (hf : g_X9_greater x0 x1 = some r) : Con v l yX9_greater cX9_greater 2 (some .int) 1 12 [.int x0, .int x1] S (some (.int r)) S := con_of (by decide) hst (Nat.le_of_ble_eq_true rfl) (fun p e s m args below meth c hC => b_X9_greater_0 hC  hf)
def f_X9_lastTerm_26 (S : Mem) (xt0 : Int32) : Option (Int32) := some xt0
def f_X9_lastTerm_0 (S : Mem) (x1 : Int32) : Option (Int32) := bd1 (g_X9_of S x1 (5 : Int32)) (fun r1 => (if r1 = 0 then f_X9_lastTerm_26 S (0 : Int32) else bd1 (g_X9_of S x1 (((10 : Int32) + r1) - (1 : Int32))) (fun r3 => f_X9_lastTerm_26 S r3)))
def g_X9_lastTerm (S : Mem) (x1 : Int32) : Option (Int32) := f_X9_lastTerm_0 S x1
set_option maxHeartbeats 4000000 in
set_option maxRecDepth 100000 in
theorem b_X9_lastTerm_26 {v : EV} {p : Program} {l : Launch} {e : Env} {s : State} {m : MethodId} {args : Array Value} {below : List Frame} {meth : Method} {c : Code} (hC : Cx v p l e s m args meth c RX9 cX9_lastTerm 3 (some .int)) {S : Mem} {xt0 : Int32}  {r : Int32} (hf : f_X9_lastTerm_26 S xt0 = some r) : Mj v p l e (rmF 3 55) s m args below meth c 3 (MQ below (Qc v (some (.int r)) S) args s 0 0 (eG v)) 0 S 26 [] [.int xt0] := by
  obtain rfl := Option.some.inj hf
  exact i_iret hC dX9_lastTerm_26
set_option maxHeartbeats 4000000 in
set_option maxRecDepth 100000 in
theorem b_X9_lastTerm_0 {v : EV} {p : Program} {l : Launch} {e : Env} {s : State} {m : MethodId} {args : Array Value} {below : List Frame} {meth : Method} {c : Code} (hC : Cx v p l e s m args meth c RX9 cX9_lastTerm 3 (some .int)) {S : Mem} {x1 : Int32}  {r : Int32} (hf : f_X9_lastTerm_0 S x1 = some r) : Mj v p l e (rmF 3 55) s m args below meth c 3 (MQ below (Qc v (some (.int r)) S) args s 0 0 (eG v)) 0 S 0 [(0, .ref (eA v (218))), (1, .int x1)] [] := by
  refine i_aload_n hC dX9_lastTerm_0 rfl ?_
  refine i_iload_n hC dX9_lastTerm_1 rfl ?_
  refine i_iconst hC dX9_lastTerm_2 li_5 ?_
  obtain ⟨r1, hc1, hf⟩ := bd1_of hf
  refine i_callVi hC mv_X9_69 (c_X9_of hC.2.2.2.2.2.2.2.1 hc1) (pln rfl) (lay_p218) rfl rfl rfl rfl ⟨Nat.le_of_ble_eq_true rfl, Nat.le_of_ble_eq_true rfl⟩ (Nat.le_of_ble_eq_true rfl) dX9_lastTerm_3 ?_
  refine i_istore_n hC dX9_lastTerm_6 (by decide) ?_
  refine i_iload_n hC dX9_lastTerm_7 rfl ?_
  refine i_if_ne hC (tgt := 15) dX9_lastTerm_8 (by decide) (fun c2 => ?_) (fun c2 => ?_)
  · replace hf := (if_neg c2).symm.trans hf
    refine i_aload_n hC dX9_lastTerm_15 rfl ?_
    refine i_iload_n hC dX9_lastTerm_16 rfl ?_
    refine i_bipush hC dX9_lastTerm_17 lb_10 ?_
    refine i_iload_n hC dX9_lastTerm_19 rfl ?_
    refine i_iadd hC dX9_lastTerm_20 ?_
    refine i_iconst hC dX9_lastTerm_21 li_1 ?_
    refine i_isub hC dX9_lastTerm_22 ?_
    obtain ⟨r3, hc3, hf⟩ := bd1_of hf
    refine i_callVi hC mv_X9_69 (c_X9_of hC.2.2.2.2.2.2.2.1 hc3) (pln rfl) (lay_p218) rfl rfl rfl rfl ⟨Nat.le_of_ble_eq_true rfl, Nat.le_of_ble_eq_true rfl⟩ (Nat.le_of_ble_eq_true rfl) dX9_lastTerm_23 ?_
    exact Mj.to (b_X9_lastTerm_26 hC  hf) trivial
  · replace hf := (if_pos c2).symm.trans hf
    refine i_iconst hC dX9_lastTerm_11 li_0 ?_
    refine i_goto hC (tgt := 26) dX9_lastTerm_12 (by decide) ?_
    exact Mj.to (b_X9_lastTerm_26 hC  hf) trivial
theorem c_X9_lastTerm {v : EV} {l : Launch} (hst : Stb v) {S : Mem} {x1 : Int32}  {r : Int32} (hf : g_X9_lastTerm S x1 = some r) : Con v l yX9_lastTerm cX9_lastTerm 3 (some .int) 3 55 [.ref (eA v (218)), .int x1] S (some (.int r)) S := con_of (by decide) hst (Nat.le_of_ble_eq_true rfl) (fun p e s m args below meth c hC => b_X9_lastTerm_0 hC  hf)
def f_X9_isMajority_17 (S : Mem) (xt0 : Int32) : Option (Int32) := ck (isb xt0) (some xt0)
def f_X9_isMajority_0 (S : Mem) (x1 : Int32) : Option (Int32) := (if ((2 : Int32) * x1) ≤ (S 20 1) then f_X9_isMajority_17 S (0 : Int32) else f_X9_isMajority_17 S (1 : Int32))
def g_X9_isMajority (S : Mem) (x1 : Int32) : Option (Int32) := f_X9_isMajority_0 S x1
set_option maxHeartbeats 4000000 in
set_option maxRecDepth 100000 in
theorem b_X9_isMajority_17 {v : EV} {p : Program} {l : Launch} {e : Env} {s : State} {m : MethodId} {args : Array Value} {below : List Frame} {meth : Method} {c : Code} (hC : Cx v p l e s m args meth c RX9 cX9_isMajority 2 (some .boolean)) {S : Mem} {xt0 : Int32}  {r : Int32} (hf : f_X9_isMajority_17 S xt0 = some r) : Mj v p l e (rmF 1 12) s m args below meth c 2 (MQ below (Qc v (some (.int r)) S) args s 0 0 (eG v)) 0 S 17 [] [.int xt0] := by
  obtain ⟨k2, hf⟩ := ck_of hf
  obtain rfl := Option.some.inj hf
  exact i_zret hC dX9_isMajority_17 (isb_z k2).1
set_option maxHeartbeats 4000000 in
set_option maxRecDepth 100000 in
theorem b_X9_isMajority_0 {v : EV} {p : Program} {l : Launch} {e : Env} {s : State} {m : MethodId} {args : Array Value} {below : List Frame} {meth : Method} {c : Code} (hC : Cx v p l e s m args meth c RX9 cX9_isMajority 2 (some .boolean)) {S : Mem} {x1 : Int32}  {r : Int32} (hf : f_X9_isMajority_0 S x1 = some r) : Mj v p l e (rmF 1 12) s m args below meth c 2 (MQ below (Qc v (some (.int r)) S) args s 0 0 (eG v)) 0 S 0 [(0, .ref (eA v (218))), (1, .int x1)] [] := by
  refine i_iconst hC dX9_isMajority_0 li_2 ?_
  refine i_iload_n hC dX9_isMajority_1 rfl ?_
  refine i_imul hC dX9_isMajority_2 ?_
  refine i_aload_n hC dX9_isMajority_3 rfl ?_
  refine i_getR hC fl_X9_9 (pln rfl) (lay_p218) rfl dX9_isMajority_4 ?_
  refine i_iconst hC dX9_isMajority_7 li_1 ?_
  refine i_iald hC (j0 := 1) (pln rfl) (lay_p219) (inb_in (by decide)) (by decide) dX9_isMajority_8 ?_
  refine i_icmp_le hC (tgt := 16) dX9_isMajority_9 (by decide) (fun c1 => ?_) (fun c1 => ?_)
  · replace hf := (if_pos c1).symm.trans hf
    refine i_iconst hC dX9_isMajority_16 li_0 ?_
    exact Mj.to (b_X9_isMajority_17 hC  hf) trivial
  · replace hf := (if_neg c1).symm.trans hf
    refine i_iconst hC dX9_isMajority_12 li_1 ?_
    refine i_goto hC (tgt := 17) dX9_isMajority_13 (by decide) ?_
    exact Mj.to (b_X9_isMajority_17 hC  hf) trivial
theorem c_X9_isMajority {v : EV} {l : Launch} (hst : Stb v) {S : Mem} {x1 : Int32}  {r : Int32} (hf : g_X9_isMajority S x1 = some r) : Con v l yX9_isMajority cX9_isMajority 2 (some .boolean) 1 12 [.ref (eA v (218)), .int x1] S (some (.int r)) S := con_of (by decide) hst (Nat.le_of_ble_eq_true rfl) (fun p e s m args below meth c hC => b_X9_isMajority_0 hC  hf)
def f_X9_alikeTo_77 (S : Mem) (x4 : Int32) : Option (Int32) := some x4
def f_X9_alikeTo_19_b (ih19 : Int32 → Option (Int32)) (S : Mem) (x1 : Int32) (x2 : Int32) (x3 : Int32) (x4 : Int32) : Option (Int32) := (if x3 ≤ x4 then f_X9_alikeTo_77 S x4 else bd1 (g_X9_of S x1 ((10 : Int32) + x4)) (fun r5 => bd1 (g_X9_of S x2 ((10 : Int32) + x4)) (fun r6 => (if r5 = r6 then bd1 (g_X9_of S x1 ((22 : Int32) + x4)) (fun r8 => bd1 (g_X9_of S x2 ((22 : Int32) + x4)) (fun r9 => (if r8 = r9 then ih19 ((x4 + (1 : Int32))) else f_X9_alikeTo_77 S x4))) else f_X9_alikeTo_77 S x4))))
def f_X9_alikeTo_19 (S : Mem) (x1 : Int32) (x2 : Int32) (x3 : Int32) (x4 : Int32) : Option (Int32) := lp (fun ih19 s9 => f_X9_alikeTo_19_b ih19 S x1 x2 x3 s9) 2000 (x4)
def f_X9_alikeTo_0 (S : Mem) (x1 : Int32) (x2 : Int32) : Option (Int32) := bd1 (g_X9_of S x1 (5 : Int32)) (fun r1 => bd1 (g_X9_of S x2 (5 : Int32)) (fun r2 => bd1 (g_X9_lesser r1 r2) (fun r3 => f_X9_alikeTo_19 S x1 x2 r3 (0 : Int32))))
def g_X9_alikeTo (S : Mem) (x1 : Int32) (x2 : Int32) : Option (Int32) := f_X9_alikeTo_0 S x1 x2
set_option maxHeartbeats 4000000 in
set_option maxRecDepth 100000 in
theorem b_X9_alikeTo_77 {v : EV} {p : Program} {l : Launch} {e : Env} {s : State} {m : MethodId} {args : Array Value} {below : List Frame} {meth : Method} {c : Code} (hC : Cx v p l e s m args meth c RX9 cX9_alikeTo 5 (some .int)) {S : Mem} {x4 : Int32}  {r : Int32} (hf : f_X9_alikeTo_77 S x4 = some r) : Mj v p l e (rmF 3 55) s m args below meth c 5 (MQ below (Qc v (some (.int r)) S) args s 0 0 (eG v)) 0 S 77 [(4, .int x4)] [] := by
  refine i_iload hC dX9_alikeTo_77 rfl ?_
  obtain rfl := Option.some.inj hf
  exact i_iret hC dX9_alikeTo_79
set_option maxHeartbeats 4000000 in
set_option maxRecDepth 100000 in
theorem b_X9_alikeTo_19_b {v : EV} {p : Program} {l : Launch} {e : Env} {s : State} {m : MethodId} {args : Array Value} {below : List Frame} {meth : Method} {c : Code} (hC : Cx v p l e s m args meth c RX9 cX9_alikeTo 5 (some .int)) {S : Mem} {x1 : Int32} {x2 : Int32} {x3 : Int32} {x4 : Int32}  {r : Int32} {ih19 : Int32 → Option (Int32)} (hih19 : ∀ s9 : Int32, ih19 s9 = some r → Mj v p l e (rmF 3 55) s m args below meth c 5 (MQ below (Qc v (some (.int r)) S) args s 0 0 (eG v)) 0 S 19 [(0, .ref (eA v (218))), (1, .int x1), (2, .int x2), (3, .int x3), (4, .int (s9))] []) (hf : f_X9_alikeTo_19_b ih19 S x1 x2 x3 x4 = some r) : Mj v p l e (rmF 3 55) s m args below meth c 5 (MQ below (Qc v (some (.int r)) S) args s 0 0 (eG v)) 0 S 19 [(0, .ref (eA v (218))), (1, .int x1), (2, .int x2), (3, .int x3), (4, .int x4)] [] := by
  refine i_iload hC dX9_alikeTo_19 rfl ?_
  refine i_iload_n hC dX9_alikeTo_21 rfl ?_
  refine i_icmp_ge hC (tgt := 77) dX9_alikeTo_22 (by decide) (fun c4 => ?_) (fun c4 => ?_)
  · replace hf := (if_pos c4).symm.trans hf
    exact Mj.to (b_X9_alikeTo_77 hC  hf) ⟨rfl, trivial⟩
  · replace hf := (if_neg c4).symm.trans hf
    refine i_aload_n hC dX9_alikeTo_25 rfl ?_
    refine i_iload_n hC dX9_alikeTo_26 rfl ?_
    refine i_bipush hC dX9_alikeTo_27 lb_10 ?_
    refine i_iload hC dX9_alikeTo_29 rfl ?_
    refine i_iadd hC dX9_alikeTo_31 ?_
    obtain ⟨r5, hc5, hf⟩ := bd1_of hf
    refine i_callVi hC mv_X9_69 (c_X9_of hC.2.2.2.2.2.2.2.1 hc5) (pln rfl) (lay_p218) rfl rfl rfl rfl ⟨Nat.le_of_ble_eq_true rfl, Nat.le_of_ble_eq_true rfl⟩ (Nat.le_of_ble_eq_true rfl) dX9_alikeTo_32 ?_
    refine i_aload_n hC dX9_alikeTo_35 rfl ?_
    refine i_iload_n hC dX9_alikeTo_36 rfl ?_
    refine i_bipush hC dX9_alikeTo_37 lb_10 ?_
    refine i_iload hC dX9_alikeTo_39 rfl ?_
    refine i_iadd hC dX9_alikeTo_41 ?_
    obtain ⟨r6, hc6, hf⟩ := bd1_of hf
    refine i_callVi hC mv_X9_69 (c_X9_of hC.2.2.2.2.2.2.2.1 hc6) (pln rfl) (lay_p218) rfl rfl rfl rfl ⟨Nat.le_of_ble_eq_true rfl, Nat.le_of_ble_eq_true rfl⟩ (Nat.le_of_ble_eq_true rfl) dX9_alikeTo_42 ?_
    refine i_icmp_ne hC (tgt := 77) dX9_alikeTo_45 (by decide) (fun c7 => ?_) (fun c7 => ?_)
    · replace hf := (if_neg c7).symm.trans hf
      exact Mj.to (b_X9_alikeTo_77 hC  hf) ⟨rfl, trivial⟩
    · replace hf := (if_pos c7).symm.trans hf
      refine i_aload_n hC dX9_alikeTo_48 rfl ?_
      refine i_iload_n hC dX9_alikeTo_49 rfl ?_
      refine i_bipush hC dX9_alikeTo_50 lb_22 ?_
      refine i_iload hC dX9_alikeTo_52 rfl ?_
      refine i_iadd hC dX9_alikeTo_54 ?_
      obtain ⟨r8, hc8, hf⟩ := bd1_of hf
      refine i_callVi hC mv_X9_69 (c_X9_of hC.2.2.2.2.2.2.2.1 hc8) (pln rfl) (lay_p218) rfl rfl rfl rfl ⟨Nat.le_of_ble_eq_true rfl, Nat.le_of_ble_eq_true rfl⟩ (Nat.le_of_ble_eq_true rfl) dX9_alikeTo_55 ?_
      refine i_aload_n hC dX9_alikeTo_58 rfl ?_
      refine i_iload_n hC dX9_alikeTo_59 rfl ?_
      refine i_bipush hC dX9_alikeTo_60 lb_22 ?_
      refine i_iload hC dX9_alikeTo_62 rfl ?_
      refine i_iadd hC dX9_alikeTo_64 ?_
      obtain ⟨r9, hc9, hf⟩ := bd1_of hf
      refine i_callVi hC mv_X9_69 (c_X9_of hC.2.2.2.2.2.2.2.1 hc9) (pln rfl) (lay_p218) rfl rfl rfl rfl ⟨Nat.le_of_ble_eq_true rfl, Nat.le_of_ble_eq_true rfl⟩ (Nat.le_of_ble_eq_true rfl) dX9_alikeTo_65 ?_
      refine i_icmp_ne hC (tgt := 77) dX9_alikeTo_68 (by decide) (fun c10 => ?_) (fun c10 => ?_)
      · replace hf := (if_neg c10).symm.trans hf
        exact Mj.to (b_X9_alikeTo_77 hC  hf) ⟨rfl, trivial⟩
      · replace hf := (if_pos c10).symm.trans hf
        refine i_iinc hC dX9_alikeTo_71 rfl li_1 (by decide) ?_
        refine i_goto hC (tgt := 19) dX9_alikeTo_74 (by decide) ?_
        exact Mj.to (hih19 _ hf) ⟨rfl, rfl, rfl, rfl, rfl, trivial⟩
theorem b_X9_alikeTo_19 {v : EV} {p : Program} {l : Launch} {e : Env} {s : State} {m : MethodId} {args : Array Value} {below : List Frame} {meth : Method} {c : Code} (hC : Cx v p l e s m args meth c RX9 cX9_alikeTo 5 (some .int)) {S : Mem} {x1 : Int32} {x2 : Int32} {x3 : Int32} {x4 : Int32}  {r : Int32} (hf : f_X9_alikeTo_19 S x1 x2 x3 x4 = some r) : Mj v p l e (rmF 3 55) s m args below meth c 5 (MQ below (Qc v (some (.int r)) S) args s 0 0 (eG v)) 0 S 19 [(0, .ref (eA v (218))), (1, .int x1), (2, .int x2), (3, .int x3), (4, .int x4)] [] :=
  lp_ind (P := fun s9 : Int32 => Mj v p l e (rmF 3 55) s m args below meth c 5 (MQ below (Qc v (some (.int r)) S) args s 0 0 (eG v)) 0 S 19 [(0, .ref (eA v (218))), (1, .int x1), (2, .int x2), (3, .int x3), (4, .int (s9))] []) (fun ih s9 hih hf => b_X9_alikeTo_19_b hC   hih hf) _ _ hf
set_option maxHeartbeats 4000000 in
set_option maxRecDepth 100000 in
theorem b_X9_alikeTo_0 {v : EV} {p : Program} {l : Launch} {e : Env} {s : State} {m : MethodId} {args : Array Value} {below : List Frame} {meth : Method} {c : Code} (hC : Cx v p l e s m args meth c RX9 cX9_alikeTo 5 (some .int)) {S : Mem} {x1 : Int32} {x2 : Int32}  {r : Int32} (hf : f_X9_alikeTo_0 S x1 x2 = some r) : Mj v p l e (rmF 3 55) s m args below meth c 5 (MQ below (Qc v (some (.int r)) S) args s 0 0 (eG v)) 0 S 0 [(0, .ref (eA v (218))), (1, .int x1), (2, .int x2)] [] := by
  refine i_aload_n hC dX9_alikeTo_0 rfl ?_
  refine i_iload_n hC dX9_alikeTo_1 rfl ?_
  refine i_iconst hC dX9_alikeTo_2 li_5 ?_
  obtain ⟨r1, hc1, hf⟩ := bd1_of hf
  refine i_callVi hC mv_X9_69 (c_X9_of hC.2.2.2.2.2.2.2.1 hc1) (pln rfl) (lay_p218) rfl rfl rfl rfl ⟨Nat.le_of_ble_eq_true rfl, Nat.le_of_ble_eq_true rfl⟩ (Nat.le_of_ble_eq_true rfl) dX9_alikeTo_3 ?_
  refine i_aload_n hC dX9_alikeTo_6 rfl ?_
  refine i_iload_n hC dX9_alikeTo_7 rfl ?_
  refine i_iconst hC dX9_alikeTo_8 li_5 ?_
  obtain ⟨r2, hc2, hf⟩ := bd1_of hf
  refine i_callVi hC mv_X9_69 (c_X9_of hC.2.2.2.2.2.2.2.1 hc2) (pln rfl) (lay_p218) rfl rfl rfl rfl ⟨Nat.le_of_ble_eq_true rfl, Nat.le_of_ble_eq_true rfl⟩ (Nat.le_of_ble_eq_true rfl) dX9_alikeTo_9 ?_
  obtain ⟨r3, hc3, hf⟩ := bd1_of hf
  refine i_callSi hC mv_X9_72 (c_X9_lesser hC.2.2.2.2.2.2.2.1 hc3) rfl rfl rfl ⟨Nat.le_of_ble_eq_true rfl, Nat.le_of_ble_eq_true rfl⟩ (Nat.le_of_ble_eq_true rfl) dX9_alikeTo_12 ?_
  refine i_istore_n hC dX9_alikeTo_15 (by decide) ?_
  refine i_iconst hC dX9_alikeTo_16 li_0 ?_
  refine i_istore hC dX9_alikeTo_17 (by decide) ?_
  exact Mj.to (b_X9_alikeTo_19 hC  hf) ⟨rfl, rfl, rfl, rfl, rfl, trivial⟩
theorem c_X9_alikeTo {v : EV} {l : Launch} (hst : Stb v) {S : Mem} {x1 x2 : Int32}  {r : Int32} (hf : g_X9_alikeTo S x1 x2 = some r) : Con v l yX9_alikeTo cX9_alikeTo 5 (some .int) 3 55 [.ref (eA v (218)), .int x1, .int x2] S (some (.int r)) S := con_of (by decide) hst (Nat.le_of_ble_eq_true rfl) (fun p e s m args below meth c hC => b_X9_alikeTo_0 hC  hf)
def f_X9_lastOwn_37 (S : Mem) (x2 : Int32) : Option (Int32) := some x2
def f_X9_lastOwn_7_b (ih7 : Int32 → Option (Int32)) (S : Mem) (x1 : Int32) (x2 : Int32) : Option (Int32) := (if x2 ≤ 0 then f_X9_lastOwn_37 S x2 else bd1 (g_X9_of S x1 (((10 : Int32) + x2) - (1 : Int32))) (fun r3 => bd1 (g_X9_of S x1 (1 : Int32)) (fun r4 => (if r3 = r4 then f_X9_lastOwn_37 S x2 else ih7 ((x2 + (-1 : Int32)))))))
def f_X9_lastOwn_7 (S : Mem) (x1 : Int32) (x2 : Int32) : Option (Int32) := lp (fun ih7 s9 => f_X9_lastOwn_7_b ih7 S x1 s9) 2000 (x2)
def f_X9_lastOwn_0 (S : Mem) (x1 : Int32) : Option (Int32) := bd1 (g_X9_of S x1 (5 : Int32)) (fun r1 => f_X9_lastOwn_7 S x1 r1)
def g_X9_lastOwn (S : Mem) (x1 : Int32) : Option (Int32) := f_X9_lastOwn_0 S x1
set_option maxHeartbeats 4000000 in
set_option maxRecDepth 100000 in
theorem b_X9_lastOwn_37 {v : EV} {p : Program} {l : Launch} {e : Env} {s : State} {m : MethodId} {args : Array Value} {below : List Frame} {meth : Method} {c : Code} (hC : Cx v p l e s m args meth c RX9 cX9_lastOwn 3 (some .int)) {S : Mem} {x2 : Int32}  {r : Int32} (hf : f_X9_lastOwn_37 S x2 = some r) : Mj v p l e (rmF 3 55) s m args below meth c 3 (MQ below (Qc v (some (.int r)) S) args s 0 0 (eG v)) 0 S 37 [(2, .int x2)] [] := by
  refine i_iload_n hC dX9_lastOwn_37 rfl ?_
  obtain rfl := Option.some.inj hf
  exact i_iret hC dX9_lastOwn_38
set_option maxHeartbeats 4000000 in
set_option maxRecDepth 100000 in
theorem b_X9_lastOwn_7_b {v : EV} {p : Program} {l : Launch} {e : Env} {s : State} {m : MethodId} {args : Array Value} {below : List Frame} {meth : Method} {c : Code} (hC : Cx v p l e s m args meth c RX9 cX9_lastOwn 3 (some .int)) {S : Mem} {x1 : Int32} {x2 : Int32}  {r : Int32} {ih7 : Int32 → Option (Int32)} (hih7 : ∀ s9 : Int32, ih7 s9 = some r → Mj v p l e (rmF 3 55) s m args below meth c 3 (MQ below (Qc v (some (.int r)) S) args s 0 0 (eG v)) 0 S 7 [(0, .ref (eA v (218))), (1, .int x1), (2, .int (s9))] []) (hf : f_X9_lastOwn_7_b ih7 S x1 x2 = some r) : Mj v p l e (rmF 3 55) s m args below meth c 3 (MQ below (Qc v (some (.int r)) S) args s 0 0 (eG v)) 0 S 7 [(0, .ref (eA v (218))), (1, .int x1), (2, .int x2)] [] := by
  refine i_iload_n hC dX9_lastOwn_7 rfl ?_
  refine i_if_le hC (tgt := 37) dX9_lastOwn_8 (by decide) (fun c2 => ?_) (fun c2 => ?_)
  · replace hf := (if_pos c2).symm.trans hf
    exact Mj.to (b_X9_lastOwn_37 hC  hf) ⟨rfl, trivial⟩
  · replace hf := (if_neg c2).symm.trans hf
    refine i_aload_n hC dX9_lastOwn_11 rfl ?_
    refine i_iload_n hC dX9_lastOwn_12 rfl ?_
    refine i_bipush hC dX9_lastOwn_13 lb_10 ?_
    refine i_iload_n hC dX9_lastOwn_15 rfl ?_
    refine i_iadd hC dX9_lastOwn_16 ?_
    refine i_iconst hC dX9_lastOwn_17 li_1 ?_
    refine i_isub hC dX9_lastOwn_18 ?_
    obtain ⟨r3, hc3, hf⟩ := bd1_of hf
    refine i_callVi hC mv_X9_69 (c_X9_of hC.2.2.2.2.2.2.2.1 hc3) (pln rfl) (lay_p218) rfl rfl rfl rfl ⟨Nat.le_of_ble_eq_true rfl, Nat.le_of_ble_eq_true rfl⟩ (Nat.le_of_ble_eq_true rfl) dX9_lastOwn_19 ?_
    refine i_aload_n hC dX9_lastOwn_22 rfl ?_
    refine i_iload_n hC dX9_lastOwn_23 rfl ?_
    refine i_iconst hC dX9_lastOwn_24 li_1 ?_
    obtain ⟨r4, hc4, hf⟩ := bd1_of hf
    refine i_callVi hC mv_X9_69 (c_X9_of hC.2.2.2.2.2.2.2.1 hc4) (pln rfl) (lay_p218) rfl rfl rfl rfl ⟨Nat.le_of_ble_eq_true rfl, Nat.le_of_ble_eq_true rfl⟩ (Nat.le_of_ble_eq_true rfl) dX9_lastOwn_25 ?_
    refine i_icmp_eq hC (tgt := 37) dX9_lastOwn_28 (by decide) (fun c5 => ?_) (fun c5 => ?_)
    · replace hf := (if_pos c5).symm.trans hf
      exact Mj.to (b_X9_lastOwn_37 hC  hf) ⟨rfl, trivial⟩
    · replace hf := (if_neg c5).symm.trans hf
      refine i_iinc hC dX9_lastOwn_31 rfl li_m1 (by decide) ?_
      refine i_goto hC (tgt := 7) dX9_lastOwn_34 (by decide) ?_
      exact Mj.to (hih7 _ hf) ⟨rfl, rfl, rfl, trivial⟩
theorem b_X9_lastOwn_7 {v : EV} {p : Program} {l : Launch} {e : Env} {s : State} {m : MethodId} {args : Array Value} {below : List Frame} {meth : Method} {c : Code} (hC : Cx v p l e s m args meth c RX9 cX9_lastOwn 3 (some .int)) {S : Mem} {x1 : Int32} {x2 : Int32}  {r : Int32} (hf : f_X9_lastOwn_7 S x1 x2 = some r) : Mj v p l e (rmF 3 55) s m args below meth c 3 (MQ below (Qc v (some (.int r)) S) args s 0 0 (eG v)) 0 S 7 [(0, .ref (eA v (218))), (1, .int x1), (2, .int x2)] [] :=
  lp_ind (P := fun s9 : Int32 => Mj v p l e (rmF 3 55) s m args below meth c 3 (MQ below (Qc v (some (.int r)) S) args s 0 0 (eG v)) 0 S 7 [(0, .ref (eA v (218))), (1, .int x1), (2, .int (s9))] []) (fun ih s9 hih hf => b_X9_lastOwn_7_b hC   hih hf) _ _ hf
set_option maxHeartbeats 4000000 in
set_option maxRecDepth 100000 in
theorem b_X9_lastOwn_0 {v : EV} {p : Program} {l : Launch} {e : Env} {s : State} {m : MethodId} {args : Array Value} {below : List Frame} {meth : Method} {c : Code} (hC : Cx v p l e s m args meth c RX9 cX9_lastOwn 3 (some .int)) {S : Mem} {x1 : Int32}  {r : Int32} (hf : f_X9_lastOwn_0 S x1 = some r) : Mj v p l e (rmF 3 55) s m args below meth c 3 (MQ below (Qc v (some (.int r)) S) args s 0 0 (eG v)) 0 S 0 [(0, .ref (eA v (218))), (1, .int x1)] [] := by
  refine i_aload_n hC dX9_lastOwn_0 rfl ?_
  refine i_iload_n hC dX9_lastOwn_1 rfl ?_
  refine i_iconst hC dX9_lastOwn_2 li_5 ?_
  obtain ⟨r1, hc1, hf⟩ := bd1_of hf
  refine i_callVi hC mv_X9_69 (c_X9_of hC.2.2.2.2.2.2.2.1 hc1) (pln rfl) (lay_p218) rfl rfl rfl rfl ⟨Nat.le_of_ble_eq_true rfl, Nat.le_of_ble_eq_true rfl⟩ (Nat.le_of_ble_eq_true rfl) dX9_lastOwn_3 ?_
  refine i_istore_n hC dX9_lastOwn_6 (by decide) ?_
  exact Mj.to (b_X9_lastOwn_7 hC  hf) ⟨rfl, rfl, rfl, trivial⟩
theorem c_X9_lastOwn {v : EV} {l : Launch} (hst : Stb v) {S : Mem} {x1 : Int32}  {r : Int32} (hf : g_X9_lastOwn S x1 = some r) : Con v l yX9_lastOwn cX9_lastOwn 3 (some .int) 3 55 [.ref (eA v (218)), .int x1] S (some (.int r)) S := con_of (by decide) hst (Nat.le_of_ble_eq_true rfl) (fun p e s m args below meth c hC => b_X9_lastOwn_0 hC  hf)
def f_X9_aboard_4_b (ih4 : (Int32 × Int32) → Option (Int32)) (S : Mem) (x1 : Int32) (x2 : Int32) : Option (Int32) := (if (S 20 1) ≤ x2 then some x1 else bd1 (g_X9_of S x2 (7 : Int32)) (fun r2 => ih4 ((x1 + r2), (x2 + (1 : Int32)))))
def f_X9_aboard_4 (S : Mem) (x1 : Int32) (x2 : Int32) : Option (Int32) := lp (fun ih4 s9 => f_X9_aboard_4_b ih4 S s9.1 s9.2) 2000 (x1, x2)
def f_X9_aboard_0 (S : Mem)  : Option (Int32) := f_X9_aboard_4 S (0 : Int32) (0 : Int32)
def g_X9_aboard (S : Mem)  : Option (Int32) := f_X9_aboard_0 S
set_option maxHeartbeats 4000000 in
set_option maxRecDepth 100000 in
theorem b_X9_aboard_4_b {v : EV} {p : Program} {l : Launch} {e : Env} {s : State} {m : MethodId} {args : Array Value} {below : List Frame} {meth : Method} {c : Code} (hC : Cx v p l e s m args meth c RX9 cX9_aboard 3 (some .int)) {S : Mem} {x1 : Int32} {x2 : Int32}  {r : Int32} {ih4 : (Int32 × Int32) → Option (Int32)} (hih4 : ∀ s9 : (Int32 × Int32), ih4 s9 = some r → Mj v p l e (rmF 3 55) s m args below meth c 3 (MQ below (Qc v (some (.int r)) S) args s 0 0 (eG v)) 0 S 4 [(0, .ref (eA v (218))), (1, .int (s9.1)), (2, .int (s9.2))] []) (hf : f_X9_aboard_4_b ih4 S x1 x2 = some r) : Mj v p l e (rmF 3 55) s m args below meth c 3 (MQ below (Qc v (some (.int r)) S) args s 0 0 (eG v)) 0 S 4 [(0, .ref (eA v (218))), (1, .int x1), (2, .int x2)] [] := by
  refine i_iload_n hC dX9_aboard_4 rfl ?_
  refine i_aload_n hC dX9_aboard_5 rfl ?_
  refine i_getR hC fl_X9_9 (pln rfl) (lay_p218) rfl dX9_aboard_6 ?_
  refine i_iconst hC dX9_aboard_9 li_1 ?_
  refine i_iald hC (j0 := 1) (pln rfl) (lay_p219) (inb_in (by decide)) (by decide) dX9_aboard_10 ?_
  refine i_icmp_ge hC (tgt := 30) dX9_aboard_11 (by decide) (fun c1 => ?_) (fun c1 => ?_)
  · replace hf := (if_pos c1).symm.trans hf
    refine i_iload_n hC dX9_aboard_30 rfl ?_
    obtain rfl := Option.some.inj hf
    exact i_iret hC dX9_aboard_31
  · replace hf := (if_neg c1).symm.trans hf
    refine i_iload_n hC dX9_aboard_14 rfl ?_
    refine i_aload_n hC dX9_aboard_15 rfl ?_
    refine i_iload_n hC dX9_aboard_16 rfl ?_
    refine i_bipush hC dX9_aboard_17 lb_7 ?_
    obtain ⟨r2, hc2, hf⟩ := bd1_of hf
    refine i_callVi hC mv_X9_69 (c_X9_of hC.2.2.2.2.2.2.2.1 hc2) (pln rfl) (lay_p218) rfl rfl rfl rfl ⟨Nat.le_of_ble_eq_true rfl, Nat.le_of_ble_eq_true rfl⟩ (Nat.le_of_ble_eq_true rfl) dX9_aboard_19 ?_
    refine i_iadd hC dX9_aboard_22 ?_
    refine i_istore_n hC dX9_aboard_23 (by decide) ?_
    refine i_iinc hC dX9_aboard_24 rfl li_1 (by decide) ?_
    refine i_goto hC (tgt := 4) dX9_aboard_27 (by decide) ?_
    exact Mj.to (hih4 _ hf) ⟨rfl, rfl, rfl, trivial⟩
theorem b_X9_aboard_4 {v : EV} {p : Program} {l : Launch} {e : Env} {s : State} {m : MethodId} {args : Array Value} {below : List Frame} {meth : Method} {c : Code} (hC : Cx v p l e s m args meth c RX9 cX9_aboard 3 (some .int)) {S : Mem} {x1 : Int32} {x2 : Int32}  {r : Int32} (hf : f_X9_aboard_4 S x1 x2 = some r) : Mj v p l e (rmF 3 55) s m args below meth c 3 (MQ below (Qc v (some (.int r)) S) args s 0 0 (eG v)) 0 S 4 [(0, .ref (eA v (218))), (1, .int x1), (2, .int x2)] [] :=
  lp_ind (P := fun s9 : (Int32 × Int32) => Mj v p l e (rmF 3 55) s m args below meth c 3 (MQ below (Qc v (some (.int r)) S) args s 0 0 (eG v)) 0 S 4 [(0, .ref (eA v (218))), (1, .int (s9.1)), (2, .int (s9.2))] []) (fun ih s9 hih hf => b_X9_aboard_4_b hC   hih hf) _ _ hf
set_option maxHeartbeats 4000000 in
set_option maxRecDepth 100000 in
theorem b_X9_aboard_0 {v : EV} {p : Program} {l : Launch} {e : Env} {s : State} {m : MethodId} {args : Array Value} {below : List Frame} {meth : Method} {c : Code} (hC : Cx v p l e s m args meth c RX9 cX9_aboard 3 (some .int)) {S : Mem}  {r : Int32} (hf : f_X9_aboard_0 S = some r) : Mj v p l e (rmF 3 55) s m args below meth c 3 (MQ below (Qc v (some (.int r)) S) args s 0 0 (eG v)) 0 S 0 [(0, .ref (eA v (218)))] [] := by
  refine i_iconst hC dX9_aboard_0 li_0 ?_
  refine i_istore_n hC dX9_aboard_1 (by decide) ?_
  refine i_iconst hC dX9_aboard_2 li_0 ?_
  refine i_istore_n hC dX9_aboard_3 (by decide) ?_
  exact Mj.to (b_X9_aboard_4 hC  hf) ⟨rfl, rfl, rfl, trivial⟩
theorem c_X9_aboard {v : EV} {l : Launch} (hst : Stb v) {S : Mem}  {r : Int32} (hf : g_X9_aboard S = some r) : Con v l yX9_aboard cX9_aboard 3 (some .int) 3 55 [.ref (eA v (218))] S (some (.int r)) S := con_of (by decide) hst (Nat.le_of_ble_eq_true rfl) (fun p e s m args below meth c hC => b_X9_aboard_0 hC  hf)
def f_X9_areDrivers_21 (S : Mem) (xt0 : Int32) : Option (Int32) := ck (isb xt0) (some xt0)
def f_X9_areDrivers_20 (S : Mem)  : Option (Int32) := f_X9_areDrivers_21 S (0 : Int32)
def f_X9_areDrivers_0 (S : Mem) (x1 : Int32) (x2 : Int32) : Option (Int32) := bd1 (g_X9_isDriver S x1) (fun r1 => (if r1 = 0 then f_X9_areDrivers_20 S else bd1 (g_X9_isDriver S x2) (fun r4 => (if r4 = 0 then f_X9_areDrivers_20 S else f_X9_areDrivers_21 S (1 : Int32)))))
def g_X9_areDrivers (S : Mem) (x1 : Int32) (x2 : Int32) : Option (Int32) := f_X9_areDrivers_0 S x1 x2
set_option maxHeartbeats 4000000 in
set_option maxRecDepth 100000 in
theorem b_X9_areDrivers_21 {v : EV} {p : Program} {l : Launch} {e : Env} {s : State} {m : MethodId} {args : Array Value} {below : List Frame} {meth : Method} {c : Code} (hC : Cx v p l e s m args meth c RX9 cX9_areDrivers 3 (some .boolean)) {S : Mem} {xt0 : Int32}  {r : Int32} (hf : f_X9_areDrivers_21 S xt0 = some r) : Mj v p l e (rmF 3 55) s m args below meth c 3 (MQ below (Qc v (some (.int r)) S) args s 0 0 (eG v)) 0 S 21 [] [.int xt0] := by
  obtain ⟨k3, hf⟩ := ck_of hf
  obtain rfl := Option.some.inj hf
  exact i_zret hC dX9_areDrivers_21 (isb_z k3).1
set_option maxHeartbeats 4000000 in
set_option maxRecDepth 100000 in
theorem b_X9_areDrivers_20 {v : EV} {p : Program} {l : Launch} {e : Env} {s : State} {m : MethodId} {args : Array Value} {below : List Frame} {meth : Method} {c : Code} (hC : Cx v p l e s m args meth c RX9 cX9_areDrivers 3 (some .boolean)) {S : Mem}  {r : Int32} (hf : f_X9_areDrivers_20 S = some r) : Mj v p l e (rmF 3 55) s m args below meth c 3 (MQ below (Qc v (some (.int r)) S) args s 0 0 (eG v)) 0 S 20 [] [] := by
  refine i_iconst hC dX9_areDrivers_20 li_0 ?_
  exact Mj.to (b_X9_areDrivers_21 hC  hf) trivial
set_option maxHeartbeats 4000000 in
set_option maxRecDepth 100000 in
theorem b_X9_areDrivers_0 {v : EV} {p : Program} {l : Launch} {e : Env} {s : State} {m : MethodId} {args : Array Value} {below : List Frame} {meth : Method} {c : Code} (hC : Cx v p l e s m args meth c RX9 cX9_areDrivers 3 (some .boolean)) {S : Mem} {x1 : Int32} {x2 : Int32}  {r : Int32} (hf : f_X9_areDrivers_0 S x1 x2 = some r) : Mj v p l e (rmF 3 55) s m args below meth c 3 (MQ below (Qc v (some (.int r)) S) args s 0 0 (eG v)) 0 S 0 [(0, .ref (eA v (218))), (1, .int x1), (2, .int x2)] [] := by
  refine i_aload_n hC dX9_areDrivers_0 rfl ?_
  refine i_iload_n hC dX9_areDrivers_1 rfl ?_
  obtain ⟨r1, hc1, hf⟩ := bd1_of hf
  refine i_callVi hC mv_X9_65 (c_X9_isDriver hC.2.2.2.2.2.2.2.1 hc1) (pln rfl) (lay_p218) rfl rfl rfl rfl ⟨Nat.le_of_ble_eq_true rfl, Nat.le_of_ble_eq_true rfl⟩ (Nat.le_of_ble_eq_true rfl) dX9_areDrivers_2 ?_
  refine i_if_eq hC (tgt := 20) dX9_areDrivers_5 (by decide) (fun c2 => ?_) (fun c2 => ?_)
  · replace hf := (if_pos c2).symm.trans hf
    exact Mj.to (b_X9_areDrivers_20 hC  hf) trivial
  · replace hf := (if_neg c2).symm.trans hf
    refine i_aload_n hC dX9_areDrivers_8 rfl ?_
    refine i_iload_n hC dX9_areDrivers_9 rfl ?_
    obtain ⟨r4, hc4, hf⟩ := bd1_of hf
    refine i_callVi hC mv_X9_65 (c_X9_isDriver hC.2.2.2.2.2.2.2.1 hc4) (pln rfl) (lay_p218) rfl rfl rfl rfl ⟨Nat.le_of_ble_eq_true rfl, Nat.le_of_ble_eq_true rfl⟩ (Nat.le_of_ble_eq_true rfl) dX9_areDrivers_10 ?_
    refine i_if_eq hC (tgt := 20) dX9_areDrivers_13 (by decide) (fun c5 => ?_) (fun c5 => ?_)
    · replace hf := (if_pos c5).symm.trans hf
      exact Mj.to (b_X9_areDrivers_20 hC  hf) trivial
    · replace hf := (if_neg c5).symm.trans hf
      refine i_iconst hC dX9_areDrivers_16 li_1 ?_
      refine i_goto hC (tgt := 21) dX9_areDrivers_17 (by decide) ?_
      exact Mj.to (b_X9_areDrivers_21 hC  hf) trivial
theorem c_X9_areDrivers {v : EV} {l : Launch} (hst : Stb v) {S : Mem} {x1 x2 : Int32}  {r : Int32} (hf : g_X9_areDrivers S x1 x2 = some r) : Con v l yX9_areDrivers cX9_areDrivers 3 (some .boolean) 3 55 [.ref (eA v (218)), .int x1, .int x2] S (some (.int r)) S := con_of (by decide) hst (Nat.le_of_ble_eq_true rfl) (fun p e s m args below meth c hC => b_X9_areDrivers_0 hC  hf)
