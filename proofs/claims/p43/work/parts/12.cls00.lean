def f_X2_copyLines_2_b (ih2 : (Mem × Int32) → Option (Mem)) (S : Mem) (d0_0 : Nat) (d0_1 : Nat) (d1_0 : Nat) (d1_1 : Nat) (x3 : Int32) : Option (Mem) := (if (S d1_0 (33 + 34 * d1_1 + 5)) ≤ x3 then some (up S d0_0 (33 + 34 * d0_1 + 5) (S d1_0 (33 + 34 * d1_1 + 5))) else ck (inb x3 12) (ck (inb x3 12) (ck (inb x3 12) (ck (inb x3 12) (ih2 ((up (up S d0_0 (33 + 34 * d0_1 + 10 + (x3).toNatClampNeg) (S d1_0 (33 + 34 * d1_1 + 10 + (x3).toNatClampNeg))) d0_0 (33 + 34 * d0_1 + 22 + (x3).toNatClampNeg) (vp_nar .char ((up S d0_0 (33 + 34 * d0_1 + 10 + (x3).toNatClampNeg) (S d1_0 (33 + 34 * d1_1 + 10 + (x3).toNatClampNeg))) d1_0 (33 + 34 * d1_1 + 22 + (x3).toNatClampNeg)))), (x3 + (1 : Int32))))))))
def f_X2_copyLines_2 (S : Mem) (d0_0 : Nat) (d0_1 : Nat) (d1_0 : Nat) (d1_1 : Nat) (x3 : Int32) : Option (Mem) := lp (fun ih2 s9 => f_X2_copyLines_2_b ih2 s9.1 d0_0 d0_1 d1_0 d1_1 s9.2) 2000 (S, x3)
def f_X2_copyLines_0 (S : Mem) (d0_0 : Nat) (d0_1 : Nat) (d1_0 : Nat) (d1_1 : Nat) (x2 : Int32) : Option (Mem) := f_X2_copyLines_2 S d0_0 d0_1 d1_0 d1_1 x2
def g_X2_copyLines (S : Mem) (d0_0 : Nat) (d0_1 : Nat) (d1_0 : Nat) (d1_1 : Nat) (x2 : Int32) : Option (Mem) := f_X2_copyLines_0 S d0_0 d0_1 d1_0 d1_1 x2
set_option maxHeartbeats 4000000 in
set_option maxRecDepth 100000 in
theorem b_X2_copyLines_2_b {v : EV} {p : Program} {l : Launch} {e : Env} {s : State} {m : MethodId} {args : Array Value} {below : List Frame} {meth : Method} {c : Code} (hC : Cx v p l e s m args meth c RX2 cX2_copyLines 4 none) {S : Mem} {d0_0 : Nat} {d0_1 : Nat} {d1_0 : Nat} {d1_1 : Nat} {x3 : Int32} (h0 : d0_0 < 11 ∧ d0_1 < 5) (h1 : d1_0 < 11 ∧ d1_1 < 5) {r : Mem} {ih2 : (Mem × Int32) → Option (Mem)} (hih2 : ∀ s9 : (Mem × Int32), ih2 s9 = some r → Mj v p l e (rmF 1 12) s m args below meth c 4 (MQ below (Qc v (none) r) args s 0 0 (eG v)) 0 s9.1 2 [(0, .ref (eA v (pD d0_0 d0_1))), (1, .ref (eA v (pD d1_0 d1_1))), (3, .int (s9.2))] []) (hf : f_X2_copyLines_2_b ih2 S d0_0 d0_1 d1_0 d1_1 x3 = some r) : Mj v p l e (rmF 1 12) s m args below meth c 4 (MQ below (Qc v (none) r) args s 0 0 (eG v)) 0 S 2 [(0, .ref (eA v (pD d0_0 d0_1))), (1, .ref (eA v (pD d1_0 d1_1))), (3, .int x3)] [] := by
  refine i_iload_n hC dX2_copyLines_2 rfl ?_
  refine i_aload_n hC dX2_copyLines_3 rfl ?_
  refine i_getI hC fl_X2_35 (pl_D h1) (lay_D h1) rfl dX2_copyLines_4 ?_
  refine i_icmp_ge hC (tgt := 40) dX2_copyLines_7 (by decide) (fun c1 => ?_) (fun c1 => ?_)
  · replace hf := (if_pos c1).symm.trans hf
    refine i_aload_n hC dX2_copyLines_40 rfl ?_
    refine i_aload_n hC dX2_copyLines_41 rfl ?_
    refine i_getI hC fl_X2_35 (pl_D h1) (lay_D h1) rfl dX2_copyLines_42 ?_
    refine i_putI hC fl_X2_35 (pl_D h0) (lay_D h0) rfl (bk_k (h0).1) (nf_int _) dX2_copyLines_45 ?_
    obtain rfl := Option.some.inj hf
    exact i_vret hC dX2_copyLines_48
  · replace hf := (if_neg c1).symm.trans hf
    refine i_aload_n hC dX2_copyLines_10 rfl ?_
    refine i_getR hC fl_X2_9 (pl_D h0) (lay_D h0) rfl dX2_copyLines_11 ?_
    refine i_iload_n hC dX2_copyLines_14 rfl ?_
    refine i_aload_n hC dX2_copyLines_15 rfl ?_
    refine i_getR hC fl_X2_9 (pl_D h1) (lay_D h1) rfl dX2_copyLines_16 ?_
    refine i_iload_n hC dX2_copyLines_19 rfl ?_
    obtain ⟨k2, hf⟩ := ck_of hf
    refine i_iald hC (j0 := (33 + 34 * d1_1 + 10 + (x3).toNatClampNeg)) (pl_AT h1) (lay_AT h1) (inb_in k2) rfl dX2_copyLines_20 ?_
    obtain ⟨k3, hf⟩ := ck_of hf
    refine i_iast hC (j0 := (33 + 34 * d0_1 + 10 + (x3).toNatClampNeg)) (pl_AT h0) (lay_AT h0) (bk_k (h0).1) (inb_in k3) rfl dX2_copyLines_21 ?_
    refine i_aload_n hC dX2_copyLines_22 rfl ?_
    refine i_getR hC fl_X2_15 (pl_D h0) (lay_D h0) rfl dX2_copyLines_23 ?_
    refine i_iload_n hC dX2_copyLines_26 rfl ?_
    refine i_aload_n hC dX2_copyLines_27 rfl ?_
    refine i_getR hC fl_X2_15 (pl_D h1) (lay_D h1) rfl dX2_copyLines_28 ?_
    refine i_iload_n hC dX2_copyLines_31 rfl ?_
    obtain ⟨k4, hf⟩ := ck_of hf
    refine i_cald hC (j0 := (33 + 34 * d1_1 + 22 + (x3).toNatClampNeg)) (pl_AL h1) (lay_AL h1) (inb_in k4) rfl dX2_copyLines_32 ?_
    obtain ⟨k5, hf⟩ := ck_of hf
    refine i_cast hC (j0 := (33 + 34 * d0_1 + 22 + (x3).toNatClampNeg)) (pl_AL h0) (lay_AL h0) (bk_k (h0).1) (inb_in k5) rfl dX2_copyLines_33 ?_
    refine i_iinc hC dX2_copyLines_34 rfl li_1 (by decide) ?_
    refine i_goto hC (tgt := 2) dX2_copyLines_37 (by decide) ?_
    exact Mj.to (hih2 _ hf) ⟨rfl, rfl, rfl, trivial⟩
theorem b_X2_copyLines_2 {v : EV} {p : Program} {l : Launch} {e : Env} {s : State} {m : MethodId} {args : Array Value} {below : List Frame} {meth : Method} {c : Code} (hC : Cx v p l e s m args meth c RX2 cX2_copyLines 4 none) {S : Mem} {d0_0 : Nat} {d0_1 : Nat} {d1_0 : Nat} {d1_1 : Nat} {x3 : Int32} (h0 : d0_0 < 11 ∧ d0_1 < 5) (h1 : d1_0 < 11 ∧ d1_1 < 5) {r : Mem} (hf : f_X2_copyLines_2 S d0_0 d0_1 d1_0 d1_1 x3 = some r) : Mj v p l e (rmF 1 12) s m args below meth c 4 (MQ below (Qc v (none) r) args s 0 0 (eG v)) 0 S 2 [(0, .ref (eA v (pD d0_0 d0_1))), (1, .ref (eA v (pD d1_0 d1_1))), (3, .int x3)] [] :=
  lp_ind (P := fun s9 : (Mem × Int32) => Mj v p l e (rmF 1 12) s m args below meth c 4 (MQ below (Qc v (none) r) args s 0 0 (eG v)) 0 s9.1 2 [(0, .ref (eA v (pD d0_0 d0_1))), (1, .ref (eA v (pD d1_0 d1_1))), (3, .int (s9.2))] []) (fun ih s9 hih hf => b_X2_copyLines_2_b hC h0 h1  hih hf) _ _ hf
set_option maxHeartbeats 4000000 in
set_option maxRecDepth 100000 in
theorem b_X2_copyLines_0 {v : EV} {p : Program} {l : Launch} {e : Env} {s : State} {m : MethodId} {args : Array Value} {below : List Frame} {meth : Method} {c : Code} (hC : Cx v p l e s m args meth c RX2 cX2_copyLines 4 none) {S : Mem} {d0_0 : Nat} {d0_1 : Nat} {d1_0 : Nat} {d1_1 : Nat} {x2 : Int32} (h0 : d0_0 < 11 ∧ d0_1 < 5) (h1 : d1_0 < 11 ∧ d1_1 < 5) {r : Mem} (hf : f_X2_copyLines_0 S d0_0 d0_1 d1_0 d1_1 x2 = some r) : Mj v p l e (rmF 1 12) s m args below meth c 4 (MQ below (Qc v (none) r) args s 0 0 (eG v)) 0 S 0 [(0, .ref (eA v (pD d0_0 d0_1))), (1, .ref (eA v (pD d1_0 d1_1))), (2, .int x2)] [] := by
  refine i_iload_n hC dX2_copyLines_0 rfl ?_
  refine i_istore_n hC dX2_copyLines_1 (by decide) ?_
  exact Mj.to (b_X2_copyLines_2 hC h0 h1 hf) ⟨rfl, rfl, rfl, trivial⟩
theorem c_X2_copyLines {v : EV} {l : Launch} (hst : Stb v) {S : Mem} {d0_0 d0_1 d1_0 d1_1 : Nat} {x2 : Int32} (h0 : d0_0 < 11 ∧ d0_1 < 5) (h1 : d1_0 < 11 ∧ d1_1 < 5) {r : Mem} (hf : g_X2_copyLines S d0_0 d0_1 d1_0 d1_1 x2 = some r) : Con v l yX2_copyLines cX2_copyLines 4 none 1 12 [.ref (eA v (pD d0_0 d0_1)), .ref (eA v (pD d1_0 d1_1)), .int x2] S (none) r := con_of (by decide) hst (Nat.le_of_ble_eq_true rfl) (fun p e s m args below meth c hC => b_X2_copyLines_0 hC h0 h1 hf)
def f_X2_begin_0 (S : Mem) (d0_0 : Nat) (d0_1 : Nat) (x1 : Int32) : Option (Mem) := some (up (up (up (up (up (up (up (up (up (up S d0_0 (33 + 34 * d0_1) (0 : Int32)) d0_0 (33 + 34 * d0_1 + 1) (0 : Int32)) d0_0 (33 + 34 * d0_1 + 2) x1) d0_0 (33 + 34 * d0_1 + 3) (0 : Int32)) d0_0 (33 + 34 * d0_1 + 4) (-1 : Int32)) d0_0 (33 + 34 * d0_1 + 5) (0 : Int32)) d0_0 (33 + 34 * d0_1 + 6) (0 : Int32)) d0_0 (33 + 34 * d0_1 + 7) (1 : Int32)) d0_0 (33 + 34 * d0_1 + 8) (0 : Int32)) d0_0 (33 + 34 * d0_1 + 9) (0 : Int32))
def g_X2_begin (S : Mem) (d0_0 : Nat) (d0_1 : Nat) (x1 : Int32) : Option (Mem) := f_X2_begin_0 S d0_0 d0_1 x1
set_option maxHeartbeats 4000000 in
set_option maxRecDepth 100000 in
theorem b_X2_begin_0 {v : EV} {p : Program} {l : Launch} {e : Env} {s : State} {m : MethodId} {args : Array Value} {below : List Frame} {meth : Method} {c : Code} (hC : Cx v p l e s m args meth c RX2 cX2_begin 2 none) {S : Mem} {d0_0 : Nat} {d0_1 : Nat} {x1 : Int32} (h0 : d0_0 < 11 ∧ d0_1 < 5) {r : Mem} (hf : f_X2_begin_0 S d0_0 d0_1 x1 = some r) : Mj v p l e (rmF 1 12) s m args below meth c 2 (MQ below (Qc v (none) r) args s 0 0 (eG v)) 0 S 0 [(0, .ref (eA v (pD d0_0 d0_1))), (1, .int x1)] [] := by
  refine i_aload_n hC dX2_begin_0 rfl ?_
  refine i_iconst hC dX2_begin_1 li_0 ?_
  refine i_putI hC fl_X2_19 (pl_D h0) (lay_D h0) rfl (bk_k (h0).1) (nf_int _) dX2_begin_2 ?_
  refine i_aload_n hC dX2_begin_5 rfl ?_
  refine i_iconst hC dX2_begin_6 li_0 ?_
  refine i_putI hC fl_X2_23 (pl_D h0) (lay_D h0) rfl (bk_k (h0).1) (nf_int _) dX2_begin_7 ?_
  refine i_aload_n hC dX2_begin_10 rfl ?_
  refine i_iload_n hC dX2_begin_11 rfl ?_
  refine i_putI hC fl_X2_26 (pl_D h0) (lay_D h0) rfl (bk_k (h0).1) (nf_int _) dX2_begin_12 ?_
  refine i_aload_n hC dX2_begin_15 rfl ?_
  refine i_iconst hC dX2_begin_16 li_0 ?_
  refine i_putI hC fl_X2_29 (pl_D h0) (lay_D h0) rfl (bk_k (h0).1) (nf_int _) dX2_begin_17 ?_
  refine i_aload_n hC dX2_begin_20 rfl ?_
  refine i_iconst hC dX2_begin_21 li_m1 ?_
  refine i_putI hC fl_X2_32 (pl_D h0) (lay_D h0) rfl (bk_k (h0).1) (nf_int _) dX2_begin_22 ?_
  refine i_aload_n hC dX2_begin_25 rfl ?_
  refine i_iconst hC dX2_begin_26 li_0 ?_
  refine i_putI hC fl_X2_35 (pl_D h0) (lay_D h0) rfl (bk_k (h0).1) (nf_int _) dX2_begin_27 ?_
  refine i_aload_n hC dX2_begin_30 rfl ?_
  refine i_iconst hC dX2_begin_31 li_0 ?_
  refine i_putI hC fl_X2_38 (pl_D h0) (lay_D h0) rfl (bk_k (h0).1) (nf_int _) dX2_begin_32 ?_
  refine i_aload_n hC dX2_begin_35 rfl ?_
  refine i_iconst hC dX2_begin_36 li_1 ?_
  refine i_putI hC fl_X2_41 (pl_D h0) (lay_D h0) rfl (bk_k (h0).1) (isb_z (by decide)) dX2_begin_37 ?_
  refine i_aload_n hC dX2_begin_40 rfl ?_
  refine i_iconst hC dX2_begin_41 li_0 ?_
  refine i_putI hC fl_X2_45 (pl_D h0) (lay_D h0) rfl (bk_k (h0).1) (nf_int _) dX2_begin_42 ?_
  refine i_aload_n hC dX2_begin_45 rfl ?_
  refine i_iconst hC dX2_begin_46 li_0 ?_
  refine i_putI hC fl_X2_48 (pl_D h0) (lay_D h0) rfl (bk_k (h0).1) (nf_int _) dX2_begin_47 ?_
  obtain rfl := Option.some.inj hf
  exact i_vret hC dX2_begin_50
theorem c_X2_begin {v : EV} {l : Launch} (hst : Stb v) {S : Mem} {d0_0 d0_1 : Nat} {x1 : Int32} (h0 : d0_0 < 11 ∧ d0_1 < 5) {r : Mem} (hf : g_X2_begin S d0_0 d0_1 x1 = some r) : Con v l yX2_begin cX2_begin 2 none 1 12 [.ref (eA v (pD d0_0 d0_1)), .int x1] S (none) r := con_of (by decide) hst (Nat.le_of_ble_eq_true rfl) (fun p e s m args below meth c hC => b_X2_begin_0 hC h0 hf)
def f_X2_takeOver_0 (S : Mem) (d0_0 : Nat) (d0_1 : Nat) (x1 : Int32) : Option (Mem) := some (up (up (up S d0_0 (33 + 34 * d0_1 + 1) x1) d0_0 (33 + 34 * d0_1) (0 : Int32)) d0_0 (33 + 34 * d0_1 + 4) (-1 : Int32))
def g_X2_takeOver (S : Mem) (d0_0 : Nat) (d0_1 : Nat) (x1 : Int32) : Option (Mem) := f_X2_takeOver_0 S d0_0 d0_1 x1
set_option maxHeartbeats 4000000 in
set_option maxRecDepth 100000 in
theorem b_X2_takeOver_0 {v : EV} {p : Program} {l : Launch} {e : Env} {s : State} {m : MethodId} {args : Array Value} {below : List Frame} {meth : Method} {c : Code} (hC : Cx v p l e s m args meth c RX2 cX2_takeOver 2 none) {S : Mem} {d0_0 : Nat} {d0_1 : Nat} {x1 : Int32} (h0 : d0_0 < 11 ∧ d0_1 < 5) {r : Mem} (hf : f_X2_takeOver_0 S d0_0 d0_1 x1 = some r) : Mj v p l e (rmF 1 12) s m args below meth c 2 (MQ below (Qc v (none) r) args s 0 0 (eG v)) 0 S 0 [(0, .ref (eA v (pD d0_0 d0_1))), (1, .int x1)] [] := by
  refine i_aload_n hC dX2_takeOver_0 rfl ?_
  refine i_iload_n hC dX2_takeOver_1 rfl ?_
  refine i_putI hC fl_X2_23 (pl_D h0) (lay_D h0) rfl (bk_k (h0).1) (nf_int _) dX2_takeOver_2 ?_
  refine i_aload_n hC dX2_takeOver_5 rfl ?_
  refine i_iconst hC dX2_takeOver_6 li_0 ?_
  refine i_putI hC fl_X2_19 (pl_D h0) (lay_D h0) rfl (bk_k (h0).1) (nf_int _) dX2_takeOver_7 ?_
  refine i_aload_n hC dX2_takeOver_10 rfl ?_
  refine i_iconst hC dX2_takeOver_11 li_m1 ?_
  refine i_putI hC fl_X2_32 (pl_D h0) (lay_D h0) rfl (bk_k (h0).1) (nf_int _) dX2_takeOver_12 ?_
  obtain rfl := Option.some.inj hf
  exact i_vret hC dX2_takeOver_15
theorem c_X2_takeOver {v : EV} {l : Launch} (hst : Stb v) {S : Mem} {d0_0 d0_1 : Nat} {x1 : Int32} (h0 : d0_0 < 11 ∧ d0_1 < 5) {r : Mem} (hf : g_X2_takeOver S d0_0 d0_1 x1 = some r) : Con v l yX2_takeOver cX2_takeOver 2 none 1 12 [.ref (eA v (pD d0_0 d0_1)), .int x1] S (none) r := con_of (by decide) hst (Nat.le_of_ble_eq_true rfl) (fun p e s m args below meth c hC => b_X2_takeOver_0 hC h0 hf)
def f_X2_hasLongerTaleThan_80 (S : Mem) (xt0 : Int32) : Option (Int32) := ck (isb xt0) (some xt0)
def f_X2_hasLongerTaleThan_45 (S : Mem) (d0_0 : Nat) (d0_1 : Nat) (d1_0 : Nat) (d1_1 : Nat) (x2 : Int32) (xt0 : Int32) : Option (Int32) := (if x2 = xt0 then (if (S d0_0 (33 + 34 * d0_1 + 5)) ≤ (S d1_0 (33 + 34 * d1_1 + 5)) then f_X2_hasLongerTaleThan_80 S (0 : Int32) else f_X2_hasLongerTaleThan_80 S (1 : Int32)) else (if x2 ≤ xt0 then f_X2_hasLongerTaleThan_80 S (0 : Int32) else f_X2_hasLongerTaleThan_80 S (1 : Int32)))
def f_X2_hasLongerTaleThan_22 (S : Mem) (d0_0 : Nat) (d0_1 : Nat) (d1_0 : Nat) (d1_1 : Nat) (xt0 : Int32) : Option (Int32) := (if (S d1_0 (33 + 34 * d1_1 + 5)) ≤ 0 then f_X2_hasLongerTaleThan_45 S d0_0 d0_1 d1_0 d1_1 xt0 (0 : Int32) else ck (inb ((S d1_0 (33 + 34 * d1_1 + 5)) - (1 : Int32)) 12) (f_X2_hasLongerTaleThan_45 S d0_0 d0_1 d1_0 d1_1 xt0 (S d1_0 (33 + 34 * d1_1 + 10 + (((S d1_0 (33 + 34 * d1_1 + 5)) - (1 : Int32))).toNatClampNeg))))
def f_X2_hasLongerTaleThan_0 (S : Mem) (d0_0 : Nat) (d0_1 : Nat) (d1_0 : Nat) (d1_1 : Nat) : Option (Int32) := (if (S d0_0 (33 + 34 * d0_1 + 5)) ≤ 0 then f_X2_hasLongerTaleThan_22 S d0_0 d0_1 d1_0 d1_1 (0 : Int32) else ck (inb ((S d0_0 (33 + 34 * d0_1 + 5)) - (1 : Int32)) 12) (f_X2_hasLongerTaleThan_22 S d0_0 d0_1 d1_0 d1_1 (S d0_0 (33 + 34 * d0_1 + 10 + (((S d0_0 (33 + 34 * d0_1 + 5)) - (1 : Int32))).toNatClampNeg))))
def g_X2_hasLongerTaleThan (S : Mem) (d0_0 : Nat) (d0_1 : Nat) (d1_0 : Nat) (d1_1 : Nat) : Option (Int32) := f_X2_hasLongerTaleThan_0 S d0_0 d0_1 d1_0 d1_1
set_option maxHeartbeats 4000000 in
set_option maxRecDepth 100000 in
theorem b_X2_hasLongerTaleThan_80 {v : EV} {p : Program} {l : Launch} {e : Env} {s : State} {m : MethodId} {args : Array Value} {below : List Frame} {meth : Method} {c : Code} (hC : Cx v p l e s m args meth c RX2 cX2_hasLongerTaleThan 4 (some .boolean)) {S : Mem} {xt0 : Int32}  {r : Int32} (hf : f_X2_hasLongerTaleThan_80 S xt0 = some r) : Mj v p l e (rmF 1 12) s m args below meth c 4 (MQ below (Qc v (some (.int r)) S) args s 0 0 (eG v)) 0 S 80 [] [.int xt0] := by
  obtain ⟨k5, hf⟩ := ck_of hf
  obtain rfl := Option.some.inj hf
  exact i_zret hC dX2_hasLongerTaleThan_80 (isb_z k5).1
set_option maxHeartbeats 4000000 in
set_option maxRecDepth 100000 in
theorem b_X2_hasLongerTaleThan_45 {v : EV} {p : Program} {l : Launch} {e : Env} {s : State} {m : MethodId} {args : Array Value} {below : List Frame} {meth : Method} {c : Code} (hC : Cx v p l e s m args meth c RX2 cX2_hasLongerTaleThan 4 (some .boolean)) {S : Mem} {d0_0 : Nat} {d0_1 : Nat} {d1_0 : Nat} {d1_1 : Nat} {x2 : Int32} {xt0 : Int32} (h0 : d0_0 < 11 ∧ d0_1 < 5) (h1 : d1_0 < 11 ∧ d1_1 < 5) {r : Int32} (hf : f_X2_hasLongerTaleThan_45 S d0_0 d0_1 d1_0 d1_1 x2 xt0 = some r) : Mj v p l e (rmF 1 12) s m args below meth c 4 (MQ below (Qc v (some (.int r)) S) args s 0 0 (eG v)) 0 S 45 [(0, .ref (eA v (pD d0_0 d0_1))), (1, .ref (eA v (pD d1_0 d1_1))), (2, .int x2)] [.int xt0] := by
  refine i_istore_n hC dX2_hasLongerTaleThan_45 (by decide) ?_
  refine i_iload_n hC dX2_hasLongerTaleThan_46 rfl ?_
  refine i_iload_n hC dX2_hasLongerTaleThan_47 rfl ?_
  refine i_icmp_ne hC (tgt := 70) dX2_hasLongerTaleThan_48 (by decide) (fun c3 => ?_) (fun c3 => ?_)
  · replace hf := (if_neg c3).symm.trans hf
    refine i_iload_n hC dX2_hasLongerTaleThan_70 rfl ?_
    refine i_iload_n hC dX2_hasLongerTaleThan_71 rfl ?_
    refine i_icmp_le hC (tgt := 79) dX2_hasLongerTaleThan_72 (by decide) (fun c4 => ?_) (fun c4 => ?_)
    · replace hf := (if_pos c4).symm.trans hf
      refine i_iconst hC dX2_hasLongerTaleThan_79 li_0 ?_
      exact Mj.to (b_X2_hasLongerTaleThan_80 hC  hf) trivial
    · replace hf := (if_neg c4).symm.trans hf
      refine i_iconst hC dX2_hasLongerTaleThan_75 li_1 ?_
      refine i_goto hC (tgt := 80) dX2_hasLongerTaleThan_76 (by decide) ?_
      exact Mj.to (b_X2_hasLongerTaleThan_80 hC  hf) trivial
  · replace hf := (if_pos c3).symm.trans hf
    refine i_aload_n hC dX2_hasLongerTaleThan_51 rfl ?_
    refine i_getI hC fl_X2_35 (pl_D h0) (lay_D h0) rfl dX2_hasLongerTaleThan_52 ?_
    refine i_aload_n hC dX2_hasLongerTaleThan_55 rfl ?_
    refine i_getI hC fl_X2_35 (pl_D h1) (lay_D h1) rfl dX2_hasLongerTaleThan_56 ?_
    refine i_icmp_le hC (tgt := 66) dX2_hasLongerTaleThan_59 (by decide) (fun c6 => ?_) (fun c6 => ?_)
    · replace hf := (if_pos c6).symm.trans hf
      refine i_iconst hC dX2_hasLongerTaleThan_66 li_0 ?_
      refine i_goto hC (tgt := 80) dX2_hasLongerTaleThan_67 (by decide) ?_
      exact Mj.to (b_X2_hasLongerTaleThan_80 hC  hf) trivial
    · replace hf := (if_neg c6).symm.trans hf
      refine i_iconst hC dX2_hasLongerTaleThan_62 li_1 ?_
      refine i_goto hC (tgt := 80) dX2_hasLongerTaleThan_63 (by decide) ?_
      exact Mj.to (b_X2_hasLongerTaleThan_80 hC  hf) trivial
set_option maxHeartbeats 4000000 in
set_option maxRecDepth 100000 in
theorem b_X2_hasLongerTaleThan_22 {v : EV} {p : Program} {l : Launch} {e : Env} {s : State} {m : MethodId} {args : Array Value} {below : List Frame} {meth : Method} {c : Code} (hC : Cx v p l e s m args meth c RX2 cX2_hasLongerTaleThan 4 (some .boolean)) {S : Mem} {d0_0 : Nat} {d0_1 : Nat} {d1_0 : Nat} {d1_1 : Nat} {xt0 : Int32} (h0 : d0_0 < 11 ∧ d0_1 < 5) (h1 : d1_0 < 11 ∧ d1_1 < 5) {r : Int32} (hf : f_X2_hasLongerTaleThan_22 S d0_0 d0_1 d1_0 d1_1 xt0 = some r) : Mj v p l e (rmF 1 12) s m args below meth c 4 (MQ below (Qc v (some (.int r)) S) args s 0 0 (eG v)) 0 S 22 [(0, .ref (eA v (pD d0_0 d0_1))), (1, .ref (eA v (pD d1_0 d1_1)))] [.int xt0] := by
  refine i_istore_n hC dX2_hasLongerTaleThan_22 (by decide) ?_
  refine i_aload_n hC dX2_hasLongerTaleThan_23 rfl ?_
  refine i_getI hC fl_X2_35 (pl_D h1) (lay_D h1) rfl dX2_hasLongerTaleThan_24 ?_
  refine i_if_le hC (tgt := 44) dX2_hasLongerTaleThan_27 (by decide) (fun c2 => ?_) (fun c2 => ?_)
  · replace hf := (if_pos c2).symm.trans hf
    refine i_iconst hC dX2_hasLongerTaleThan_44 li_0 ?_
    exact Mj.to (b_X2_hasLongerTaleThan_45 hC h0 h1 hf) ⟨rfl, rfl, rfl, trivial⟩
  · replace hf := (if_neg c2).symm.trans hf
    refine i_aload_n hC dX2_hasLongerTaleThan_30 rfl ?_
    refine i_getR hC fl_X2_9 (pl_D h1) (lay_D h1) rfl dX2_hasLongerTaleThan_31 ?_
    refine i_aload_n hC dX2_hasLongerTaleThan_34 rfl ?_
    refine i_getI hC fl_X2_35 (pl_D h1) (lay_D h1) rfl dX2_hasLongerTaleThan_35 ?_
    refine i_iconst hC dX2_hasLongerTaleThan_38 li_1 ?_
    refine i_isub hC dX2_hasLongerTaleThan_39 ?_
    obtain ⟨k7, hf⟩ := ck_of hf
    refine i_iald hC (j0 := (33 + 34 * d1_1 + 10 + (((S d1_0 (33 + 34 * d1_1 + 5)) - (1 : Int32))).toNatClampNeg)) (pl_AT h1) (lay_AT h1) (inb_in k7) rfl dX2_hasLongerTaleThan_40 ?_
    refine i_goto hC (tgt := 45) dX2_hasLongerTaleThan_41 (by decide) ?_
    exact Mj.to (b_X2_hasLongerTaleThan_45 hC h0 h1 hf) ⟨rfl, rfl, rfl, trivial⟩
set_option maxHeartbeats 4000000 in
set_option maxRecDepth 100000 in
theorem b_X2_hasLongerTaleThan_0 {v : EV} {p : Program} {l : Launch} {e : Env} {s : State} {m : MethodId} {args : Array Value} {below : List Frame} {meth : Method} {c : Code} (hC : Cx v p l e s m args meth c RX2 cX2_hasLongerTaleThan 4 (some .boolean)) {S : Mem} {d0_0 : Nat} {d0_1 : Nat} {d1_0 : Nat} {d1_1 : Nat} (h0 : d0_0 < 11 ∧ d0_1 < 5) (h1 : d1_0 < 11 ∧ d1_1 < 5) {r : Int32} (hf : f_X2_hasLongerTaleThan_0 S d0_0 d0_1 d1_0 d1_1 = some r) : Mj v p l e (rmF 1 12) s m args below meth c 4 (MQ below (Qc v (some (.int r)) S) args s 0 0 (eG v)) 0 S 0 [(0, .ref (eA v (pD d0_0 d0_1))), (1, .ref (eA v (pD d1_0 d1_1)))] [] := by
  refine i_aload_n hC dX2_hasLongerTaleThan_0 rfl ?_
  refine i_getI hC fl_X2_35 (pl_D h0) (lay_D h0) rfl dX2_hasLongerTaleThan_1 ?_
  refine i_if_le hC (tgt := 21) dX2_hasLongerTaleThan_4 (by decide) (fun c1 => ?_) (fun c1 => ?_)
  · replace hf := (if_pos c1).symm.trans hf
    refine i_iconst hC dX2_hasLongerTaleThan_21 li_0 ?_
    exact Mj.to (b_X2_hasLongerTaleThan_22 hC h0 h1 hf) ⟨rfl, rfl, trivial⟩
  · replace hf := (if_neg c1).symm.trans hf
    refine i_aload_n hC dX2_hasLongerTaleThan_7 rfl ?_
    refine i_getR hC fl_X2_9 (pl_D h0) (lay_D h0) rfl dX2_hasLongerTaleThan_8 ?_
    refine i_aload_n hC dX2_hasLongerTaleThan_11 rfl ?_
    refine i_getI hC fl_X2_35 (pl_D h0) (lay_D h0) rfl dX2_hasLongerTaleThan_12 ?_
    refine i_iconst hC dX2_hasLongerTaleThan_15 li_1 ?_
    refine i_isub hC dX2_hasLongerTaleThan_16 ?_
    obtain ⟨k8, hf⟩ := ck_of hf
    refine i_iald hC (j0 := (33 + 34 * d0_1 + 10 + (((S d0_0 (33 + 34 * d0_1 + 5)) - (1 : Int32))).toNatClampNeg)) (pl_AT h0) (lay_AT h0) (inb_in k8) rfl dX2_hasLongerTaleThan_17 ?_
    refine i_goto hC (tgt := 22) dX2_hasLongerTaleThan_18 (by decide) ?_
    exact Mj.to (b_X2_hasLongerTaleThan_22 hC h0 h1 hf) ⟨rfl, rfl, trivial⟩
theorem c_X2_hasLongerTaleThan {v : EV} {l : Launch} (hst : Stb v) {S : Mem} {d0_0 d0_1 d1_0 d1_1 : Nat} (h0 : d0_0 < 11 ∧ d0_1 < 5) (h1 : d1_0 < 11 ∧ d1_1 < 5) {r : Int32} (hf : g_X2_hasLongerTaleThan S d0_0 d0_1 d1_0 d1_1 = some r) : Con v l yX2_hasLongerTaleThan cX2_hasLongerTaleThan 4 (some .boolean) 1 12 [.ref (eA v (pD d0_0 d0_1)), .ref (eA v (pD d1_0 d1_1))] S (some (.int r)) S := con_of (by decide) hst (Nat.le_of_ble_eq_true rfl) (fun p e s m args below meth c hC => b_X2_hasLongerTaleThan_0 hC h0 h1 hf)
def f_X2_countSameLines_55 (S : Mem) (x3 : Int32) : Option (Int32) := some x3
def f_X2_countSameLines_14_b (ih14 : Int32 → Option (Int32)) (S : Mem) (d0_0 : Nat) (d0_1 : Nat) (d1_0 : Nat) (d1_1 : Nat) (x2 : Int32) (x3 : Int32) : Option (Int32) := (if x2 ≤ x3 then f_X2_countSameLines_55 S x3 else ck (inb x3 12) (ck (inb x3 12) ((if (S d0_0 (33 + 34 * d0_1 + 10 + (x3).toNatClampNeg)) = (S d1_0 (33 + 34 * d1_1 + 10 + (x3).toNatClampNeg)) then ck (inb x3 12) (ck (inb x3 12) ((if (S d0_0 (33 + 34 * d0_1 + 22 + (x3).toNatClampNeg)) = (S d1_0 (33 + 34 * d1_1 + 22 + (x3).toNatClampNeg)) then ih14 ((x3 + (1 : Int32))) else f_X2_countSameLines_55 S x3))) else f_X2_countSameLines_55 S x3))))
def f_X2_countSameLines_14 (S : Mem) (d0_0 : Nat) (d0_1 : Nat) (d1_0 : Nat) (d1_1 : Nat) (x2 : Int32) (x3 : Int32) : Option (Int32) := lp (fun ih14 s9 => f_X2_countSameLines_14_b ih14 S d0_0 d0_1 d1_0 d1_1 x2 s9) 2000 (x3)
def f_X2_countSameLines_0 (S : Mem) (d0_0 : Nat) (d0_1 : Nat) (d1_0 : Nat) (d1_1 : Nat) : Option (Int32) := f_X2_countSameLines_14 S d0_0 d0_1 d1_0 d1_1 (mn (S d0_0 (33 + 34 * d0_1 + 5)) (S d1_0 (33 + 34 * d1_1 + 5))) (0 : Int32)
def g_X2_countSameLines (S : Mem) (d0_0 : Nat) (d0_1 : Nat) (d1_0 : Nat) (d1_1 : Nat) : Option (Int32) := f_X2_countSameLines_0 S d0_0 d0_1 d1_0 d1_1
set_option maxHeartbeats 4000000 in
set_option maxRecDepth 100000 in
theorem b_X2_countSameLines_55 {v : EV} {p : Program} {l : Launch} {e : Env} {s : State} {m : MethodId} {args : Array Value} {below : List Frame} {meth : Method} {c : Code} (hC : Cx v p l e s m args meth c RX2 cX2_countSameLines 4 (some .int)) {S : Mem} {x3 : Int32}  {r : Int32} (hf : f_X2_countSameLines_55 S x3 = some r) : Mj v p l e (rmF 1 21) s m args below meth c 4 (MQ below (Qc v (some (.int r)) S) args s 0 0 (eG v)) 0 S 55 [(3, .int x3)] [] := by
  refine i_iload_n hC dX2_countSameLines_55 rfl ?_
  obtain rfl := Option.some.inj hf
  exact i_iret hC dX2_countSameLines_56
set_option maxHeartbeats 4000000 in
set_option maxRecDepth 100000 in
theorem b_X2_countSameLines_14_b {v : EV} {p : Program} {l : Launch} {e : Env} {s : State} {m : MethodId} {args : Array Value} {below : List Frame} {meth : Method} {c : Code} (hC : Cx v p l e s m args meth c RX2 cX2_countSameLines 4 (some .int)) {S : Mem} {d0_0 : Nat} {d0_1 : Nat} {d1_0 : Nat} {d1_1 : Nat} {x2 : Int32} {x3 : Int32} (h0 : d0_0 < 11 ∧ d0_1 < 5) (h1 : d1_0 < 11 ∧ d1_1 < 5) {r : Int32} {ih14 : Int32 → Option (Int32)} (hih14 : ∀ s9 : Int32, ih14 s9 = some r → Mj v p l e (rmF 1 21) s m args below meth c 4 (MQ below (Qc v (some (.int r)) S) args s 0 0 (eG v)) 0 S 14 [(0, .ref (eA v (pD d0_0 d0_1))), (1, .ref (eA v (pD d1_0 d1_1))), (2, .int x2), (3, .int (s9))] []) (hf : f_X2_countSameLines_14_b ih14 S d0_0 d0_1 d1_0 d1_1 x2 x3 = some r) : Mj v p l e (rmF 1 21) s m args below meth c 4 (MQ below (Qc v (some (.int r)) S) args s 0 0 (eG v)) 0 S 14 [(0, .ref (eA v (pD d0_0 d0_1))), (1, .ref (eA v (pD d1_0 d1_1))), (2, .int x2), (3, .int x3)] [] := by
  refine i_iload_n hC dX2_countSameLines_14 rfl ?_
  refine i_iload_n hC dX2_countSameLines_15 rfl ?_
  refine i_icmp_ge hC (tgt := 55) dX2_countSameLines_16 (by decide) (fun c1 => ?_) (fun c1 => ?_)
  · replace hf := (if_pos c1).symm.trans hf
    exact Mj.to (b_X2_countSameLines_55 hC  hf) ⟨rfl, trivial⟩
  · replace hf := (if_neg c1).symm.trans hf
    refine i_aload_n hC dX2_countSameLines_19 rfl ?_
    refine i_getR hC fl_X2_9 (pl_D h0) (lay_D h0) rfl dX2_countSameLines_20 ?_
    refine i_iload_n hC dX2_countSameLines_23 rfl ?_
    obtain ⟨k2, hf⟩ := ck_of hf
    refine i_iald hC (j0 := (33 + 34 * d0_1 + 10 + (x3).toNatClampNeg)) (pl_AT h0) (lay_AT h0) (inb_in k2) rfl dX2_countSameLines_24 ?_
    refine i_aload_n hC dX2_countSameLines_25 rfl ?_
    refine i_getR hC fl_X2_9 (pl_D h1) (lay_D h1) rfl dX2_countSameLines_26 ?_
    refine i_iload_n hC dX2_countSameLines_29 rfl ?_
    obtain ⟨k3, hf⟩ := ck_of hf
    refine i_iald hC (j0 := (33 + 34 * d1_1 + 10 + (x3).toNatClampNeg)) (pl_AT h1) (lay_AT h1) (inb_in k3) rfl dX2_countSameLines_30 ?_
    refine i_icmp_ne hC (tgt := 55) dX2_countSameLines_31 (by decide) (fun c4 => ?_) (fun c4 => ?_)
    · replace hf := (if_neg c4).symm.trans hf
      exact Mj.to (b_X2_countSameLines_55 hC  hf) ⟨rfl, trivial⟩
    · replace hf := (if_pos c4).symm.trans hf
      refine i_aload_n hC dX2_countSameLines_34 rfl ?_
      refine i_getR hC fl_X2_15 (pl_D h0) (lay_D h0) rfl dX2_countSameLines_35 ?_
      refine i_iload_n hC dX2_countSameLines_38 rfl ?_
      obtain ⟨k5, hf⟩ := ck_of hf
      refine i_cald hC (j0 := (33 + 34 * d0_1 + 22 + (x3).toNatClampNeg)) (pl_AL h0) (lay_AL h0) (inb_in k5) rfl dX2_countSameLines_39 ?_
      refine i_aload_n hC dX2_countSameLines_40 rfl ?_
      refine i_getR hC fl_X2_15 (pl_D h1) (lay_D h1) rfl dX2_countSameLines_41 ?_
      refine i_iload_n hC dX2_countSameLines_44 rfl ?_
      obtain ⟨k6, hf⟩ := ck_of hf
      refine i_cald hC (j0 := (33 + 34 * d1_1 + 22 + (x3).toNatClampNeg)) (pl_AL h1) (lay_AL h1) (inb_in k6) rfl dX2_countSameLines_45 ?_
      refine i_icmp_ne hC (tgt := 55) dX2_countSameLines_46 (by decide) (fun c7 => ?_) (fun c7 => ?_)
      · replace hf := (if_neg c7).symm.trans hf
        exact Mj.to (b_X2_countSameLines_55 hC  hf) ⟨rfl, trivial⟩
      · replace hf := (if_pos c7).symm.trans hf
        refine i_iinc hC dX2_countSameLines_49 rfl li_1 (by decide) ?_
        refine i_goto hC (tgt := 14) dX2_countSameLines_52 (by decide) ?_
        exact Mj.to (hih14 _ hf) ⟨rfl, rfl, rfl, rfl, trivial⟩
theorem b_X2_countSameLines_14 {v : EV} {p : Program} {l : Launch} {e : Env} {s : State} {m : MethodId} {args : Array Value} {below : List Frame} {meth : Method} {c : Code} (hC : Cx v p l e s m args meth c RX2 cX2_countSameLines 4 (some .int)) {S : Mem} {d0_0 : Nat} {d0_1 : Nat} {d1_0 : Nat} {d1_1 : Nat} {x2 : Int32} {x3 : Int32} (h0 : d0_0 < 11 ∧ d0_1 < 5) (h1 : d1_0 < 11 ∧ d1_1 < 5) {r : Int32} (hf : f_X2_countSameLines_14 S d0_0 d0_1 d1_0 d1_1 x2 x3 = some r) : Mj v p l e (rmF 1 21) s m args below meth c 4 (MQ below (Qc v (some (.int r)) S) args s 0 0 (eG v)) 0 S 14 [(0, .ref (eA v (pD d0_0 d0_1))), (1, .ref (eA v (pD d1_0 d1_1))), (2, .int x2), (3, .int x3)] [] :=
  lp_ind (P := fun s9 : Int32 => Mj v p l e (rmF 1 21) s m args below meth c 4 (MQ below (Qc v (some (.int r)) S) args s 0 0 (eG v)) 0 S 14 [(0, .ref (eA v (pD d0_0 d0_1))), (1, .ref (eA v (pD d1_0 d1_1))), (2, .int x2), (3, .int (s9))] []) (fun ih s9 hih hf => b_X2_countSameLines_14_b hC h0 h1  hih hf) _ _ hf
set_option maxHeartbeats 4000000 in
set_option maxRecDepth 100000 in
theorem b_X2_countSameLines_0 {v : EV} {p : Program} {l : Launch} {e : Env} {s : State} {m : MethodId} {args : Array Value} {below : List Frame} {meth : Method} {c : Code} (hC : Cx v p l e s m args meth c RX2 cX2_countSameLines 4 (some .int)) {S : Mem} {d0_0 : Nat} {d0_1 : Nat} {d1_0 : Nat} {d1_1 : Nat} (h0 : d0_0 < 11 ∧ d0_1 < 5) (h1 : d1_0 < 11 ∧ d1_1 < 5) {r : Int32} (hf : f_X2_countSameLines_0 S d0_0 d0_1 d1_0 d1_1 = some r) : Mj v p l e (rmF 1 21) s m args below meth c 4 (MQ below (Qc v (some (.int r)) S) args s 0 0 (eG v)) 0 S 0 [(0, .ref (eA v (pD d0_0 d0_1))), (1, .ref (eA v (pD d1_0 d1_1)))] [] := by
  refine i_aload_n hC dX2_countSameLines_0 rfl ?_
  refine i_getI hC fl_X2_35 (pl_D h0) (lay_D h0) rfl dX2_countSameLines_1 ?_
  refine i_aload_n hC dX2_countSameLines_4 rfl ?_
  refine i_getI hC fl_X2_35 (pl_D h1) (lay_D h1) rfl dX2_countSameLines_5 ?_
  refine i_mmin hC mw_160 mw_161 mw_40 mw_162 ⟨Nat.le_of_ble_eq_true rfl, Nat.le_of_ble_eq_true rfl⟩ dX2_countSameLines_8 ?_
  refine i_istore_n hC dX2_countSameLines_11 (by decide) ?_
  refine i_iconst hC dX2_countSameLines_12 li_0 ?_
  refine i_istore_n hC dX2_countSameLines_13 (by decide) ?_
  exact Mj.to (b_X2_countSameLines_14 hC h0 h1 hf) ⟨rfl, rfl, rfl, rfl, trivial⟩
theorem c_X2_countSameLines {v : EV} {l : Launch} (hst : Stb v) {S : Mem} {d0_0 d0_1 d1_0 d1_1 : Nat} (h0 : d0_0 < 11 ∧ d0_1 < 5) (h1 : d1_0 < 11 ∧ d1_1 < 5) {r : Int32} (hf : g_X2_countSameLines S d0_0 d0_1 d1_0 d1_1 = some r) : Con v l yX2_countSameLines cX2_countSameLines 4 (some .int) 1 21 [.ref (eA v (pD d0_0 d0_1)), .ref (eA v (pD d1_0 d1_1))] S (some (.int r)) S := con_of (by decide) hst (Nat.le_of_ble_eq_true rfl) (fun p e s m args below meth c hC => b_X2_countSameLines_0 hC h0 h1 hf)
def f_X2_agreeOwnLines_5_b (ih5 : Int32 → Option (Mem)) (S : Mem) (d0_0 : Nat) (d0_1 : Nat) (x1 : Int32) : Option (Mem) := (if x1 ≤ (S d0_0 (33 + 34 * d0_1 + 6)) then some S else ck (inb (x1 - (1 : Int32)) 12) ((if (S d0_0 (33 + 34 * d0_1 + 10 + ((x1 - (1 : Int32))).toNatClampNeg)) = (S d0_0 (33 + 34 * d0_1 + 1)) then some (up S d0_0 (33 + 34 * d0_1 + 6) x1) else ih5 ((x1 + (-1 : Int32))))))
def f_X2_agreeOwnLines_5 (S : Mem) (d0_0 : Nat) (d0_1 : Nat) (x1 : Int32) : Option (Mem) := lp (fun ih5 s9 => f_X2_agreeOwnLines_5_b ih5 S d0_0 d0_1 s9) 2000 (x1)
def f_X2_agreeOwnLines_0 (S : Mem) (d0_0 : Nat) (d0_1 : Nat) : Option (Mem) := f_X2_agreeOwnLines_5 S d0_0 d0_1 (S d0_0 (33 + 34 * d0_1 + 5))
def g_X2_agreeOwnLines (S : Mem) (d0_0 : Nat) (d0_1 : Nat) : Option (Mem) := f_X2_agreeOwnLines_0 S d0_0 d0_1
set_option maxHeartbeats 4000000 in
set_option maxRecDepth 100000 in
theorem b_X2_agreeOwnLines_5_b {v : EV} {p : Program} {l : Launch} {e : Env} {s : State} {m : MethodId} {args : Array Value} {below : List Frame} {meth : Method} {c : Code} (hC : Cx v p l e s m args meth c RX2 cX2_agreeOwnLines 2 none) {S : Mem} {d0_0 : Nat} {d0_1 : Nat} {x1 : Int32} (h0 : d0_0 < 11 ∧ d0_1 < 5) {r : Mem} {ih5 : Int32 → Option (Mem)} (hih5 : ∀ s9 : Int32, ih5 s9 = some r → Mj v p l e (rmF 1 12) s m args below meth c 2 (MQ below (Qc v (none) r) args s 0 0 (eG v)) 0 S 5 [(0, .ref (eA v (pD d0_0 d0_1))), (1, .int (s9))] []) (hf : f_X2_agreeOwnLines_5_b ih5 S d0_0 d0_1 x1 = some r) : Mj v p l e (rmF 1 12) s m args below meth c 2 (MQ below (Qc v (none) r) args s 0 0 (eG v)) 0 S 5 [(0, .ref (eA v (pD d0_0 d0_1))), (1, .int x1)] [] := by
  refine i_iload_n hC dX2_agreeOwnLines_5 rfl ?_
  refine i_aload_n hC dX2_agreeOwnLines_6 rfl ?_
  refine i_getI hC fl_X2_38 (pl_D h0) (lay_D h0) rfl dX2_agreeOwnLines_7 ?_
  refine i_icmp_le hC (tgt := 40) dX2_agreeOwnLines_10 (by decide) (fun c1 => ?_) (fun c1 => ?_)
  · replace hf := (if_pos c1).symm.trans hf
    obtain rfl := Option.some.inj hf
    exact i_vret hC dX2_agreeOwnLines_40
  · replace hf := (if_neg c1).symm.trans hf
    refine i_aload_n hC dX2_agreeOwnLines_13 rfl ?_
    refine i_getR hC fl_X2_9 (pl_D h0) (lay_D h0) rfl dX2_agreeOwnLines_14 ?_
    refine i_iload_n hC dX2_agreeOwnLines_17 rfl ?_
    refine i_iconst hC dX2_agreeOwnLines_18 li_1 ?_
    refine i_isub hC dX2_agreeOwnLines_19 ?_
    obtain ⟨k2, hf⟩ := ck_of hf
    refine i_iald hC (j0 := (33 + 34 * d0_1 + 10 + ((x1 - (1 : Int32))).toNatClampNeg)) (pl_AT h0) (lay_AT h0) (inb_in k2) rfl dX2_agreeOwnLines_20 ?_
    refine i_aload_n hC dX2_agreeOwnLines_21 rfl ?_
    refine i_getI hC fl_X2_23 (pl_D h0) (lay_D h0) rfl dX2_agreeOwnLines_22 ?_
    refine i_icmp_ne hC (tgt := 34) dX2_agreeOwnLines_25 (by decide) (fun c3 => ?_) (fun c3 => ?_)
    · replace hf := (if_neg c3).symm.trans hf
      refine i_iinc hC dX2_agreeOwnLines_34 rfl li_m1 (by decide) ?_
      refine i_goto hC (tgt := 5) dX2_agreeOwnLines_37 (by decide) ?_
      exact Mj.to (hih5 _ hf) ⟨rfl, rfl, trivial⟩
    · replace hf := (if_pos c3).symm.trans hf
      refine i_aload_n hC dX2_agreeOwnLines_28 rfl ?_
      refine i_iload_n hC dX2_agreeOwnLines_29 rfl ?_
      refine i_putI hC fl_X2_38 (pl_D h0) (lay_D h0) rfl (bk_k (h0).1) (nf_int _) dX2_agreeOwnLines_30 ?_
      obtain rfl := Option.some.inj hf
      exact i_vret hC dX2_agreeOwnLines_33
theorem b_X2_agreeOwnLines_5 {v : EV} {p : Program} {l : Launch} {e : Env} {s : State} {m : MethodId} {args : Array Value} {below : List Frame} {meth : Method} {c : Code} (hC : Cx v p l e s m args meth c RX2 cX2_agreeOwnLines 2 none) {S : Mem} {d0_0 : Nat} {d0_1 : Nat} {x1 : Int32} (h0 : d0_0 < 11 ∧ d0_1 < 5) {r : Mem} (hf : f_X2_agreeOwnLines_5 S d0_0 d0_1 x1 = some r) : Mj v p l e (rmF 1 12) s m args below meth c 2 (MQ below (Qc v (none) r) args s 0 0 (eG v)) 0 S 5 [(0, .ref (eA v (pD d0_0 d0_1))), (1, .int x1)] [] :=
  lp_ind (P := fun s9 : Int32 => Mj v p l e (rmF 1 12) s m args below meth c 2 (MQ below (Qc v (none) r) args s 0 0 (eG v)) 0 S 5 [(0, .ref (eA v (pD d0_0 d0_1))), (1, .int (s9))] []) (fun ih s9 hih hf => b_X2_agreeOwnLines_5_b hC h0  hih hf) _ _ hf
set_option maxHeartbeats 4000000 in
set_option maxRecDepth 100000 in
theorem b_X2_agreeOwnLines_0 {v : EV} {p : Program} {l : Launch} {e : Env} {s : State} {m : MethodId} {args : Array Value} {below : List Frame} {meth : Method} {c : Code} (hC : Cx v p l e s m args meth c RX2 cX2_agreeOwnLines 2 none) {S : Mem} {d0_0 : Nat} {d0_1 : Nat} (h0 : d0_0 < 11 ∧ d0_1 < 5) {r : Mem} (hf : f_X2_agreeOwnLines_0 S d0_0 d0_1 = some r) : Mj v p l e (rmF 1 12) s m args below meth c 2 (MQ below (Qc v (none) r) args s 0 0 (eG v)) 0 S 0 [(0, .ref (eA v (pD d0_0 d0_1)))] [] := by
  refine i_aload_n hC dX2_agreeOwnLines_0 rfl ?_
  refine i_getI hC fl_X2_35 (pl_D h0) (lay_D h0) rfl dX2_agreeOwnLines_1 ?_
  refine i_istore_n hC dX2_agreeOwnLines_4 (by decide) ?_
  exact Mj.to (b_X2_agreeOwnLines_5 hC h0 hf) ⟨rfl, rfl, trivial⟩
theorem c_X2_agreeOwnLines {v : EV} {l : Launch} (hst : Stb v) {S : Mem} {d0_0 d0_1 : Nat} (h0 : d0_0 < 11 ∧ d0_1 < 5) {r : Mem} (hf : g_X2_agreeOwnLines S d0_0 d0_1 = some r) : Con v l yX2_agreeOwnLines cX2_agreeOwnLines 2 none 1 12 [.ref (eA v (pD d0_0 d0_1))] S (none) r := con_of (by decide) hst (Nat.le_of_ble_eq_true rfl) (fun p e s m args below meth c hC => b_X2_agreeOwnLines_0 hC h0 hf)
def f_X2_write_39 (S : Mem)  : Option (Mem) := some S
def f_X2_write_0 (S : Mem) (d0_0 : Nat) (d0_1 : Nat) (x1 : Int32) (x2 : Int32) : Option (Mem) := (if (12 : Int32) ≤ (S d0_0 (33 + 34 * d0_1 + 5)) then f_X2_write_39 S else ck (inb (S d0_0 (33 + 34 * d0_1 + 5)) 12) (ck (inb ((up S d0_0 (33 + 34 * d0_1 + 10 + ((S d0_0 (33 + 34 * d0_1 + 5))).toNatClampNeg) x1) d0_0 (33 + 34 * d0_1 + 5)) 12) (f_X2_write_39 (up (up (up S d0_0 (33 + 34 * d0_1 + 10 + ((S d0_0 (33 + 34 * d0_1 + 5))).toNatClampNeg) x1) d0_0 (33 + 34 * d0_1 + 22 + (((up S d0_0 (33 + 34 * d0_1 + 10 + ((S d0_0 (33 + 34 * d0_1 + 5))).toNatClampNeg) x1) d0_0 (33 + 34 * d0_1 + 5))).toNatClampNeg) (vp_nar .char x2)) d0_0 (33 + 34 * d0_1 + 5) (((up (up S d0_0 (33 + 34 * d0_1 + 10 + ((S d0_0 (33 + 34 * d0_1 + 5))).toNatClampNeg) x1) d0_0 (33 + 34 * d0_1 + 22 + (((up S d0_0 (33 + 34 * d0_1 + 10 + ((S d0_0 (33 + 34 * d0_1 + 5))).toNatClampNeg) x1) d0_0 (33 + 34 * d0_1 + 5))).toNatClampNeg) (vp_nar .char x2)) d0_0 (33 + 34 * d0_1 + 5)) + (1 : Int32))))))
def g_X2_write (S : Mem) (d0_0 : Nat) (d0_1 : Nat) (x1 : Int32) (x2 : Int32) : Option (Mem) := f_X2_write_0 S d0_0 d0_1 x1 x2
set_option maxHeartbeats 4000000 in
set_option maxRecDepth 100000 in
theorem b_X2_write_39 {v : EV} {p : Program} {l : Launch} {e : Env} {s : State} {m : MethodId} {args : Array Value} {below : List Frame} {meth : Method} {c : Code} (hC : Cx v p l e s m args meth c RX2 cX2_write 3 none) {S : Mem}  {r : Mem} (hf : f_X2_write_39 S = some r) : Mj v p l e (rmF 1 12) s m args below meth c 3 (MQ below (Qc v (none) r) args s 0 0 (eG v)) 0 S 39 [] [] := by
  obtain rfl := Option.some.inj hf
  exact i_vret hC dX2_write_39
set_option maxHeartbeats 4000000 in
set_option maxRecDepth 100000 in
theorem b_X2_write_0 {v : EV} {p : Program} {l : Launch} {e : Env} {s : State} {m : MethodId} {args : Array Value} {below : List Frame} {meth : Method} {c : Code} (hC : Cx v p l e s m args meth c RX2 cX2_write 3 none) {S : Mem} {d0_0 : Nat} {d0_1 : Nat} {x1 : Int32} {x2 : Int32} (h0 : d0_0 < 11 ∧ d0_1 < 5) {r : Mem} (hf : f_X2_write_0 S d0_0 d0_1 x1 x2 = some r) : Mj v p l e (rmF 1 12) s m args below meth c 3 (MQ below (Qc v (none) r) args s 0 0 (eG v)) 0 S 0 [(0, .ref (eA v (pD d0_0 d0_1))), (1, .int x1), (2, .int x2)] [] := by
  refine i_aload_n hC dX2_write_0 rfl ?_
  refine i_getI hC fl_X2_35 (pl_D h0) (lay_D h0) rfl dX2_write_1 ?_
  refine i_bipush hC dX2_write_4 lb_12 ?_
  refine i_icmp_ge hC (tgt := 39) dX2_write_6 (by decide) (fun c1 => ?_) (fun c1 => ?_)
  · replace hf := (if_pos c1).symm.trans hf
    exact Mj.to (b_X2_write_39 hC  hf) trivial
  · replace hf := (if_neg c1).symm.trans hf
    refine i_aload_n hC dX2_write_9 rfl ?_
    refine i_getR hC fl_X2_9 (pl_D h0) (lay_D h0) rfl dX2_write_10 ?_
    refine i_aload_n hC dX2_write_13 rfl ?_
    refine i_getI hC fl_X2_35 (pl_D h0) (lay_D h0) rfl dX2_write_14 ?_
    refine i_iload_n hC dX2_write_17 rfl ?_
    obtain ⟨k2, hf⟩ := ck_of hf
    refine i_iast hC (j0 := (33 + 34 * d0_1 + 10 + ((S d0_0 (33 + 34 * d0_1 + 5))).toNatClampNeg)) (pl_AT h0) (lay_AT h0) (bk_k (h0).1) (inb_in k2) rfl dX2_write_18 ?_
    refine i_aload_n hC dX2_write_19 rfl ?_
    refine i_getR hC fl_X2_15 (pl_D h0) (lay_D h0) rfl dX2_write_20 ?_
    refine i_aload_n hC dX2_write_23 rfl ?_
    refine i_getI hC fl_X2_35 (pl_D h0) (lay_D h0) rfl dX2_write_24 ?_
    refine i_iload_n hC dX2_write_27 rfl ?_
    obtain ⟨k3, hf⟩ := ck_of hf
    refine i_cast hC (j0 := (33 + 34 * d0_1 + 22 + (((up S d0_0 (33 + 34 * d0_1 + 10 + ((S d0_0 (33 + 34 * d0_1 + 5))).toNatClampNeg) x1) d0_0 (33 + 34 * d0_1 + 5))).toNatClampNeg)) (pl_AL h0) (lay_AL h0) (bk_k (h0).1) (inb_in k3) rfl dX2_write_28 ?_
    refine i_aload_n hC dX2_write_29 rfl ?_
    refine i_dup hC dX2_write_30 rfl ?_
    refine i_getI hC fl_X2_35 (pl_D h0) (lay_D h0) rfl dX2_write_31 ?_
    refine i_iconst hC dX2_write_34 li_1 ?_
    refine i_iadd hC dX2_write_35 ?_
    refine i_putI hC fl_X2_35 (pl_D h0) (lay_D h0) rfl (bk_k (h0).1) (nf_int _) dX2_write_36 ?_
    exact Mj.to (b_X2_write_39 hC  hf) trivial
theorem c_X2_write {v : EV} {l : Launch} (hst : Stb v) {S : Mem} {d0_0 d0_1 : Nat} {x1 x2 : Int32} (h0 : d0_0 < 11 ∧ d0_1 < 5) {r : Mem} (hf : g_X2_write S d0_0 d0_1 x1 x2 = some r) : Con v l yX2_write cX2_write 3 none 1 12 [.ref (eA v (pD d0_0 d0_1)), .int x1, .int x2] S (none) r := con_of (by decide) hst (Nat.le_of_ble_eq_true rfl) (fun p e s m args below meth c hC => b_X2_write_0 hC h0 hf)
def f_X2_isLeading_20 (S : Mem) (xt0 : Int32) : Option (Int32) := ck (isb xt0) (some xt0)
def f_X2_isLeading_19 (S : Mem)  : Option (Int32) := f_X2_isLeading_20 S (0 : Int32)
def f_X2_isLeading_0 (S : Mem) (d0_0 : Nat) (d0_1 : Nat) : Option (Int32) := (if (S d0_0 (33 + 34 * d0_1 + 7)) = 0 then f_X2_isLeading_19 S else (if (S d0_0 (33 + 34 * d0_1)) = (2 : Int32) then f_X2_isLeading_20 S (1 : Int32) else f_X2_isLeading_19 S))
def g_X2_isLeading (S : Mem) (d0_0 : Nat) (d0_1 : Nat) : Option (Int32) := f_X2_isLeading_0 S d0_0 d0_1
set_option maxHeartbeats 4000000 in
set_option maxRecDepth 100000 in
theorem b_X2_isLeading_20 {v : EV} {p : Program} {l : Launch} {e : Env} {s : State} {m : MethodId} {args : Array Value} {below : List Frame} {meth : Method} {c : Code} (hC : Cx v p l e s m args meth c RX2 cX2_isLeading 1 (some .boolean)) {S : Mem} {xt0 : Int32}  {r : Int32} (hf : f_X2_isLeading_20 S xt0 = some r) : Mj v p l e (rmF 1 12) s m args below meth c 1 (MQ below (Qc v (some (.int r)) S) args s 0 0 (eG v)) 0 S 20 [] [.int xt0] := by
  obtain ⟨k2, hf⟩ := ck_of hf
  obtain rfl := Option.some.inj hf
  exact i_zret hC dX2_isLeading_20 (isb_z k2).1
set_option maxHeartbeats 4000000 in
set_option maxRecDepth 100000 in
theorem b_X2_isLeading_19 {v : EV} {p : Program} {l : Launch} {e : Env} {s : State} {m : MethodId} {args : Array Value} {below : List Frame} {meth : Method} {c : Code} (hC : Cx v p l e s m args meth c RX2 cX2_isLeading 1 (some .boolean)) {S : Mem}  {r : Int32} (hf : f_X2_isLeading_19 S = some r) : Mj v p l e (rmF 1 12) s m args below meth c 1 (MQ below (Qc v (some (.int r)) S) args s 0 0 (eG v)) 0 S 19 [] [] := by
  refine i_iconst hC dX2_isLeading_19 li_0 ?_
  exact Mj.to (b_X2_isLeading_20 hC  hf) trivial
set_option maxHeartbeats 4000000 in
set_option maxRecDepth 100000 in
theorem b_X2_isLeading_0 {v : EV} {p : Program} {l : Launch} {e : Env} {s : State} {m : MethodId} {args : Array Value} {below : List Frame} {meth : Method} {c : Code} (hC : Cx v p l e s m args meth c RX2 cX2_isLeading 1 (some .boolean)) {S : Mem} {d0_0 : Nat} {d0_1 : Nat} (h0 : d0_0 < 11 ∧ d0_1 < 5) {r : Int32} (hf : f_X2_isLeading_0 S d0_0 d0_1 = some r) : Mj v p l e (rmF 1 12) s m args below meth c 1 (MQ below (Qc v (some (.int r)) S) args s 0 0 (eG v)) 0 S 0 [(0, .ref (eA v (pD d0_0 d0_1)))] [] := by
  refine i_aload_n hC dX2_isLeading_0 rfl ?_
  refine i_getI hC fl_X2_41 (pl_D h0) (lay_D h0) rfl dX2_isLeading_1 ?_
  refine i_if_eq hC (tgt := 19) dX2_isLeading_4 (by decide) (fun c1 => ?_) (fun c1 => ?_)
  · replace hf := (if_pos c1).symm.trans hf
    exact Mj.to (b_X2_isLeading_19 hC  hf) trivial
  · replace hf := (if_neg c1).symm.trans hf
    refine i_aload_n hC dX2_isLeading_7 rfl ?_
    refine i_getI hC fl_X2_19 (pl_D h0) (lay_D h0) rfl dX2_isLeading_8 ?_
    refine i_iconst hC dX2_isLeading_11 li_2 ?_
    refine i_icmp_ne hC (tgt := 19) dX2_isLeading_12 (by decide) (fun c3 => ?_) (fun c3 => ?_)
    · replace hf := (if_neg c3).symm.trans hf
      exact Mj.to (b_X2_isLeading_19 hC  hf) trivial
    · replace hf := (if_pos c3).symm.trans hf
      refine i_iconst hC dX2_isLeading_15 li_1 ?_
      refine i_goto hC (tgt := 20) dX2_isLeading_16 (by decide) ?_
      exact Mj.to (b_X2_isLeading_20 hC  hf) trivial
theorem c_X2_isLeading {v : EV} {l : Launch} (hst : Stb v) {S : Mem} {d0_0 d0_1 : Nat} (h0 : d0_0 < 11 ∧ d0_1 < 5) {r : Int32} (hf : g_X2_isLeading S d0_0 d0_1 = some r) : Con v l yX2_isLeading cX2_isLeading 1 (some .boolean) 1 12 [.ref (eA v (pD d0_0 d0_1))] S (some (.int r)) S := con_of (by decide) hst (Nat.le_of_ble_eq_true rfl) (fun p e s m args below meth c hC => b_X2_isLeading_0 hC h0 hf)
def f_X2_waitBeat_40 (S : Mem) (xt0 : Int32) : Option (Int32 × Mem) := ck (isb xt0) (some (xt0, S))
def f_X2_waitBeat_39 (S : Mem)  : Option (Int32 × Mem) := f_X2_waitBeat_40 S (0 : Int32)
def f_X2_waitBeat_17 (S : Mem) (d0_0 : Nat) (d0_1 : Nat) : Option (Int32 × Mem) := (if (S d0_0 (33 + 34 * d0_1 + 7)) = 0 then f_X2_waitBeat_39 S else (if (S d0_0 (33 + 34 * d0_1 + 3)) < (S d0_0 (33 + 34 * d0_1 + 2)) then f_X2_waitBeat_39 S else f_X2_waitBeat_40 S (1 : Int32)))
def f_X2_waitBeat_0 (S : Mem) (d0_0 : Nat) (d0_1 : Nat) : Option (Int32 × Mem) := (if (S d0_0 (33 + 34 * d0_1 + 7)) = 0 then f_X2_waitBeat_17 S d0_0 d0_1 else f_X2_waitBeat_17 (up S d0_0 (33 + 34 * d0_1 + 3) ((S d0_0 (33 + 34 * d0_1 + 3)) + (1 : Int32))) d0_0 d0_1)
def g_X2_waitBeat (S : Mem) (d0_0 : Nat) (d0_1 : Nat) : Option (Int32 × Mem) := f_X2_waitBeat_0 S d0_0 d0_1
set_option maxHeartbeats 4000000 in
set_option maxRecDepth 100000 in
theorem b_X2_waitBeat_40 {v : EV} {p : Program} {l : Launch} {e : Env} {s : State} {m : MethodId} {args : Array Value} {below : List Frame} {meth : Method} {c : Code} (hC : Cx v p l e s m args meth c RX2 cX2_waitBeat 1 (some .boolean)) {S : Mem} {xt0 : Int32}  {r : Int32 × Mem} (hf : f_X2_waitBeat_40 S xt0 = some r) : Mj v p l e (rmF 1 12) s m args below meth c 1 (MQ below (Qc v (some (.int r.1)) r.2) args s 0 0 (eG v)) 0 S 40 [] [.int xt0] := by
  obtain ⟨k3, hf⟩ := ck_of hf
  obtain rfl := Option.some.inj hf
  exact i_zret hC dX2_waitBeat_40 (isb_z k3).1
set_option maxHeartbeats 4000000 in
set_option maxRecDepth 100000 in
theorem b_X2_waitBeat_39 {v : EV} {p : Program} {l : Launch} {e : Env} {s : State} {m : MethodId} {args : Array Value} {below : List Frame} {meth : Method} {c : Code} (hC : Cx v p l e s m args meth c RX2 cX2_waitBeat 1 (some .boolean)) {S : Mem}  {r : Int32 × Mem} (hf : f_X2_waitBeat_39 S = some r) : Mj v p l e (rmF 1 12) s m args below meth c 1 (MQ below (Qc v (some (.int r.1)) r.2) args s 0 0 (eG v)) 0 S 39 [] [] := by
  refine i_iconst hC dX2_waitBeat_39 li_0 ?_
  exact Mj.to (b_X2_waitBeat_40 hC  hf) trivial
set_option maxHeartbeats 4000000 in
set_option maxRecDepth 100000 in
theorem b_X2_waitBeat_17 {v : EV} {p : Program} {l : Launch} {e : Env} {s : State} {m : MethodId} {args : Array Value} {below : List Frame} {meth : Method} {c : Code} (hC : Cx v p l e s m args meth c RX2 cX2_waitBeat 1 (some .boolean)) {S : Mem} {d0_0 : Nat} {d0_1 : Nat} (h0 : d0_0 < 11 ∧ d0_1 < 5) {r : Int32 × Mem} (hf : f_X2_waitBeat_17 S d0_0 d0_1 = some r) : Mj v p l e (rmF 1 12) s m args below meth c 1 (MQ below (Qc v (some (.int r.1)) r.2) args s 0 0 (eG v)) 0 S 17 [(0, .ref (eA v (pD d0_0 d0_1)))] [] := by
  refine i_aload_n hC dX2_waitBeat_17 rfl ?_
  refine i_getI hC fl_X2_41 (pl_D h0) (lay_D h0) rfl dX2_waitBeat_18 ?_
  refine i_if_eq hC (tgt := 39) dX2_waitBeat_21 (by decide) (fun c2 => ?_) (fun c2 => ?_)
  · replace hf := (if_pos c2).symm.trans hf
    exact Mj.to (b_X2_waitBeat_39 hC  hf) trivial
  · replace hf := (if_neg c2).symm.trans hf
    refine i_aload_n hC dX2_waitBeat_24 rfl ?_
    refine i_getI hC fl_X2_29 (pl_D h0) (lay_D h0) rfl dX2_waitBeat_25 ?_
    refine i_aload_n hC dX2_waitBeat_28 rfl ?_
    refine i_getI hC fl_X2_26 (pl_D h0) (lay_D h0) rfl dX2_waitBeat_29 ?_
    refine i_icmp_lt hC (tgt := 39) dX2_waitBeat_32 (by decide) (fun c4 => ?_) (fun c4 => ?_)
    · replace hf := (if_pos c4).symm.trans hf
      exact Mj.to (b_X2_waitBeat_39 hC  hf) trivial
    · replace hf := (if_neg c4).symm.trans hf
      refine i_iconst hC dX2_waitBeat_35 li_1 ?_
      refine i_goto hC (tgt := 40) dX2_waitBeat_36 (by decide) ?_
      exact Mj.to (b_X2_waitBeat_40 hC  hf) trivial
set_option maxHeartbeats 4000000 in
set_option maxRecDepth 100000 in
theorem b_X2_waitBeat_0 {v : EV} {p : Program} {l : Launch} {e : Env} {s : State} {m : MethodId} {args : Array Value} {below : List Frame} {meth : Method} {c : Code} (hC : Cx v p l e s m args meth c RX2 cX2_waitBeat 1 (some .boolean)) {S : Mem} {d0_0 : Nat} {d0_1 : Nat} (h0 : d0_0 < 11 ∧ d0_1 < 5) {r : Int32 × Mem} (hf : f_X2_waitBeat_0 S d0_0 d0_1 = some r) : Mj v p l e (rmF 1 12) s m args below meth c 1 (MQ below (Qc v (some (.int r.1)) r.2) args s 0 0 (eG v)) 0 S 0 [(0, .ref (eA v (pD d0_0 d0_1)))] [] := by
  refine i_aload_n hC dX2_waitBeat_0 rfl ?_
  refine i_getI hC fl_X2_41 (pl_D h0) (lay_D h0) rfl dX2_waitBeat_1 ?_
  refine i_if_eq hC (tgt := 17) dX2_waitBeat_4 (by decide) (fun c1 => ?_) (fun c1 => ?_)
  · replace hf := (if_pos c1).symm.trans hf
    exact Mj.to (b_X2_waitBeat_17 hC h0 hf) ⟨rfl, trivial⟩
  · replace hf := (if_neg c1).symm.trans hf
    refine i_aload_n hC dX2_waitBeat_7 rfl ?_
    refine i_dup hC dX2_waitBeat_8 rfl ?_
    refine i_getI hC fl_X2_29 (pl_D h0) (lay_D h0) rfl dX2_waitBeat_9 ?_
    refine i_iconst hC dX2_waitBeat_12 li_1 ?_
    refine i_iadd hC dX2_waitBeat_13 ?_
    refine i_putI hC fl_X2_29 (pl_D h0) (lay_D h0) rfl (bk_k (h0).1) (nf_int _) dX2_waitBeat_14 ?_
    exact Mj.to (b_X2_waitBeat_17 hC h0 hf) ⟨rfl, trivial⟩
theorem c_X2_waitBeat {v : EV} {l : Launch} (hst : Stb v) {S : Mem} {d0_0 d0_1 : Nat} (h0 : d0_0 < 11 ∧ d0_1 < 5) {r : Int32 × Mem} (hf : g_X2_waitBeat S d0_0 d0_1 = some r) : Con v l yX2_waitBeat cX2_waitBeat 1 (some .boolean) 1 12 [.ref (eA v (pD d0_0 d0_1))] S (some (.int r.1)) r.2 := con_of (by decide) hst (Nat.le_of_ble_eq_true rfl) (fun p e s m args below meth c hC => b_X2_waitBeat_0 hC h0 hf)
def f_X4_addDriver_0 (S : Mem) (d0_0 : Nat) (x1 : Int32) : Option (Int32 × Mem) := (if (S d0_0 1) < (5 : Int32) then ck (inb (S d0_0 1) 5) (bd1 (g_X2_begin S d0_0 (((S d0_0 1)).toNatClampNeg) x1) (fun S3 => some ((((up S3 d0_0 1 ((S3 d0_0 1) + (1 : Int32))) d0_0 1) - (1 : Int32)), (up S3 d0_0 1 ((S3 d0_0 1) + (1 : Int32)))))) else some ((-1 : Int32), S))
def g_X4_addDriver (S : Mem) (d0_0 : Nat) (x1 : Int32) : Option (Int32 × Mem) := f_X4_addDriver_0 S d0_0 x1
set_option maxHeartbeats 4000000 in
set_option maxRecDepth 100000 in
theorem b_X4_addDriver_0 {v : EV} {p : Program} {l : Launch} {e : Env} {s : State} {m : MethodId} {args : Array Value} {below : List Frame} {meth : Method} {c : Code} (hC : Cx v p l e s m args meth c RX4 cX4_addDriver 2 (some .int)) {S : Mem} {d0_0 : Nat} {x1 : Int32} (h0 : d0_0 < 11) {r : Int32 × Mem} (hf : f_X4_addDriver_0 S d0_0 x1 = some r) : Mj v p l e (rmF 2 33) s m args below meth c 2 (MQ below (Qc v (some (.int r.1)) r.2) args s 0 0 (eG v)) 0 S 0 [(0, .ref (eA v (pR d0_0))), (1, .int x1)] [] := by
  refine i_aload_n hC dX4_addDriver_0 rfl ?_
  refine i_getI hC fl_X4_22 (pl_R h0) (lay_R h0) rfl dX4_addDriver_1 ?_
  refine i_iconst hC dX4_addDriver_4 li_5 ?_
  refine i_icmp_lt hC (tgt := 10) dX4_addDriver_5 (by decide) (fun c1 => ?_) (fun c1 => ?_)
  · replace hf := (if_pos c1).symm.trans hf
    refine i_aload_n hC dX4_addDriver_10 rfl ?_
    refine i_getR hC fl_X4_11 (pl_R h0) (lay_R h0) rfl dX4_addDriver_11 ?_
    refine i_aload_n hC dX4_addDriver_14 rfl ?_
    refine i_getI hC fl_X4_22 (pl_R h0) (lay_R h0) rfl dX4_addDriver_15 ?_
    obtain ⟨k2, hf⟩ := ck_of hf
    refine i_aald hC (pl_AD h0) (lay_AD h0) (by decide) (inb_in k2) dX4_addDriver_18 ?_
    refine i_iload_n hC dX4_addDriver_19 rfl ?_
    obtain ⟨S3, hc3, hf⟩ := bd1_of hf
    refine i_callVv hC mv_X4_58 (c_X2_begin hC.2.2.2.2.2.2.2.1 ⟨h0, inb_lt k2⟩ hc3) (pl_D ⟨h0, inb_lt k2⟩) (lay_D ⟨h0, inb_lt k2⟩) rfl rfl rfl rfl ⟨Nat.le_of_ble_eq_true rfl, Nat.le_of_ble_eq_true rfl⟩ (Nat.le_of_ble_eq_true rfl) dX4_addDriver_20 ?_
    refine i_aload_n hC dX4_addDriver_23 rfl ?_
    refine i_dup hC dX4_addDriver_24 rfl ?_
    refine i_getI hC fl_X4_22 (pl_R h0) (lay_R h0) rfl dX4_addDriver_25 ?_
    refine i_iconst hC dX4_addDriver_28 li_1 ?_
    refine i_iadd hC dX4_addDriver_29 ?_
    refine i_putI hC fl_X4_22 (pl_R h0) (lay_R h0) rfl (bk_k h0) (nf_int _) dX4_addDriver_30 ?_
    refine i_aload_n hC dX4_addDriver_33 rfl ?_
    refine i_getI hC fl_X4_22 (pl_R h0) (lay_R h0) rfl dX4_addDriver_34 ?_
    refine i_iconst hC dX4_addDriver_37 li_1 ?_
    refine i_isub hC dX4_addDriver_38 ?_
    obtain rfl := Option.some.inj hf
    exact i_iret hC dX4_addDriver_39
  · replace hf := (if_neg c1).symm.trans hf
    refine i_iconst hC dX4_addDriver_8 li_m1 ?_
    obtain rfl := Option.some.inj hf
    exact i_iret hC dX4_addDriver_9
theorem c_X4_addDriver {v : EV} {l : Launch} (hst : Stb v) {S : Mem} {d0_0 : Nat} {x1 : Int32} (h0 : d0_0 < 11) {r : Int32 × Mem} (hf : g_X4_addDriver S d0_0 x1 = some r) : Con v l yX4_addDriver cX4_addDriver 2 (some .int) 2 33 [.ref (eA v (pR d0_0)), .int x1] S (some (.int r.1)) r.2 := con_of (by decide) hst (Nat.le_of_ble_eq_true rfl) (fun p e s m args below meth c hC => b_X4_addDriver_0 hC h0 hf)
def f_X4_has_17 (S : Mem) (xt0 : Int32) : Option (Int32) := ck (isb xt0) (some xt0)
def f_X4_has_16 (S : Mem)  : Option (Int32) := f_X4_has_17 S (0 : Int32)
def f_X4_has_0 (S : Mem) (d0_0 : Nat) (x1 : Int32) : Option (Int32) := (if x1 < 0 then f_X4_has_16 S else (if (S d0_0 1) ≤ x1 then f_X4_has_16 S else f_X4_has_17 S (1 : Int32)))
def g_X4_has (S : Mem) (d0_0 : Nat) (x1 : Int32) : Option (Int32) := f_X4_has_0 S d0_0 x1
set_option maxHeartbeats 4000000 in
set_option maxRecDepth 100000 in
theorem b_X4_has_17 {v : EV} {p : Program} {l : Launch} {e : Env} {s : State} {m : MethodId} {args : Array Value} {below : List Frame} {meth : Method} {c : Code} (hC : Cx v p l e s m args meth c RX4 cX4_has 2 (some .boolean)) {S : Mem} {xt0 : Int32}  {r : Int32} (hf : f_X4_has_17 S xt0 = some r) : Mj v p l e (rmF 1 12) s m args below meth c 2 (MQ below (Qc v (some (.int r)) S) args s 0 0 (eG v)) 0 S 17 [] [.int xt0] := by
  obtain ⟨k2, hf⟩ := ck_of hf
  obtain rfl := Option.some.inj hf
  exact i_zret hC dX4_has_17 (isb_z k2).1
set_option maxHeartbeats 4000000 in
set_option maxRecDepth 100000 in
theorem b_X4_has_16 {v : EV} {p : Program} {l : Launch} {e : Env} {s : State} {m : MethodId} {args : Array Value} {below : List Frame} {meth : Method} {c : Code} (hC : Cx v p l e s m args meth c RX4 cX4_has 2 (some .boolean)) {S : Mem}  {r : Int32} (hf : f_X4_has_16 S = some r) : Mj v p l e (rmF 1 12) s m args below meth c 2 (MQ below (Qc v (some (.int r)) S) args s 0 0 (eG v)) 0 S 16 [] [] := by
  refine i_iconst hC dX4_has_16 li_0 ?_
  exact Mj.to (b_X4_has_17 hC  hf) trivial
set_option maxHeartbeats 4000000 in
set_option maxRecDepth 100000 in
theorem b_X4_has_0 {v : EV} {p : Program} {l : Launch} {e : Env} {s : State} {m : MethodId} {args : Array Value} {below : List Frame} {meth : Method} {c : Code} (hC : Cx v p l e s m args meth c RX4 cX4_has 2 (some .boolean)) {S : Mem} {d0_0 : Nat} {x1 : Int32} (h0 : d0_0 < 11) {r : Int32} (hf : f_X4_has_0 S d0_0 x1 = some r) : Mj v p l e (rmF 1 12) s m args below meth c 2 (MQ below (Qc v (some (.int r)) S) args s 0 0 (eG v)) 0 S 0 [(0, .ref (eA v (pR d0_0))), (1, .int x1)] [] := by
  refine i_iload_n hC dX4_has_0 rfl ?_
  refine i_if_lt hC (tgt := 16) dX4_has_1 (by decide) (fun c1 => ?_) (fun c1 => ?_)
  · replace hf := (if_pos c1).symm.trans hf
    exact Mj.to (b_X4_has_16 hC  hf) trivial
  · replace hf := (if_neg c1).symm.trans hf
    refine i_iload_n hC dX4_has_4 rfl ?_
    refine i_aload_n hC dX4_has_5 rfl ?_
    refine i_getI hC fl_X4_22 (pl_R h0) (lay_R h0) rfl dX4_has_6 ?_
    refine i_icmp_ge hC (tgt := 16) dX4_has_9 (by decide) (fun c3 => ?_) (fun c3 => ?_)
    · replace hf := (if_pos c3).symm.trans hf
      exact Mj.to (b_X4_has_16 hC  hf) trivial
    · replace hf := (if_neg c3).symm.trans hf
      refine i_iconst hC dX4_has_12 li_1 ?_
      refine i_goto hC (tgt := 17) dX4_has_13 (by decide) ?_
      exact Mj.to (b_X4_has_17 hC  hf) trivial
theorem c_X4_has {v : EV} {l : Launch} (hst : Stb v) {S : Mem} {d0_0 : Nat} {x1 : Int32} (h0 : d0_0 < 11) {r : Int32} (hf : g_X4_has S d0_0 x1 = some r) : Con v l yX4_has cX4_has 2 (some .boolean) 1 12 [.ref (eA v (pR d0_0)), .int x1] S (some (.int r)) S := con_of (by decide) hst (Nat.le_of_ble_eq_true rfl) (fun p e s m args below meth c hC => b_X4_has_0 hC h0 hf)
def f_X4_beginAsking_0 (S : Mem) (d0_0 : Nat) (d1_0 : Nat) (d1_1 : Nat) (x2 : Int32) : Option (Mem) := some (up (up (up (up (up (up (up S d1_0 (33 + 34 * d1_1 + 1) ((S d1_0 (33 + 34 * d1_1 + 1)) + (1 : Int32))) d1_0 (33 + 34 * d1_1) (1 : Int32)) d1_0 (33 + 34 * d1_1 + 4) x2) d1_0 (33 + 34 * d1_1 + 3) (0 : Int32)) d1_0 (33 + 34 * d1_1 + 8) (((up (up (up (up S d1_0 (33 + 34 * d1_1 + 1) ((S d1_0 (33 + 34 * d1_1 + 1)) + (1 : Int32))) d1_0 (33 + 34 * d1_1) (1 : Int32)) d1_0 (33 + 34 * d1_1 + 4) x2) d1_0 (33 + 34 * d1_1 + 3) (0 : Int32)) d1_0 (33 + 34 * d1_1 + 8)) + (1 : Int32))) d0_0 2 (((up (up (up (up (up S d1_0 (33 + 34 * d1_1 + 1) ((S d1_0 (33 + 34 * d1_1 + 1)) + (1 : Int32))) d1_0 (33 + 34 * d1_1) (1 : Int32)) d1_0 (33 + 34 * d1_1 + 4) x2) d1_0 (33 + 34 * d1_1 + 3) (0 : Int32)) d1_0 (33 + 34 * d1_1 + 8) (((up (up (up (up S d1_0 (33 + 34 * d1_1 + 1) ((S d1_0 (33 + 34 * d1_1 + 1)) + (1 : Int32))) d1_0 (33 + 34 * d1_1) (1 : Int32)) d1_0 (33 + 34 * d1_1 + 4) x2) d1_0 (33 + 34 * d1_1 + 3) (0 : Int32)) d1_0 (33 + 34 * d1_1 + 8)) + (1 : Int32))) d0_0 2) + (1 : Int32))) d0_0 7 (((up (up (up (up (up (up S d1_0 (33 + 34 * d1_1 + 1) ((S d1_0 (33 + 34 * d1_1 + 1)) + (1 : Int32))) d1_0 (33 + 34 * d1_1) (1 : Int32)) d1_0 (33 + 34 * d1_1 + 4) x2) d1_0 (33 + 34 * d1_1 + 3) (0 : Int32)) d1_0 (33 + 34 * d1_1 + 8) (((up (up (up (up S d1_0 (33 + 34 * d1_1 + 1) ((S d1_0 (33 + 34 * d1_1 + 1)) + (1 : Int32))) d1_0 (33 + 34 * d1_1) (1 : Int32)) d1_0 (33 + 34 * d1_1 + 4) x2) d1_0 (33 + 34 * d1_1 + 3) (0 : Int32)) d1_0 (33 + 34 * d1_1 + 8)) + (1 : Int32))) d0_0 2 (((up (up (up (up (up S d1_0 (33 + 34 * d1_1 + 1) ((S d1_0 (33 + 34 * d1_1 + 1)) + (1 : Int32))) d1_0 (33 + 34 * d1_1) (1 : Int32)) d1_0 (33 + 34 * d1_1 + 4) x2) d1_0 (33 + 34 * d1_1 + 3) (0 : Int32)) d1_0 (33 + 34 * d1_1 + 8) (((up (up (up (up S d1_0 (33 + 34 * d1_1 + 1) ((S d1_0 (33 + 34 * d1_1 + 1)) + (1 : Int32))) d1_0 (33 + 34 * d1_1) (1 : Int32)) d1_0 (33 + 34 * d1_1 + 4) x2) d1_0 (33 + 34 * d1_1 + 3) (0 : Int32)) d1_0 (33 + 34 * d1_1 + 8)) + (1 : Int32))) d0_0 2) + (1 : Int32))) d0_0 7) + (1 : Int32)))
def g_X4_beginAsking (S : Mem) (d0_0 : Nat) (d1_0 : Nat) (d1_1 : Nat) (x2 : Int32) : Option (Mem) := f_X4_beginAsking_0 S d0_0 d1_0 d1_1 x2
set_option maxHeartbeats 4000000 in
set_option maxRecDepth 100000 in
theorem b_X4_beginAsking_0 {v : EV} {p : Program} {l : Launch} {e : Env} {s : State} {m : MethodId} {args : Array Value} {below : List Frame} {meth : Method} {c : Code} (hC : Cx v p l e s m args meth c RX4 cX4_beginAsking 3 none) {S : Mem} {d0_0 : Nat} {d1_0 : Nat} {d1_1 : Nat} {x2 : Int32} (h0 : d0_0 < 11) (h1 : d1_0 < 11 ∧ d1_1 < 5) {r : Mem} (hf : f_X4_beginAsking_0 S d0_0 d1_0 d1_1 x2 = some r) : Mj v p l e (rmF 1 12) s m args below meth c 3 (MQ below (Qc v (none) r) args s 0 0 (eG v)) 0 S 0 [(0, .ref (eA v (pR d0_0))), (1, .ref (eA v (pD d1_0 d1_1))), (2, .int x2)] [] := by
  refine i_aload_n hC dX4_beginAsking_0 rfl ?_
  refine i_dup hC dX4_beginAsking_1 rfl ?_
  refine i_getI hC fl_X4_77 (pl_D h1) (lay_D h1) rfl dX4_beginAsking_2 ?_
  refine i_iconst hC dX4_beginAsking_5 li_1 ?_
  refine i_iadd hC dX4_beginAsking_6 ?_
  refine i_putI hC fl_X4_77 (pl_D h1) (lay_D h1) rfl (bk_k (h1).1) (nf_int _) dX4_beginAsking_7 ?_
  refine i_aload_n hC dX4_beginAsking_10 rfl ?_
  refine i_iconst hC dX4_beginAsking_11 li_1 ?_
  refine i_putI hC fl_X4_90 (pl_D h1) (lay_D h1) rfl (bk_k (h1).1) (nf_int _) dX4_beginAsking_12 ?_
  refine i_aload_n hC dX4_beginAsking_15 rfl ?_
  refine i_iload_n hC dX4_beginAsking_16 rfl ?_
  refine i_putI hC fl_X4_96 (pl_D h1) (lay_D h1) rfl (bk_k (h1).1) (nf_int _) dX4_beginAsking_17 ?_
  refine i_aload_n hC dX4_beginAsking_20 rfl ?_
  refine i_iconst hC dX4_beginAsking_21 li_0 ?_
  refine i_putI hC fl_X4_99 (pl_D h1) (lay_D h1) rfl (bk_k (h1).1) (nf_int _) dX4_beginAsking_22 ?_
  refine i_aload_n hC dX4_beginAsking_25 rfl ?_
  refine i_dup hC dX4_beginAsking_26 rfl ?_
  refine i_getI hC fl_X4_102 (pl_D h1) (lay_D h1) rfl dX4_beginAsking_27 ?_
  refine i_iconst hC dX4_beginAsking_30 li_1 ?_
  refine i_iadd hC dX4_beginAsking_31 ?_
  refine i_putI hC fl_X4_102 (pl_D h1) (lay_D h1) rfl (bk_k (h1).1) (nf_int _) dX4_beginAsking_32 ?_
  refine i_aload_n hC dX4_beginAsking_35 rfl ?_
  refine i_dup hC dX4_beginAsking_36 rfl ?_
  refine i_getI hC fl_X4_29 (pl_R h0) (lay_R h0) rfl dX4_beginAsking_37 ?_
  refine i_iconst hC dX4_beginAsking_40 li_1 ?_
  refine i_iadd hC dX4_beginAsking_41 ?_
  refine i_putI hC fl_X4_29 (pl_R h0) (lay_R h0) rfl (bk_k h0) (nf_int _) dX4_beginAsking_42 ?_
  refine i_aload_n hC dX4_beginAsking_45 rfl ?_
  refine i_dup hC dX4_beginAsking_46 rfl ?_
  refine i_getI hC fl_X4_44 (pl_R h0) (lay_R h0) rfl dX4_beginAsking_47 ?_
  refine i_iconst hC dX4_beginAsking_50 li_1 ?_
  refine i_iadd hC dX4_beginAsking_51 ?_
  refine i_putI hC fl_X4_44 (pl_R h0) (lay_R h0) rfl (bk_k h0) (nf_int _) dX4_beginAsking_52 ?_
  obtain rfl := Option.some.inj hf
  exact i_vret hC dX4_beginAsking_55
theorem c_X4_beginAsking {v : EV} {l : Launch} (hst : Stb v) {S : Mem} {d0_0 d1_0 d1_1 : Nat} {x2 : Int32} (h0 : d0_0 < 11) (h1 : d1_0 < 11 ∧ d1_1 < 5) {r : Mem} (hf : g_X4_beginAsking S d0_0 d1_0 d1_1 x2 = some r) : Con v l yX4_beginAsking cX4_beginAsking 3 none 1 12 [.ref (eA v (pR d0_0)), .ref (eA v (pD d1_0 d1_1)), .int x2] S (none) r := con_of (by decide) hst (Nat.le_of_ble_eq_true rfl) (fun p e s m args below meth c hC => b_X4_beginAsking_0 hC h0 h1 hf)
