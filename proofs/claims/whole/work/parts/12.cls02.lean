def f_X4_countAskingAhead_90 (ih15 : (Int32 × Int32) → Option (Int32)) (S : Mem) (d0_0 : Nat) (x1 : Int32) (x2 : Int32) (x3 : Int32) (x4 : Int32) : Option (Int32) := ih15 (x2, (x4 + (1 : Int32)))
def f_X4_countAskingAhead_67 (ih15 : (Int32 × Int32) → Option (Int32)) (S : Mem) (d0_0 : Nat) (x1 : Int32) (x2 : Int32) (x3 : Int32) (x4 : Int32) (xt0 : Int32) : Option (Int32) := ck (inb x4 5) (bd1 (g_X2_isWaiting S d0_0 (x4).toNatClampNeg) (fun r9 => (if r9 = 0 then f_X4_countAskingAhead_90 ih15 S d0_0 x1 x2 x3 x4 else (if xt0 = 0 then f_X4_countAskingAhead_90 ih15 S d0_0 x1 x2 x3 x4 else f_X4_countAskingAhead_90 ih15 S d0_0 x1 (x2 + (1 : Int32)) x3 x4))))
def f_X4_countAskingAhead_15_b (ih15 : (Int32 × Int32) → Option (Int32)) (S : Mem) (d0_0 : Nat) (x1 : Int32) (x2 : Int32) (x3 : Int32) (x4 : Int32) : Option (Int32) := (if (S d0_0 1) ≤ x4 then some x2 else ck (inb x4 5) (bd1 (g_X2_beatsLeft S d0_0 (x4).toNatClampNeg) (fun r5 => (if r5 = x3 then (if x1 ≤ x4 then f_X4_countAskingAhead_67 ih15 S d0_0 x1 x2 x3 x4 (0 : Int32) else f_X4_countAskingAhead_67 ih15 S d0_0 x1 x2 x3 x4 (1 : Int32)) else (if x3 ≤ r5 then f_X4_countAskingAhead_67 ih15 S d0_0 x1 x2 x3 x4 (0 : Int32) else f_X4_countAskingAhead_67 ih15 S d0_0 x1 x2 x3 x4 (1 : Int32))))))
def f_X4_countAskingAhead_15 (S : Mem) (d0_0 : Nat) (x1 : Int32) (x2 : Int32) (x3 : Int32) (x4 : Int32) : Option (Int32) := lp (fun ih15 s9 => f_X4_countAskingAhead_15_b ih15 S d0_0 x1 s9.1 x3 s9.2) 2000 (x2, x4)
def f_X4_countAskingAhead_0 (S : Mem) (d0_0 : Nat) (x1 : Int32) : Option (Int32) := ck (inb x1 5) (bd1 (g_X2_beatsLeft S d0_0 (x1).toNatClampNeg) (fun r2 => f_X4_countAskingAhead_15 S d0_0 x1 (0 : Int32) r2 (0 : Int32)))
def g_X4_countAskingAhead (S : Mem) (d0_0 : Nat) (x1 : Int32) : Option (Int32) := f_X4_countAskingAhead_0 S d0_0 x1
set_option maxHeartbeats 4000000 in
set_option maxRecDepth 100000 in
theorem b_X4_countAskingAhead_90 {v : EV} {p : Program} {l : Launch} {e : Env} {s : State} {m : MethodId} {args : Array Value} {below : List Frame} {meth : Method} {c : Code} (hC : Cx v p l e s m args meth c RX4 cX4_countAskingAhead 7 (some .int)) {S : Mem} {d0_0 : Nat} {x1 : Int32} {x2 : Int32} {x3 : Int32} {x4 : Int32} (h0 : d0_0 < 11) {r : Int32} {ih15 : (Int32 × Int32) → Option (Int32)} (hih15 : ∀ s9 : (Int32 × Int32), ih15 s9 = some r → Mj v p l e (rmF 2 32) s m args below meth c 7 (MQ below (Qc v (some (.int r)) S) args s 0 0 (eG v)) 0 S 15 [(0, .ref (eA v (pR d0_0))), (1, .int x1), (2, .int (s9.1)), (3, .int x3), (4, .int (s9.2))] []) (hf : f_X4_countAskingAhead_90 ih15 S d0_0 x1 x2 x3 x4 = some r) : Mj v p l e (rmF 2 32) s m args below meth c 7 (MQ below (Qc v (some (.int r)) S) args s 0 0 (eG v)) 0 S 90 [(0, .ref (eA v (pR d0_0))), (1, .int x1), (2, .int x2), (3, .int x3), (4, .int x4)] [] := by
  refine i_iinc hC dX4_countAskingAhead_90 rfl li_1 (by decide) ?_
  refine i_goto hC (tgt := 15) dX4_countAskingAhead_93 (by decide) ?_
  exact Mj.to (hih15 _ hf) ⟨rfl, rfl, rfl, rfl, rfl, trivial⟩
set_option maxHeartbeats 4000000 in
set_option maxRecDepth 100000 in
theorem b_X4_countAskingAhead_67 {v : EV} {p : Program} {l : Launch} {e : Env} {s : State} {m : MethodId} {args : Array Value} {below : List Frame} {meth : Method} {c : Code} (hC : Cx v p l e s m args meth c RX4 cX4_countAskingAhead 7 (some .int)) {S : Mem} {d0_0 : Nat} {x1 : Int32} {x2 : Int32} {x3 : Int32} {x4 : Int32} {xt0 : Int32} (h0 : d0_0 < 11) {r : Int32} {ih15 : (Int32 × Int32) → Option (Int32)} (hih15 : ∀ s9 : (Int32 × Int32), ih15 s9 = some r → Mj v p l e (rmF 2 32) s m args below meth c 7 (MQ below (Qc v (some (.int r)) S) args s 0 0 (eG v)) 0 S 15 [(0, .ref (eA v (pR d0_0))), (1, .int x1), (2, .int (s9.1)), (3, .int x3), (4, .int (s9.2))] []) (hf : f_X4_countAskingAhead_67 ih15 S d0_0 x1 x2 x3 x4 xt0 = some r) : Mj v p l e (rmF 2 32) s m args below meth c 7 (MQ below (Qc v (some (.int r)) S) args s 0 0 (eG v)) 0 S 67 [(0, .ref (eA v (pR d0_0))), (1, .int x1), (2, .int x2), (3, .int x3), (4, .int x4)] [.int xt0] := by
  refine i_istore hC dX4_countAskingAhead_67 (by decide) ?_
  refine i_aload_n hC dX4_countAskingAhead_69 rfl ?_
  refine i_getR hC fl_X4_11 (pl_R h0) (lay_R h0) rfl dX4_countAskingAhead_70 ?_
  refine i_iload hC dX4_countAskingAhead_73 rfl ?_
  obtain ⟨k8, hf⟩ := ck_of hf
  refine i_aald hC (pl_AD h0) (lay_AD h0) (by decide) (inb_in k8) dX4_countAskingAhead_75 ?_
  obtain ⟨r9, hc9, hf⟩ := bd1_of hf
  refine i_callVi hC mv_X4_149 (c_X2_isWaiting hC.2.2.2.2.2.2.2.1 ⟨h0, inb_lt k8⟩ hc9) (pl_D ⟨h0, inb_lt k8⟩) (lay_D ⟨h0, inb_lt k8⟩) rfl rfl rfl rfl ⟨Nat.le_of_ble_eq_true rfl, Nat.le_of_ble_eq_true rfl⟩ (Nat.le_of_ble_eq_true rfl) dX4_countAskingAhead_76 ?_
  refine i_if_eq hC (tgt := 90) dX4_countAskingAhead_79 (by decide) (fun c10 => ?_) (fun c10 => ?_)
  · replace hf := (if_pos c10).symm.trans hf
    exact Mj.to (b_X4_countAskingAhead_90 hC h0 hih15 hf) ⟨rfl, rfl, rfl, rfl, rfl, trivial⟩
  · replace hf := (if_neg c10).symm.trans hf
    refine i_iload hC dX4_countAskingAhead_82 rfl ?_
    refine i_if_eq hC (tgt := 90) dX4_countAskingAhead_84 (by decide) (fun c11 => ?_) (fun c11 => ?_)
    · replace hf := (if_pos c11).symm.trans hf
      exact Mj.to (b_X4_countAskingAhead_90 hC h0 hih15 hf) ⟨rfl, rfl, rfl, rfl, rfl, trivial⟩
    · replace hf := (if_neg c11).symm.trans hf
      refine i_iinc hC dX4_countAskingAhead_87 rfl li_1 (by decide) ?_
      exact Mj.to (b_X4_countAskingAhead_90 hC h0 hih15 hf) ⟨rfl, rfl, rfl, rfl, rfl, trivial⟩
set_option maxHeartbeats 4000000 in
set_option maxRecDepth 100000 in
theorem b_X4_countAskingAhead_15_b {v : EV} {p : Program} {l : Launch} {e : Env} {s : State} {m : MethodId} {args : Array Value} {below : List Frame} {meth : Method} {c : Code} (hC : Cx v p l e s m args meth c RX4 cX4_countAskingAhead 7 (some .int)) {S : Mem} {d0_0 : Nat} {x1 : Int32} {x2 : Int32} {x3 : Int32} {x4 : Int32} (h0 : d0_0 < 11) {r : Int32} {ih15 : (Int32 × Int32) → Option (Int32)} (hih15 : ∀ s9 : (Int32 × Int32), ih15 s9 = some r → Mj v p l e (rmF 2 32) s m args below meth c 7 (MQ below (Qc v (some (.int r)) S) args s 0 0 (eG v)) 0 S 15 [(0, .ref (eA v (pR d0_0))), (1, .int x1), (2, .int (s9.1)), (3, .int x3), (4, .int (s9.2))] []) (hf : f_X4_countAskingAhead_15_b ih15 S d0_0 x1 x2 x3 x4 = some r) : Mj v p l e (rmF 2 32) s m args below meth c 7 (MQ below (Qc v (some (.int r)) S) args s 0 0 (eG v)) 0 S 15 [(0, .ref (eA v (pR d0_0))), (1, .int x1), (2, .int x2), (3, .int x3), (4, .int x4)] [] := by
  refine i_iload hC dX4_countAskingAhead_15 rfl ?_
  refine i_aload_n hC dX4_countAskingAhead_17 rfl ?_
  refine i_getI hC fl_X4_22 (pl_R h0) (lay_R h0) rfl dX4_countAskingAhead_18 ?_
  refine i_icmp_ge hC (tgt := 96) dX4_countAskingAhead_21 (by decide) (fun c3 => ?_) (fun c3 => ?_)
  · replace hf := (if_pos c3).symm.trans hf
    refine i_iload_n hC dX4_countAskingAhead_96 rfl ?_
    obtain rfl := Option.some.inj hf
    exact i_iret hC dX4_countAskingAhead_97
  · replace hf := (if_neg c3).symm.trans hf
    refine i_aload_n hC dX4_countAskingAhead_24 rfl ?_
    refine i_getR hC fl_X4_11 (pl_R h0) (lay_R h0) rfl dX4_countAskingAhead_25 ?_
    refine i_iload hC dX4_countAskingAhead_28 rfl ?_
    obtain ⟨k4, hf⟩ := ck_of hf
    refine i_aald hC (pl_AD h0) (lay_AD h0) (by decide) (inb_in k4) dX4_countAskingAhead_30 ?_
    obtain ⟨r5, hc5, hf⟩ := bd1_of hf
    refine i_callVi hC mv_X4_145 (c_X2_beatsLeft hC.2.2.2.2.2.2.2.1 ⟨h0, inb_lt k4⟩ hc5) (pl_D ⟨h0, inb_lt k4⟩) (lay_D ⟨h0, inb_lt k4⟩) rfl rfl rfl rfl ⟨Nat.le_of_ble_eq_true rfl, Nat.le_of_ble_eq_true rfl⟩ (Nat.le_of_ble_eq_true rfl) dX4_countAskingAhead_31 ?_
    refine i_istore hC dX4_countAskingAhead_34 (by decide) ?_
    refine i_iload hC dX4_countAskingAhead_36 rfl ?_
    refine i_iload_n hC dX4_countAskingAhead_38 rfl ?_
    refine i_icmp_ne hC (tgt := 56) dX4_countAskingAhead_39 (by decide) (fun c6 => ?_) (fun c6 => ?_)
    · replace hf := (if_neg c6).symm.trans hf
      refine i_iload hC dX4_countAskingAhead_56 rfl ?_
      refine i_iload_n hC dX4_countAskingAhead_58 rfl ?_
      refine i_icmp_ge hC (tgt := 66) dX4_countAskingAhead_59 (by decide) (fun c7 => ?_) (fun c7 => ?_)
      · replace hf := (if_pos c7).symm.trans hf
        refine i_iconst hC dX4_countAskingAhead_66 li_0 ?_
        exact Mj.to (b_X4_countAskingAhead_67 hC h0 hih15 hf) ⟨rfl, rfl, rfl, rfl, rfl, trivial⟩
      · replace hf := (if_neg c7).symm.trans hf
        refine i_iconst hC dX4_countAskingAhead_62 li_1 ?_
        refine i_goto hC (tgt := 67) dX4_countAskingAhead_63 (by decide) ?_
        exact Mj.to (b_X4_countAskingAhead_67 hC h0 hih15 hf) ⟨rfl, rfl, rfl, rfl, rfl, trivial⟩
    · replace hf := (if_pos c6).symm.trans hf
      refine i_iload hC dX4_countAskingAhead_42 rfl ?_
      refine i_iload_n hC dX4_countAskingAhead_44 rfl ?_
      refine i_icmp_ge hC (tgt := 52) dX4_countAskingAhead_45 (by decide) (fun c12 => ?_) (fun c12 => ?_)
      · replace hf := (if_pos c12).symm.trans hf
        refine i_iconst hC dX4_countAskingAhead_52 li_0 ?_
        refine i_goto hC (tgt := 67) dX4_countAskingAhead_53 (by decide) ?_
        exact Mj.to (b_X4_countAskingAhead_67 hC h0 hih15 hf) ⟨rfl, rfl, rfl, rfl, rfl, trivial⟩
      · replace hf := (if_neg c12).symm.trans hf
        refine i_iconst hC dX4_countAskingAhead_48 li_1 ?_
        refine i_goto hC (tgt := 67) dX4_countAskingAhead_49 (by decide) ?_
        exact Mj.to (b_X4_countAskingAhead_67 hC h0 hih15 hf) ⟨rfl, rfl, rfl, rfl, rfl, trivial⟩
theorem b_X4_countAskingAhead_15 {v : EV} {p : Program} {l : Launch} {e : Env} {s : State} {m : MethodId} {args : Array Value} {below : List Frame} {meth : Method} {c : Code} (hC : Cx v p l e s m args meth c RX4 cX4_countAskingAhead 7 (some .int)) {S : Mem} {d0_0 : Nat} {x1 : Int32} {x2 : Int32} {x3 : Int32} {x4 : Int32} (h0 : d0_0 < 11) {r : Int32} (hf : f_X4_countAskingAhead_15 S d0_0 x1 x2 x3 x4 = some r) : Mj v p l e (rmF 2 32) s m args below meth c 7 (MQ below (Qc v (some (.int r)) S) args s 0 0 (eG v)) 0 S 15 [(0, .ref (eA v (pR d0_0))), (1, .int x1), (2, .int x2), (3, .int x3), (4, .int x4)] [] :=
  lp_ind (P := fun s9 : (Int32 × Int32) => Mj v p l e (rmF 2 32) s m args below meth c 7 (MQ below (Qc v (some (.int r)) S) args s 0 0 (eG v)) 0 S 15 [(0, .ref (eA v (pR d0_0))), (1, .int x1), (2, .int (s9.1)), (3, .int x3), (4, .int (s9.2))] []) (fun ih s9 hih hf => b_X4_countAskingAhead_15_b hC h0  hih hf) _ _ hf
set_option maxHeartbeats 4000000 in
set_option maxRecDepth 100000 in
theorem b_X4_countAskingAhead_0 {v : EV} {p : Program} {l : Launch} {e : Env} {s : State} {m : MethodId} {args : Array Value} {below : List Frame} {meth : Method} {c : Code} (hC : Cx v p l e s m args meth c RX4 cX4_countAskingAhead 7 (some .int)) {S : Mem} {d0_0 : Nat} {x1 : Int32} (h0 : d0_0 < 11) {r : Int32} (hf : f_X4_countAskingAhead_0 S d0_0 x1 = some r) : Mj v p l e (rmF 2 32) s m args below meth c 7 (MQ below (Qc v (some (.int r)) S) args s 0 0 (eG v)) 0 S 0 [(0, .ref (eA v (pR d0_0))), (1, .int x1)] [] := by
  refine i_iconst hC dX4_countAskingAhead_0 li_0 ?_
  refine i_istore_n hC dX4_countAskingAhead_1 (by decide) ?_
  refine i_aload_n hC dX4_countAskingAhead_2 rfl ?_
  refine i_getR hC fl_X4_11 (pl_R h0) (lay_R h0) rfl dX4_countAskingAhead_3 ?_
  refine i_iload_n hC dX4_countAskingAhead_6 rfl ?_
  obtain ⟨k1, hf⟩ := ck_of hf
  refine i_aald hC (pl_AD h0) (lay_AD h0) (by decide) (inb_in k1) dX4_countAskingAhead_7 ?_
  obtain ⟨r2, hc2, hf⟩ := bd1_of hf
  refine i_callVi hC mv_X4_145 (c_X2_beatsLeft hC.2.2.2.2.2.2.2.1 ⟨h0, inb_lt k1⟩ hc2) (pl_D ⟨h0, inb_lt k1⟩) (lay_D ⟨h0, inb_lt k1⟩) rfl rfl rfl rfl ⟨Nat.le_of_ble_eq_true rfl, Nat.le_of_ble_eq_true rfl⟩ (Nat.le_of_ble_eq_true rfl) dX4_countAskingAhead_8 ?_
  refine i_istore_n hC dX4_countAskingAhead_11 (by decide) ?_
  refine i_iconst hC dX4_countAskingAhead_12 li_0 ?_
  refine i_istore hC dX4_countAskingAhead_13 (by decide) ?_
  exact Mj.to (b_X4_countAskingAhead_15 hC h0 hf) ⟨rfl, rfl, rfl, rfl, rfl, trivial⟩
theorem c_X4_countAskingAhead {v : EV} {l : Launch} (hst : Stb v) {S : Mem} {d0_0 : Nat} {x1 : Int32} (h0 : d0_0 < 11) {r : Int32} (hf : g_X4_countAskingAhead S d0_0 x1 = some r) : Con v l yX4_countAskingAhead cX4_countAskingAhead 7 (some .int) 2 32 [.ref (eA v (pR d0_0)), .int x1] S (some (.int r)) S := con_of (by decide) hst (Nat.le_of_ble_eq_true rfl) (fun p e s m args below meth c hC => b_X4_countAskingAhead_0 hC h0 hf)
def f_X4_hasVoteOf_39 (S : Mem) (xt0 : Int32) : Option (Int32) := ck (isb xt0) (some xt0)
def f_X4_hasVoteOf_38 (S : Mem)  : Option (Int32) := f_X4_hasVoteOf_39 S (0 : Int32)
def f_X4_hasVoteOf_0 (S : Mem) (d0_0 : Nat) (x1 : Int32) (x2 : Int32) : Option (Int32) := ck (inb x2 5) (ck (inb x1 5) ((if (S d0_0 (33 + 34 * (x2).toNatClampNeg + 1)) = (S d0_0 (33 + 34 * (x1).toNatClampNeg + 1)) then ck (inb x2 5) ((if (S d0_0 (33 + 34 * (x2).toNatClampNeg + 4)) = x1 then f_X4_hasVoteOf_39 S (1 : Int32) else f_X4_hasVoteOf_38 S)) else f_X4_hasVoteOf_38 S)))
def g_X4_hasVoteOf (S : Mem) (d0_0 : Nat) (x1 : Int32) (x2 : Int32) : Option (Int32) := f_X4_hasVoteOf_0 S d0_0 x1 x2
set_option maxHeartbeats 4000000 in
set_option maxRecDepth 100000 in
theorem b_X4_hasVoteOf_39 {v : EV} {p : Program} {l : Launch} {e : Env} {s : State} {m : MethodId} {args : Array Value} {below : List Frame} {meth : Method} {c : Code} (hC : Cx v p l e s m args meth c RX4 cX4_hasVoteOf 3 (some .boolean)) {S : Mem} {xt0 : Int32}  {r : Int32} (hf : f_X4_hasVoteOf_39 S xt0 = some r) : Mj v p l e (rmF 1 12) s m args below meth c 3 (MQ below (Qc v (some (.int r)) S) args s 0 0 (eG v)) 0 S 39 [] [.int xt0] := by
  obtain ⟨k4, hf⟩ := ck_of hf
  obtain rfl := Option.some.inj hf
  exact i_zret hC dX4_hasVoteOf_39 (isb_z k4).1
set_option maxHeartbeats 4000000 in
set_option maxRecDepth 100000 in
theorem b_X4_hasVoteOf_38 {v : EV} {p : Program} {l : Launch} {e : Env} {s : State} {m : MethodId} {args : Array Value} {below : List Frame} {meth : Method} {c : Code} (hC : Cx v p l e s m args meth c RX4 cX4_hasVoteOf 3 (some .boolean)) {S : Mem}  {r : Int32} (hf : f_X4_hasVoteOf_38 S = some r) : Mj v p l e (rmF 1 12) s m args below meth c 3 (MQ below (Qc v (some (.int r)) S) args s 0 0 (eG v)) 0 S 38 [] [] := by
  refine i_iconst hC dX4_hasVoteOf_38 li_0 ?_
  exact Mj.to (b_X4_hasVoteOf_39 hC  hf) trivial
set_option maxHeartbeats 4000000 in
set_option maxRecDepth 100000 in
theorem b_X4_hasVoteOf_0 {v : EV} {p : Program} {l : Launch} {e : Env} {s : State} {m : MethodId} {args : Array Value} {below : List Frame} {meth : Method} {c : Code} (hC : Cx v p l e s m args meth c RX4 cX4_hasVoteOf 3 (some .boolean)) {S : Mem} {d0_0 : Nat} {x1 : Int32} {x2 : Int32} (h0 : d0_0 < 11) {r : Int32} (hf : f_X4_hasVoteOf_0 S d0_0 x1 x2 = some r) : Mj v p l e (rmF 1 12) s m args below meth c 3 (MQ below (Qc v (some (.int r)) S) args s 0 0 (eG v)) 0 S 0 [(0, .ref (eA v (pR d0_0))), (1, .int x1), (2, .int x2)] [] := by
  refine i_aload_n hC dX4_hasVoteOf_0 rfl ?_
  refine i_getR hC fl_X4_11 (pl_R h0) (lay_R h0) rfl dX4_hasVoteOf_1 ?_
  refine i_iload_n hC dX4_hasVoteOf_4 rfl ?_
  obtain ⟨k1, hf⟩ := ck_of hf
  refine i_aald hC (pl_AD h0) (lay_AD h0) (by decide) (inb_in k1) dX4_hasVoteOf_5 ?_
  refine i_getI hC fl_X4_77 (pl_D ⟨h0, inb_lt k1⟩) (lay_D ⟨h0, inb_lt k1⟩) rfl dX4_hasVoteOf_6 ?_
  refine i_aload_n hC dX4_hasVoteOf_9 rfl ?_
  refine i_getR hC fl_X4_11 (pl_R h0) (lay_R h0) rfl dX4_hasVoteOf_10 ?_
  refine i_iload_n hC dX4_hasVoteOf_13 rfl ?_
  obtain ⟨k2, hf⟩ := ck_of hf
  refine i_aald hC (pl_AD h0) (lay_AD h0) (by decide) (inb_in k2) dX4_hasVoteOf_14 ?_
  refine i_getI hC fl_X4_77 (pl_D ⟨h0, inb_lt k2⟩) (lay_D ⟨h0, inb_lt k2⟩) rfl dX4_hasVoteOf_15 ?_
  refine i_icmp_ne hC (tgt := 38) dX4_hasVoteOf_18 (by decide) (fun c3 => ?_) (fun c3 => ?_)
  · replace hf := (if_neg c3).symm.trans hf
    exact Mj.to (b_X4_hasVoteOf_38 hC  hf) trivial
  · replace hf := (if_pos c3).symm.trans hf
    refine i_aload_n hC dX4_hasVoteOf_21 rfl ?_
    refine i_getR hC fl_X4_11 (pl_R h0) (lay_R h0) rfl dX4_hasVoteOf_22 ?_
    refine i_iload_n hC dX4_hasVoteOf_25 rfl ?_
    obtain ⟨k5, hf⟩ := ck_of hf
    refine i_aald hC (pl_AD h0) (lay_AD h0) (by decide) (inb_in k5) dX4_hasVoteOf_26 ?_
    refine i_getI hC fl_X4_96 (pl_D ⟨h0, inb_lt k5⟩) (lay_D ⟨h0, inb_lt k5⟩) rfl dX4_hasVoteOf_27 ?_
    refine i_iload_n hC dX4_hasVoteOf_30 rfl ?_
    refine i_icmp_ne hC (tgt := 38) dX4_hasVoteOf_31 (by decide) (fun c6 => ?_) (fun c6 => ?_)
    · replace hf := (if_neg c6).symm.trans hf
      exact Mj.to (b_X4_hasVoteOf_38 hC  hf) trivial
    · replace hf := (if_pos c6).symm.trans hf
      refine i_iconst hC dX4_hasVoteOf_34 li_1 ?_
      refine i_goto hC (tgt := 39) dX4_hasVoteOf_35 (by decide) ?_
      exact Mj.to (b_X4_hasVoteOf_39 hC  hf) trivial
theorem c_X4_hasVoteOf {v : EV} {l : Launch} (hst : Stb v) {S : Mem} {d0_0 : Nat} {x1 x2 : Int32} (h0 : d0_0 < 11) {r : Int32} (hf : g_X4_hasVoteOf S d0_0 x1 x2 = some r) : Con v l yX4_hasVoteOf cX4_hasVoteOf 3 (some .boolean) 1 12 [.ref (eA v (pR d0_0)), .int x1, .int x2] S (some (.int r)) S := con_of (by decide) hst (Nat.le_of_ble_eq_true rfl) (fun p e s m args below meth c hC => b_X4_hasVoteOf_0 hC h0 hf)
def f_X4_countLines_4_b (ih4 : (Int32 × Int32) → Option (Int32)) (S : Mem) (d0_0 : Nat) (x1 : Int32) (x2 : Int32) : Option (Int32) := (if (S d0_0 1) ≤ x2 then some x1 else ck (inb x2 5) (ih4 ((x1 + (S d0_0 (33 + 34 * (x2).toNatClampNeg + 5))), (x2 + (1 : Int32)))))
def f_X4_countLines_4 (S : Mem) (d0_0 : Nat) (x1 : Int32) (x2 : Int32) : Option (Int32) := lp (fun ih4 s9 => f_X4_countLines_4_b ih4 S d0_0 s9.1 s9.2) 2000 (x1, x2)
def f_X4_countLines_0 (S : Mem) (d0_0 : Nat) : Option (Int32) := f_X4_countLines_4 S d0_0 (0 : Int32) (0 : Int32)
def g_X4_countLines (S : Mem) (d0_0 : Nat) : Option (Int32) := f_X4_countLines_0 S d0_0
set_option maxHeartbeats 4000000 in
set_option maxRecDepth 100000 in
theorem b_X4_countLines_4_b {v : EV} {p : Program} {l : Launch} {e : Env} {s : State} {m : MethodId} {args : Array Value} {below : List Frame} {meth : Method} {c : Code} (hC : Cx v p l e s m args meth c RX4 cX4_countLines 3 (some .int)) {S : Mem} {d0_0 : Nat} {x1 : Int32} {x2 : Int32} (h0 : d0_0 < 11) {r : Int32} {ih4 : (Int32 × Int32) → Option (Int32)} (hih4 : ∀ s9 : (Int32 × Int32), ih4 s9 = some r → Mj v p l e (rmF 1 12) s m args below meth c 3 (MQ below (Qc v (some (.int r)) S) args s 0 0 (eG v)) 0 S 4 [(0, .ref (eA v (pR d0_0))), (1, .int (s9.1)), (2, .int (s9.2))] []) (hf : f_X4_countLines_4_b ih4 S d0_0 x1 x2 = some r) : Mj v p l e (rmF 1 12) s m args below meth c 3 (MQ below (Qc v (some (.int r)) S) args s 0 0 (eG v)) 0 S 4 [(0, .ref (eA v (pR d0_0))), (1, .int x1), (2, .int x2)] [] := by
  refine i_iload_n hC dX4_countLines_4 rfl ?_
  refine i_aload_n hC dX4_countLines_5 rfl ?_
  refine i_getI hC fl_X4_22 (pl_R h0) (lay_R h0) rfl dX4_countLines_6 ?_
  refine i_icmp_ge hC (tgt := 30) dX4_countLines_9 (by decide) (fun c1 => ?_) (fun c1 => ?_)
  · replace hf := (if_pos c1).symm.trans hf
    refine i_iload_n hC dX4_countLines_30 rfl ?_
    obtain rfl := Option.some.inj hf
    exact i_iret hC dX4_countLines_31
  · replace hf := (if_neg c1).symm.trans hf
    refine i_iload_n hC dX4_countLines_12 rfl ?_
    refine i_aload_n hC dX4_countLines_13 rfl ?_
    refine i_getR hC fl_X4_11 (pl_R h0) (lay_R h0) rfl dX4_countLines_14 ?_
    refine i_iload_n hC dX4_countLines_17 rfl ?_
    obtain ⟨k2, hf⟩ := ck_of hf
    refine i_aald hC (pl_AD h0) (lay_AD h0) (by decide) (inb_in k2) dX4_countLines_18 ?_
    refine i_getI hC fl_X4_55 (pl_D ⟨h0, inb_lt k2⟩) (lay_D ⟨h0, inb_lt k2⟩) rfl dX4_countLines_19 ?_
    refine i_iadd hC dX4_countLines_22 ?_
    refine i_istore_n hC dX4_countLines_23 (by decide) ?_
    refine i_iinc hC dX4_countLines_24 rfl li_1 (by decide) ?_
    refine i_goto hC (tgt := 4) dX4_countLines_27 (by decide) ?_
    exact Mj.to (hih4 _ hf) ⟨rfl, rfl, rfl, trivial⟩
theorem b_X4_countLines_4 {v : EV} {p : Program} {l : Launch} {e : Env} {s : State} {m : MethodId} {args : Array Value} {below : List Frame} {meth : Method} {c : Code} (hC : Cx v p l e s m args meth c RX4 cX4_countLines 3 (some .int)) {S : Mem} {d0_0 : Nat} {x1 : Int32} {x2 : Int32} (h0 : d0_0 < 11) {r : Int32} (hf : f_X4_countLines_4 S d0_0 x1 x2 = some r) : Mj v p l e (rmF 1 12) s m args below meth c 3 (MQ below (Qc v (some (.int r)) S) args s 0 0 (eG v)) 0 S 4 [(0, .ref (eA v (pR d0_0))), (1, .int x1), (2, .int x2)] [] :=
  lp_ind (P := fun s9 : (Int32 × Int32) => Mj v p l e (rmF 1 12) s m args below meth c 3 (MQ below (Qc v (some (.int r)) S) args s 0 0 (eG v)) 0 S 4 [(0, .ref (eA v (pR d0_0))), (1, .int (s9.1)), (2, .int (s9.2))] []) (fun ih s9 hih hf => b_X4_countLines_4_b hC h0  hih hf) _ _ hf
set_option maxHeartbeats 4000000 in
set_option maxRecDepth 100000 in
theorem b_X4_countLines_0 {v : EV} {p : Program} {l : Launch} {e : Env} {s : State} {m : MethodId} {args : Array Value} {below : List Frame} {meth : Method} {c : Code} (hC : Cx v p l e s m args meth c RX4 cX4_countLines 3 (some .int)) {S : Mem} {d0_0 : Nat} (h0 : d0_0 < 11) {r : Int32} (hf : f_X4_countLines_0 S d0_0 = some r) : Mj v p l e (rmF 1 12) s m args below meth c 3 (MQ below (Qc v (some (.int r)) S) args s 0 0 (eG v)) 0 S 0 [(0, .ref (eA v (pR d0_0)))] [] := by
  refine i_iconst hC dX4_countLines_0 li_0 ?_
  refine i_istore_n hC dX4_countLines_1 (by decide) ?_
  refine i_iconst hC dX4_countLines_2 li_0 ?_
  refine i_istore_n hC dX4_countLines_3 (by decide) ?_
  exact Mj.to (b_X4_countLines_4 hC h0 hf) ⟨rfl, rfl, rfl, trivial⟩
theorem c_X4_countLines {v : EV} {l : Launch} (hst : Stb v) {S : Mem} {d0_0 : Nat} (h0 : d0_0 < 11) {r : Int32} (hf : g_X4_countLines S d0_0 = some r) : Con v l yX4_countLines cX4_countLines 3 (some .int) 1 12 [.ref (eA v (pR d0_0))] S (some (.int r)) S := con_of (by decide) hst (Nat.le_of_ble_eq_true rfl) (fun p e s m args below meth c hC => b_X4_countLines_0 hC h0 hf)
def f_X4_countKnownLines_4_b (ih4 : (Int32 × Int32) → Option (Int32)) (S : Mem) (d0_0 : Nat) (x1 : Int32) (x2 : Int32) : Option (Int32) := (if (S d0_0 1) ≤ x2 then some x1 else ck (inb x2 5) (ih4 ((x1 + (S d0_0 (33 + 34 * (x2).toNatClampNeg + 6))), (x2 + (1 : Int32)))))
def f_X4_countKnownLines_4 (S : Mem) (d0_0 : Nat) (x1 : Int32) (x2 : Int32) : Option (Int32) := lp (fun ih4 s9 => f_X4_countKnownLines_4_b ih4 S d0_0 s9.1 s9.2) 2000 (x1, x2)
def f_X4_countKnownLines_0 (S : Mem) (d0_0 : Nat) : Option (Int32) := f_X4_countKnownLines_4 S d0_0 (0 : Int32) (0 : Int32)
def g_X4_countKnownLines (S : Mem) (d0_0 : Nat) : Option (Int32) := f_X4_countKnownLines_0 S d0_0
set_option maxHeartbeats 4000000 in
set_option maxRecDepth 100000 in
theorem b_X4_countKnownLines_4_b {v : EV} {p : Program} {l : Launch} {e : Env} {s : State} {m : MethodId} {args : Array Value} {below : List Frame} {meth : Method} {c : Code} (hC : Cx v p l e s m args meth c RX4 cX4_countKnownLines 3 (some .int)) {S : Mem} {d0_0 : Nat} {x1 : Int32} {x2 : Int32} (h0 : d0_0 < 11) {r : Int32} {ih4 : (Int32 × Int32) → Option (Int32)} (hih4 : ∀ s9 : (Int32 × Int32), ih4 s9 = some r → Mj v p l e (rmF 1 12) s m args below meth c 3 (MQ below (Qc v (some (.int r)) S) args s 0 0 (eG v)) 0 S 4 [(0, .ref (eA v (pR d0_0))), (1, .int (s9.1)), (2, .int (s9.2))] []) (hf : f_X4_countKnownLines_4_b ih4 S d0_0 x1 x2 = some r) : Mj v p l e (rmF 1 12) s m args below meth c 3 (MQ below (Qc v (some (.int r)) S) args s 0 0 (eG v)) 0 S 4 [(0, .ref (eA v (pR d0_0))), (1, .int x1), (2, .int x2)] [] := by
  refine i_iload_n hC dX4_countKnownLines_4 rfl ?_
  refine i_aload_n hC dX4_countKnownLines_5 rfl ?_
  refine i_getI hC fl_X4_22 (pl_R h0) (lay_R h0) rfl dX4_countKnownLines_6 ?_
  refine i_icmp_ge hC (tgt := 30) dX4_countKnownLines_9 (by decide) (fun c1 => ?_) (fun c1 => ?_)
  · replace hf := (if_pos c1).symm.trans hf
    refine i_iload_n hC dX4_countKnownLines_30 rfl ?_
    obtain rfl := Option.some.inj hf
    exact i_iret hC dX4_countKnownLines_31
  · replace hf := (if_neg c1).symm.trans hf
    refine i_iload_n hC dX4_countKnownLines_12 rfl ?_
    refine i_aload_n hC dX4_countKnownLines_13 rfl ?_
    refine i_getR hC fl_X4_11 (pl_R h0) (lay_R h0) rfl dX4_countKnownLines_14 ?_
    refine i_iload_n hC dX4_countKnownLines_17 rfl ?_
    obtain ⟨k2, hf⟩ := ck_of hf
    refine i_aald hC (pl_AD h0) (lay_AD h0) (by decide) (inb_in k2) dX4_countKnownLines_18 ?_
    refine i_getI hC fl_X4_152 (pl_D ⟨h0, inb_lt k2⟩) (lay_D ⟨h0, inb_lt k2⟩) rfl dX4_countKnownLines_19 ?_
    refine i_iadd hC dX4_countKnownLines_22 ?_
    refine i_istore_n hC dX4_countKnownLines_23 (by decide) ?_
    refine i_iinc hC dX4_countKnownLines_24 rfl li_1 (by decide) ?_
    refine i_goto hC (tgt := 4) dX4_countKnownLines_27 (by decide) ?_
    exact Mj.to (hih4 _ hf) ⟨rfl, rfl, rfl, trivial⟩
theorem b_X4_countKnownLines_4 {v : EV} {p : Program} {l : Launch} {e : Env} {s : State} {m : MethodId} {args : Array Value} {below : List Frame} {meth : Method} {c : Code} (hC : Cx v p l e s m args meth c RX4 cX4_countKnownLines 3 (some .int)) {S : Mem} {d0_0 : Nat} {x1 : Int32} {x2 : Int32} (h0 : d0_0 < 11) {r : Int32} (hf : f_X4_countKnownLines_4 S d0_0 x1 x2 = some r) : Mj v p l e (rmF 1 12) s m args below meth c 3 (MQ below (Qc v (some (.int r)) S) args s 0 0 (eG v)) 0 S 4 [(0, .ref (eA v (pR d0_0))), (1, .int x1), (2, .int x2)] [] :=
  lp_ind (P := fun s9 : (Int32 × Int32) => Mj v p l e (rmF 1 12) s m args below meth c 3 (MQ below (Qc v (some (.int r)) S) args s 0 0 (eG v)) 0 S 4 [(0, .ref (eA v (pR d0_0))), (1, .int (s9.1)), (2, .int (s9.2))] []) (fun ih s9 hih hf => b_X4_countKnownLines_4_b hC h0  hih hf) _ _ hf
set_option maxHeartbeats 4000000 in
set_option maxRecDepth 100000 in
theorem b_X4_countKnownLines_0 {v : EV} {p : Program} {l : Launch} {e : Env} {s : State} {m : MethodId} {args : Array Value} {below : List Frame} {meth : Method} {c : Code} (hC : Cx v p l e s m args meth c RX4 cX4_countKnownLines 3 (some .int)) {S : Mem} {d0_0 : Nat} (h0 : d0_0 < 11) {r : Int32} (hf : f_X4_countKnownLines_0 S d0_0 = some r) : Mj v p l e (rmF 1 12) s m args below meth c 3 (MQ below (Qc v (some (.int r)) S) args s 0 0 (eG v)) 0 S 0 [(0, .ref (eA v (pR d0_0)))] [] := by
  refine i_iconst hC dX4_countKnownLines_0 li_0 ?_
  refine i_istore_n hC dX4_countKnownLines_1 (by decide) ?_
  refine i_iconst hC dX4_countKnownLines_2 li_0 ?_
  refine i_istore_n hC dX4_countKnownLines_3 (by decide) ?_
  exact Mj.to (b_X4_countKnownLines_4 hC h0 hf) ⟨rfl, rfl, rfl, trivial⟩
theorem c_X4_countKnownLines {v : EV} {l : Launch} (hst : Stb v) {S : Mem} {d0_0 : Nat} (h0 : d0_0 < 11) {r : Int32} (hf : g_X4_countKnownLines S d0_0 = some r) : Con v l yX4_countKnownLines cX4_countKnownLines 3 (some .int) 1 12 [.ref (eA v (pR d0_0))] S (some (.int r)) S := con_of (by decide) hst (Nat.le_of_ble_eq_true rfl) (fun p e s m args below meth c hC => b_X4_countKnownLines_0 hC h0 hf)
def f_X4_greatestTerm_4_b (ih4 : (Int32 × Int32) → Option (Int32)) (S : Mem) (d0_0 : Nat) (x1 : Int32) (x2 : Int32) : Option (Int32) := (if (S d0_0 1) ≤ x2 then some x1 else ck (inb x2 5) (ih4 ((mx x1 (S d0_0 (33 + 34 * (x2).toNatClampNeg + 1))), (x2 + (1 : Int32)))))
def f_X4_greatestTerm_4 (S : Mem) (d0_0 : Nat) (x1 : Int32) (x2 : Int32) : Option (Int32) := lp (fun ih4 s9 => f_X4_greatestTerm_4_b ih4 S d0_0 s9.1 s9.2) 2000 (x1, x2)
def f_X4_greatestTerm_0 (S : Mem) (d0_0 : Nat) : Option (Int32) := f_X4_greatestTerm_4 S d0_0 (0 : Int32) (0 : Int32)
def g_X4_greatestTerm (S : Mem) (d0_0 : Nat) : Option (Int32) := f_X4_greatestTerm_0 S d0_0
set_option maxHeartbeats 4000000 in
set_option maxRecDepth 100000 in
theorem b_X4_greatestTerm_4_b {v : EV} {p : Program} {l : Launch} {e : Env} {s : State} {m : MethodId} {args : Array Value} {below : List Frame} {meth : Method} {c : Code} (hC : Cx v p l e s m args meth c RX4 cX4_greatestTerm 3 (some .int)) {S : Mem} {d0_0 : Nat} {x1 : Int32} {x2 : Int32} (h0 : d0_0 < 11) {r : Int32} {ih4 : (Int32 × Int32) → Option (Int32)} (hih4 : ∀ s9 : (Int32 × Int32), ih4 s9 = some r → Mj v p l e (rmF 1 21) s m args below meth c 3 (MQ below (Qc v (some (.int r)) S) args s 0 0 (eG v)) 0 S 4 [(0, .ref (eA v (pR d0_0))), (1, .int (s9.1)), (2, .int (s9.2))] []) (hf : f_X4_greatestTerm_4_b ih4 S d0_0 x1 x2 = some r) : Mj v p l e (rmF 1 21) s m args below meth c 3 (MQ below (Qc v (some (.int r)) S) args s 0 0 (eG v)) 0 S 4 [(0, .ref (eA v (pR d0_0))), (1, .int x1), (2, .int x2)] [] := by
  refine i_iload_n hC dX4_greatestTerm_4 rfl ?_
  refine i_aload_n hC dX4_greatestTerm_5 rfl ?_
  refine i_getI hC fl_X4_22 (pl_R h0) (lay_R h0) rfl dX4_greatestTerm_6 ?_
  refine i_icmp_ge hC (tgt := 32) dX4_greatestTerm_9 (by decide) (fun c1 => ?_) (fun c1 => ?_)
  · replace hf := (if_pos c1).symm.trans hf
    refine i_iload_n hC dX4_greatestTerm_32 rfl ?_
    obtain rfl := Option.some.inj hf
    exact i_iret hC dX4_greatestTerm_33
  · replace hf := (if_neg c1).symm.trans hf
    refine i_iload_n hC dX4_greatestTerm_12 rfl ?_
    refine i_aload_n hC dX4_greatestTerm_13 rfl ?_
    refine i_getR hC fl_X4_11 (pl_R h0) (lay_R h0) rfl dX4_greatestTerm_14 ?_
    refine i_iload_n hC dX4_greatestTerm_17 rfl ?_
    obtain ⟨k2, hf⟩ := ck_of hf
    refine i_aald hC (pl_AD h0) (lay_AD h0) (by decide) (inb_in k2) dX4_greatestTerm_18 ?_
    refine i_getI hC fl_X4_77 (pl_D ⟨h0, inb_lt k2⟩) (lay_D ⟨h0, inb_lt k2⟩) rfl dX4_greatestTerm_19 ?_
    refine i_mmax hC mw_1059 mw_420 mw_96 mw_421 ⟨Nat.le_of_ble_eq_true rfl, Nat.le_of_ble_eq_true rfl⟩ dX4_greatestTerm_22 ?_
    refine i_istore_n hC dX4_greatestTerm_25 (by decide) ?_
    refine i_iinc hC dX4_greatestTerm_26 rfl li_1 (by decide) ?_
    refine i_goto hC (tgt := 4) dX4_greatestTerm_29 (by decide) ?_
    exact Mj.to (hih4 _ hf) ⟨rfl, rfl, rfl, trivial⟩
theorem b_X4_greatestTerm_4 {v : EV} {p : Program} {l : Launch} {e : Env} {s : State} {m : MethodId} {args : Array Value} {below : List Frame} {meth : Method} {c : Code} (hC : Cx v p l e s m args meth c RX4 cX4_greatestTerm 3 (some .int)) {S : Mem} {d0_0 : Nat} {x1 : Int32} {x2 : Int32} (h0 : d0_0 < 11) {r : Int32} (hf : f_X4_greatestTerm_4 S d0_0 x1 x2 = some r) : Mj v p l e (rmF 1 21) s m args below meth c 3 (MQ below (Qc v (some (.int r)) S) args s 0 0 (eG v)) 0 S 4 [(0, .ref (eA v (pR d0_0))), (1, .int x1), (2, .int x2)] [] :=
  lp_ind (P := fun s9 : (Int32 × Int32) => Mj v p l e (rmF 1 21) s m args below meth c 3 (MQ below (Qc v (some (.int r)) S) args s 0 0 (eG v)) 0 S 4 [(0, .ref (eA v (pR d0_0))), (1, .int (s9.1)), (2, .int (s9.2))] []) (fun ih s9 hih hf => b_X4_greatestTerm_4_b hC h0  hih hf) _ _ hf
set_option maxHeartbeats 4000000 in
set_option maxRecDepth 100000 in
theorem b_X4_greatestTerm_0 {v : EV} {p : Program} {l : Launch} {e : Env} {s : State} {m : MethodId} {args : Array Value} {below : List Frame} {meth : Method} {c : Code} (hC : Cx v p l e s m args meth c RX4 cX4_greatestTerm 3 (some .int)) {S : Mem} {d0_0 : Nat} (h0 : d0_0 < 11) {r : Int32} (hf : f_X4_greatestTerm_0 S d0_0 = some r) : Mj v p l e (rmF 1 21) s m args below meth c 3 (MQ below (Qc v (some (.int r)) S) args s 0 0 (eG v)) 0 S 0 [(0, .ref (eA v (pR d0_0)))] [] := by
  refine i_iconst hC dX4_greatestTerm_0 li_0 ?_
  refine i_istore_n hC dX4_greatestTerm_1 (by decide) ?_
  refine i_iconst hC dX4_greatestTerm_2 li_0 ?_
  refine i_istore_n hC dX4_greatestTerm_3 (by decide) ?_
  exact Mj.to (b_X4_greatestTerm_4 hC h0 hf) ⟨rfl, rfl, rfl, trivial⟩
theorem c_X4_greatestTerm {v : EV} {l : Launch} (hst : Stb v) {S : Mem} {d0_0 : Nat} (h0 : d0_0 < 11) {r : Int32} (hf : g_X4_greatestTerm S d0_0 = some r) : Con v l yX4_greatestTerm cX4_greatestTerm 3 (some .int) 1 21 [.ref (eA v (pR d0_0))] S (some (.int r)) S := con_of (by decide) hst (Nat.le_of_ble_eq_true rfl) (fun p e s m args below meth c hC => b_X4_greatestTerm_0 hC h0 hf)
def f_X3_forget_0 (S : Mem)  : Option (Mem) := some (up S 11 3 (0 : Int32))
def g_X3_forget (S : Mem)  : Option (Mem) := f_X3_forget_0 S
set_option maxHeartbeats 4000000 in
set_option maxRecDepth 100000 in
theorem b_X3_forget_0 {v : EV} {p : Program} {l : Launch} {e : Env} {s : State} {m : MethodId} {args : Array Value} {below : List Frame} {meth : Method} {c : Code} (hC : Cx v p l e s m args meth c RX3 cX3_forget 1 none) {S : Mem}  {r : Mem} (hf : f_X3_forget_0 S = some r) : Mj v p l e (rmF 1 12) s m args below meth c 1 (MQ below (Qc v (none) r) args s 0 0 (eG v)) 0 S 0 [(0, .ref (eA v (199)))] [] := by
  refine i_aload_n hC dX3_forget_0 rfl ?_
  refine i_iconst hC dX3_forget_1 li_0 ?_
  refine i_putI hC fl_X3_26 (pln rfl) (lay_p199) rfl (bk_l ⟨rfl, rfl, rfl, rfl⟩) (nf_int _) dX3_forget_2 ?_
  obtain rfl := Option.some.inj hf
  exact i_vret hC dX3_forget_5
theorem c_X3_forget {v : EV} {l : Launch} (hst : Stb v) {S : Mem}  {r : Mem} (hf : g_X3_forget S = some r) : Con v l yX3_forget cX3_forget 1 none 1 12 [.ref (eA v (199))] S (none) r := con_of (by decide) hst (Nat.le_of_ble_eq_true rfl) (fun p e s m args below meth c hC => b_X3_forget_0 hC  hf)
def f_X5_put_0 (S : Mem) (x1 : Int32) (x2 : Int32) : Option (Mem) := some (up (up (up (up S 11 4 x1) 11 5 x2) 11 6 (0 : Int32)) 11 7 (0 : Int32))
def g_X5_put (S : Mem) (x1 : Int32) (x2 : Int32) : Option (Mem) := f_X5_put_0 S x1 x2
set_option maxHeartbeats 4000000 in
set_option maxRecDepth 100000 in
theorem b_X5_put_0 {v : EV} {p : Program} {l : Launch} {e : Env} {s : State} {m : MethodId} {args : Array Value} {below : List Frame} {meth : Method} {c : Code} (hC : Cx v p l e s m args meth c RX5 cX5_put 3 none) {S : Mem} {x1 : Int32} {x2 : Int32}  {r : Mem} (hf : f_X5_put_0 S x1 x2 = some r) : Mj v p l e (rmF 1 12) s m args below meth c 3 (MQ below (Qc v (none) r) args s 0 0 (eG v)) 0 S 0 [(0, .ref (eA v (201))), (1, .int x1), (2, .int x2)] [] := by
  refine i_aload_n hC dX5_put_0 rfl ?_
  refine i_iload_n hC dX5_put_1 rfl ?_
  refine i_putI hC fl_X5_7 (pln rfl) (lay_p201) rfl (bk_l ⟨rfl, rfl, rfl, rfl⟩) (nf_int _) dX5_put_2 ?_
  refine i_aload_n hC dX5_put_5 rfl ?_
  refine i_iload_n hC dX5_put_6 rfl ?_
  refine i_putI hC fl_X5_13 (pln rfl) (lay_p201) rfl (bk_l ⟨rfl, rfl, rfl, rfl⟩) (nf_int _) dX5_put_7 ?_
  refine i_aload_n hC dX5_put_10 rfl ?_
  refine i_iconst hC dX5_put_11 li_0 ?_
  refine i_putI hC fl_X5_16 (pln rfl) (lay_p201) rfl (bk_l ⟨rfl, rfl, rfl, rfl⟩) (nf_int _) dX5_put_12 ?_
  refine i_aload_n hC dX5_put_15 rfl ?_
  refine i_iconst hC dX5_put_16 li_0 ?_
  refine i_putI hC fl_X5_19 (pln rfl) (lay_p201) rfl (bk_l ⟨rfl, rfl, rfl, rfl⟩) (nf_int _) dX5_put_17 ?_
  obtain rfl := Option.some.inj hf
  exact i_vret hC dX5_put_20
theorem c_X5_put {v : EV} {l : Launch} (hst : Stb v) {S : Mem} {x1 x2 : Int32}  {r : Mem} (hf : g_X5_put S x1 x2 = some r) : Con v l yX5_put cX5_put 3 none 1 12 [.ref (eA v (201)), .int x1, .int x2] S (none) r := con_of (by decide) hst (Nat.le_of_ble_eq_true rfl) (fun p e s m args below meth c hC => b_X5_put_0 hC  hf)
def f_X5_putAhead_0 (S : Mem) (x1 : Int32) (x2 : Int32) : Option (Mem) := some (up (up (up (up S 11 6 (S 11 4)) 11 7 ((up S 11 6 (S 11 4)) 11 5)) 11 4 x1) 11 5 x2)
def g_X5_putAhead (S : Mem) (x1 : Int32) (x2 : Int32) : Option (Mem) := f_X5_putAhead_0 S x1 x2
set_option maxHeartbeats 4000000 in
set_option maxRecDepth 100000 in
theorem b_X5_putAhead_0 {v : EV} {p : Program} {l : Launch} {e : Env} {s : State} {m : MethodId} {args : Array Value} {below : List Frame} {meth : Method} {c : Code} (hC : Cx v p l e s m args meth c RX5 cX5_putAhead 3 none) {S : Mem} {x1 : Int32} {x2 : Int32}  {r : Mem} (hf : f_X5_putAhead_0 S x1 x2 = some r) : Mj v p l e (rmF 1 12) s m args below meth c 3 (MQ below (Qc v (none) r) args s 0 0 (eG v)) 0 S 0 [(0, .ref (eA v (201))), (1, .int x1), (2, .int x2)] [] := by
  refine i_aload_n hC dX5_putAhead_0 rfl ?_
  refine i_aload_n hC dX5_putAhead_1 rfl ?_
  refine i_getI hC fl_X5_7 (pln rfl) (lay_p201) rfl dX5_putAhead_2 ?_
  refine i_putI hC fl_X5_16 (pln rfl) (lay_p201) rfl (bk_l ⟨rfl, rfl, rfl, rfl⟩) (nf_int _) dX5_putAhead_5 ?_
  refine i_aload_n hC dX5_putAhead_8 rfl ?_
  refine i_aload_n hC dX5_putAhead_9 rfl ?_
  refine i_getI hC fl_X5_13 (pln rfl) (lay_p201) rfl dX5_putAhead_10 ?_
  refine i_putI hC fl_X5_19 (pln rfl) (lay_p201) rfl (bk_l ⟨rfl, rfl, rfl, rfl⟩) (nf_int _) dX5_putAhead_13 ?_
  refine i_aload_n hC dX5_putAhead_16 rfl ?_
  refine i_iload_n hC dX5_putAhead_17 rfl ?_
  refine i_putI hC fl_X5_7 (pln rfl) (lay_p201) rfl (bk_l ⟨rfl, rfl, rfl, rfl⟩) (nf_int _) dX5_putAhead_18 ?_
  refine i_aload_n hC dX5_putAhead_21 rfl ?_
  refine i_iload_n hC dX5_putAhead_22 rfl ?_
  refine i_putI hC fl_X5_13 (pln rfl) (lay_p201) rfl (bk_l ⟨rfl, rfl, rfl, rfl⟩) (nf_int _) dX5_putAhead_23 ?_
  obtain rfl := Option.some.inj hf
  exact i_vret hC dX5_putAhead_26
theorem c_X5_putAhead {v : EV} {l : Launch} (hst : Stb v) {S : Mem} {x1 x2 : Int32}  {r : Mem} (hf : g_X5_putAhead S x1 x2 = some r) : Con v l yX5_putAhead cX5_putAhead 3 none 1 12 [.ref (eA v (201)), .int x1, .int x2] S (none) r := con_of (by decide) hst (Nat.le_of_ble_eq_true rfl) (fun p e s m args below meth c hC => b_X5_putAhead_0 hC  hf)
def f_X8_clear_0 (S : Mem)  : Option (Int32 × Mem) := bd1 (g_X4_empty S 0) (fun S1 => bd1 (g_X3_forget S1) (fun S2 => some ((S 0 1), S2)))
def g_X8_clear (S : Mem)  : Option (Int32 × Mem) := f_X8_clear_0 S
set_option maxHeartbeats 4000000 in
set_option maxRecDepth 100000 in
theorem b_X8_clear_0 {v : EV} {p : Program} {l : Launch} {e : Env} {s : State} {m : MethodId} {args : Array Value} {below : List Frame} {meth : Method} {c : Code} (hC : Cx v p l e s m args meth c RX8 cX8_clear 2 (some .int)) {S : Mem}  {r : Int32 × Mem} (hf : f_X8_clear_0 S = some r) : Mj v p l e (rmF 2 33) s m args below meth c 2 (MQ below (Qc v (some (.int r.1)) r.2) args s 0 0 (eG v)) 0 S 0 [(0, .ref (eA v (198)))] [] := by
  refine i_aload_n hC dX8_clear_0 rfl ?_
  refine i_getR (x := pR 0) hC fl_X8_12 (pln rfl) (lay_p198) rfl dX8_clear_1 ?_
  refine i_getI hC fl_X8_54 (pl_R (by decide)) (lay_R (by decide)) rfl dX8_clear_4 ?_
  refine i_istore_n hC dX8_clear_7 (by decide) ?_
  refine i_aload_n hC dX8_clear_8 rfl ?_
  refine i_getR (x := pR 0) hC fl_X8_12 (pln rfl) (lay_p198) rfl dX8_clear_9 ?_
  obtain ⟨S1, hc1, hf⟩ := bd1_of hf
  refine i_callVv hC mv_X8_57 (c_X4_empty hC.2.2.2.2.2.2.2.1 (by decide) hc1) (pl_R (by decide)) (lay_R (by decide)) rfl rfl rfl rfl ⟨Nat.le_of_ble_eq_true rfl, Nat.le_of_ble_eq_true rfl⟩ (Nat.le_of_ble_eq_true rfl) dX8_clear_12 ?_
  refine i_aload_n hC dX8_clear_15 rfl ?_
  refine i_getR hC fl_X8_25 (pln rfl) (lay_p198) rfl dX8_clear_16 ?_
  obtain ⟨S2, hc2, hf⟩ := bd1_of hf
  refine i_callVv hC mv_X8_60 (c_X3_forget hC.2.2.2.2.2.2.2.1 hc2) (pln rfl) (lay_p199) rfl rfl rfl rfl ⟨Nat.le_of_ble_eq_true rfl, Nat.le_of_ble_eq_true rfl⟩ (Nat.le_of_ble_eq_true rfl) dX8_clear_19 ?_
  refine i_iload_n hC dX8_clear_22 rfl ?_
  obtain rfl := Option.some.inj hf
  exact i_iret hC dX8_clear_23
theorem c_X8_clear {v : EV} {l : Launch} (hst : Stb v) {S : Mem}  {r : Int32 × Mem} (hf : g_X8_clear S = some r) : Con v l yX8_clear cX8_clear 2 (some .int) 2 33 [.ref (eA v (198))] S (some (.int r.1)) r.2 := con_of (by decide) hst (Nat.le_of_ble_eq_true rfl) (fun p e s m args below meth c hC => b_X8_clear_0 hC  hf)
def f_X8_refuse_0 (S : Mem) (x1 : Int32) (x2 : Int32) : Option (Int32 × Mem) := bd1 (g_X5_put S x1 x2) (fun S1 => some ((-3 : Int32), S1))
def g_X8_refuse (S : Mem) (x1 : Int32) (x2 : Int32) : Option (Int32 × Mem) := f_X8_refuse_0 S x1 x2
set_option maxHeartbeats 4000000 in
set_option maxRecDepth 100000 in
theorem b_X8_refuse_0 {v : EV} {p : Program} {l : Launch} {e : Env} {s : State} {m : MethodId} {args : Array Value} {below : List Frame} {meth : Method} {c : Code} (hC : Cx v p l e s m args meth c RX8 cX8_refuse 3 (some .int)) {S : Mem} {x1 : Int32} {x2 : Int32}  {r : Int32 × Mem} (hf : f_X8_refuse_0 S x1 x2 = some r) : Mj v p l e (rmF 2 34) s m args below meth c 3 (MQ below (Qc v (some (.int r.1)) r.2) args s 0 0 (eG v)) 0 S 0 [(0, .ref (eA v (198))), (1, .int x1), (2, .int x2)] [] := by
  refine i_aload_n hC dX8_refuse_0 rfl ?_
  refine i_getR hC fl_X8_32 (pln rfl) (lay_p198) rfl dX8_refuse_1 ?_
  refine i_iload_n hC dX8_refuse_4 rfl ?_
  refine i_iload_n hC dX8_refuse_5 rfl ?_
  obtain ⟨S1, hc1, hf⟩ := bd1_of hf
  refine i_callVv hC mv_X8_245 (c_X5_put hC.2.2.2.2.2.2.2.1 hc1) (pln rfl) (lay_p201) rfl rfl rfl rfl ⟨Nat.le_of_ble_eq_true rfl, Nat.le_of_ble_eq_true rfl⟩ (Nat.le_of_ble_eq_true rfl) dX8_refuse_6 ?_
  refine i_bipush hC dX8_refuse_9 lb_m3 ?_
  obtain rfl := Option.some.inj hf
  exact i_iret hC dX8_refuse_11
theorem c_X8_refuse {v : EV} {l : Launch} (hst : Stb v) {S : Mem} {x1 x2 : Int32}  {r : Int32 × Mem} (hf : g_X8_refuse S x1 x2 = some r) : Con v l yX8_refuse cX8_refuse 3 (some .int) 2 34 [.ref (eA v (198)), .int x1, .int x2] S (some (.int r.1)) r.2 := con_of (by decide) hst (Nat.le_of_ble_eq_true rfl) (fun p e s m args below meth c hC => b_X8_refuse_0 hC  hf)
def f_X8_letShout_25 (S : Mem)  : Option (Int32 × Mem) := some ((-2 : Int32), S)
def f_X8_letShout_0 (S : Mem) (x1 : Int32) (x2 : Int32) : Option (Int32 × Mem) := bd1 (g_X4_has S 0 x1) (fun r1 => (if r1 = 0 then some ((-1 : Int32), S) else (if x2 < (97 : Int32) then f_X8_letShout_25 S else (if x2 ≤ (122 : Int32) then ck (inb x1 5) ((if (S 0 (33 + 34 * (x1).toNatClampNeg + 7)) = 0 then bd2 (g_X8_refuse S (2 : Int32) x1) (fun r12 S12 => some (r12, S12)) else (if (S 0 (33 + 34 * (x1).toNatClampNeg)) = (2 : Int32) then (if (S 0 (33 + 34 * (x1).toNatClampNeg + 5)) < (12 : Int32) then bd1 (g_X2_write (up S 0 4 ((S 0 4) + (1 : Int32))) 0 (x1).toNatClampNeg ((up S 0 4 ((S 0 4) + (1 : Int32))) 0 (33 + 34 * (x1).toNatClampNeg + 1)) ((x2.toUInt32 % 65536).toInt32)) (fun S9 => some ((S9 0 (33 + 34 * (x1).toNatClampNeg + 5)), S9)) else bd2 (g_X8_refuse S (1 : Int32) (12 : Int32)) (fun r10 S10 => some (r10, S10))) else bd2 (g_X8_refuse S (4 : Int32) (S 0 (33 + 34 * (x1).toNatClampNeg + 1))) (fun r11 S11 => some (r11, S11))))) else f_X8_letShout_25 S))))
def g_X8_letShout (S : Mem) (x1 : Int32) (x2 : Int32) : Option (Int32 × Mem) := f_X8_letShout_0 S x1 x2
set_option maxHeartbeats 4000000 in
set_option maxRecDepth 100000 in
theorem b_X8_letShout_25 {v : EV} {p : Program} {l : Launch} {e : Env} {s : State} {m : MethodId} {args : Array Value} {below : List Frame} {meth : Method} {c : Code} (hC : Cx v p l e s m args meth c RX8 cX8_letShout 4 (some .int)) {S : Mem}  {r : Int32 × Mem} (hf : f_X8_letShout_25 S = some r) : Mj v p l e (rmF 3 56) s m args below meth c 4 (MQ below (Qc v (some (.int r.1)) r.2) args s 0 0 (eG v)) 0 S 25 [] [] := by
  refine i_bipush hC dX8_letShout_25 lb_m2 ?_
  obtain rfl := Option.some.inj hf
  exact i_iret hC dX8_letShout_27
set_option maxHeartbeats 4000000 in
set_option maxRecDepth 100000 in
theorem b_X8_letShout_0 {v : EV} {p : Program} {l : Launch} {e : Env} {s : State} {m : MethodId} {args : Array Value} {below : List Frame} {meth : Method} {c : Code} (hC : Cx v p l e s m args meth c RX8 cX8_letShout 4 (some .int)) {S : Mem} {x1 : Int32} {x2 : Int32}  {r : Int32 × Mem} (hf : f_X8_letShout_0 S x1 x2 = some r) : Mj v p l e (rmF 3 56) s m args below meth c 4 (MQ below (Qc v (some (.int r.1)) r.2) args s 0 0 (eG v)) 0 S 0 [(0, .ref (eA v (198))), (1, .int x1), (2, .int x2)] [] := by
  refine i_aload_n hC dX8_letShout_0 rfl ?_
  refine i_getR (x := pR 0) hC fl_X8_12 (pln rfl) (lay_p198) rfl dX8_letShout_1 ?_
  refine i_iload_n hC dX8_letShout_4 rfl ?_
  obtain ⟨r1, hc1, hf⟩ := bd1_of hf
  refine i_callVi hC mv_X8_187 (c_X4_has hC.2.2.2.2.2.2.2.1 (by decide) hc1) (pl_R (by decide)) (lay_R (by decide)) rfl rfl rfl rfl ⟨Nat.le_of_ble_eq_true rfl, Nat.le_of_ble_eq_true rfl⟩ (Nat.le_of_ble_eq_true rfl) dX8_letShout_5 ?_
  refine i_if_ne hC (tgt := 13) dX8_letShout_8 (by decide) (fun c2 => ?_) (fun c2 => ?_)
  · replace hf := (if_neg c2).symm.trans hf
    refine i_iload_n hC dX8_letShout_13 rfl ?_
    refine i_bipush hC dX8_letShout_14 lb_97 ?_
    refine i_icmp_lt hC (tgt := 25) dX8_letShout_16 (by decide) (fun c3 => ?_) (fun c3 => ?_)
    · replace hf := (if_pos c3).symm.trans hf
      exact Mj.to (b_X8_letShout_25 hC  hf) trivial
    · replace hf := (if_neg c3).symm.trans hf
      refine i_iload_n hC dX8_letShout_19 rfl ?_
      refine i_bipush hC dX8_letShout_20 lb_122 ?_
      refine i_icmp_le hC (tgt := 28) dX8_letShout_22 (by decide) (fun c4 => ?_) (fun c4 => ?_)
      · replace hf := (if_pos c4).symm.trans hf
        refine i_aload_n hC dX8_letShout_28 rfl ?_
        refine i_getR (x := pR 0) hC fl_X8_12 (pln rfl) (lay_p198) rfl dX8_letShout_29 ?_
        refine i_getR hC fl_X8_191 (pl_R (by decide)) (lay_R (by decide)) rfl dX8_letShout_32 ?_
        refine i_iload_n hC dX8_letShout_35 rfl ?_
        obtain ⟨k5, hf⟩ := ck_of hf
        refine i_aald hC (pl_AD (by decide)) (lay_AD (by decide)) (by decide) (inb_in k5) dX8_letShout_36 ?_
        refine i_astore_n hC dX8_letShout_37 (by decide) ?_
        refine i_aload_n hC dX8_letShout_38 rfl ?_
        refine i_getI hC fl_X8_195 (pl_D ⟨(by decide), inb_lt k5⟩) (lay_D ⟨(by decide), inb_lt k5⟩) rfl dX8_letShout_39 ?_
        refine i_if_ne hC (tgt := 52) dX8_letShout_42 (by decide) (fun c6 => ?_) (fun c6 => ?_)
        · replace hf := (if_neg c6).symm.trans hf
          refine i_aload_n hC dX8_letShout_52 rfl ?_
          refine i_getI hC fl_X8_201 (pl_D ⟨(by decide), inb_lt k5⟩) (lay_D ⟨(by decide), inb_lt k5⟩) rfl dX8_letShout_53 ?_
          refine i_iconst hC dX8_letShout_56 li_2 ?_
          refine i_icmp_eq hC (tgt := 70) dX8_letShout_57 (by decide) (fun c7 => ?_) (fun c7 => ?_)
          · replace hf := (if_pos c7).symm.trans hf
            refine i_aload_n hC dX8_letShout_70 rfl ?_
            refine i_getI hC fl_X8_213 (pl_D ⟨(by decide), inb_lt k5⟩) (lay_D ⟨(by decide), inb_lt k5⟩) rfl dX8_letShout_71 ?_
            refine i_bipush hC dX8_letShout_74 lb_12 ?_
            refine i_icmp_lt hC (tgt := 87) dX8_letShout_76 (by decide) (fun c8 => ?_) (fun c8 => ?_)
            · replace hf := (if_pos c8).symm.trans hf
              refine i_aload_n hC dX8_letShout_87 rfl ?_
              refine i_getR (x := pR 0) hC fl_X8_12 (pln rfl) (lay_p198) rfl dX8_letShout_88 ?_
              refine i_dup hC dX8_letShout_91 rfl ?_
              refine i_getI hC fl_X8_216 (pl_R (by decide)) (lay_R (by decide)) rfl dX8_letShout_92 ?_
              refine i_iconst hC dX8_letShout_95 li_1 ?_
              refine i_iadd hC dX8_letShout_96 ?_
              refine i_putI hC fl_X8_216 (pl_R (by decide)) (lay_R (by decide)) rfl (bk_k (by decide)) (nf_int _) dX8_letShout_97 ?_
              refine i_aload_n hC dX8_letShout_100 rfl ?_
              refine i_aload_n hC dX8_letShout_101 rfl ?_
              refine i_getI hC fl_X8_204 (pl_D ⟨(by decide), inb_lt k5⟩) (lay_D ⟨(by decide), inb_lt k5⟩) rfl dX8_letShout_102 ?_
              refine i_iload_n hC dX8_letShout_105 rfl ?_
              refine i_i2c hC dX8_letShout_106 ?_
              obtain ⟨S9, hc9, hf⟩ := bd1_of hf
              refine i_callVv hC mv_X8_219 (c_X2_write hC.2.2.2.2.2.2.2.1 ⟨(by decide), inb_lt k5⟩ hc9) (pl_D ⟨(by decide), inb_lt k5⟩) (lay_D ⟨(by decide), inb_lt k5⟩) rfl rfl rfl rfl ⟨Nat.le_of_ble_eq_true rfl, Nat.le_of_ble_eq_true rfl⟩ (Nat.le_of_ble_eq_true rfl) dX8_letShout_107 ?_
              refine i_aload_n hC dX8_letShout_110 rfl ?_
              refine i_getI hC fl_X8_213 (pl_D ⟨(by decide), inb_lt k5⟩) (lay_D ⟨(by decide), inb_lt k5⟩) rfl dX8_letShout_111 ?_
              obtain rfl := Option.some.inj hf
              exact i_iret hC dX8_letShout_114
            · replace hf := (if_neg c8).symm.trans hf
              refine i_aload_n hC dX8_letShout_79 rfl ?_
              refine i_iconst hC dX8_letShout_80 li_1 ?_
              refine i_bipush hC dX8_letShout_81 lb_12 ?_
              obtain ⟨r10, S10, hc10, hf⟩ := bd2_of hf
              refine i_callVi hC mv_X8_181 (c_X8_refuse hC.2.2.2.2.2.2.2.1 hc10) (pln rfl) (lay_p198) rfl rfl rfl rfl ⟨Nat.le_of_ble_eq_true rfl, Nat.le_of_ble_eq_true rfl⟩ (Nat.le_of_ble_eq_true rfl) dX8_letShout_83 ?_
              obtain rfl := Option.some.inj hf
              exact i_iret hC dX8_letShout_86
          · replace hf := (if_neg c7).symm.trans hf
            refine i_aload_n hC dX8_letShout_60 rfl ?_
            refine i_iconst hC dX8_letShout_61 li_4 ?_
            refine i_aload_n hC dX8_letShout_62 rfl ?_
            refine i_getI hC fl_X8_204 (pl_D ⟨(by decide), inb_lt k5⟩) (lay_D ⟨(by decide), inb_lt k5⟩) rfl dX8_letShout_63 ?_
            obtain ⟨r11, S11, hc11, hf⟩ := bd2_of hf
            refine i_callVi hC mv_X8_181 (c_X8_refuse hC.2.2.2.2.2.2.2.1 hc11) (pln rfl) (lay_p198) rfl rfl rfl rfl ⟨Nat.le_of_ble_eq_true rfl, Nat.le_of_ble_eq_true rfl⟩ (Nat.le_of_ble_eq_true rfl) dX8_letShout_66 ?_
            obtain rfl := Option.some.inj hf
            exact i_iret hC dX8_letShout_69
        · replace hf := (if_pos c6).symm.trans hf
          refine i_aload_n hC dX8_letShout_45 rfl ?_
          refine i_iconst hC dX8_letShout_46 li_2 ?_
          refine i_iload_n hC dX8_letShout_47 rfl ?_
          obtain ⟨r12, S12, hc12, hf⟩ := bd2_of hf
          refine i_callVi hC mv_X8_181 (c_X8_refuse hC.2.2.2.2.2.2.2.1 hc12) (pln rfl) (lay_p198) rfl rfl rfl rfl ⟨Nat.le_of_ble_eq_true rfl, Nat.le_of_ble_eq_true rfl⟩ (Nat.le_of_ble_eq_true rfl) dX8_letShout_48 ?_
          obtain rfl := Option.some.inj hf
          exact i_iret hC dX8_letShout_51
      · replace hf := (if_neg c4).symm.trans hf
        exact Mj.to (b_X8_letShout_25 hC  hf) trivial
  · replace hf := (if_pos c2).symm.trans hf
    refine i_iconst hC dX8_letShout_11 li_m1 ?_
    obtain rfl := Option.some.inj hf
    exact i_iret hC dX8_letShout_12
theorem c_X8_letShout {v : EV} {l : Launch} (hst : Stb v) {S : Mem} {x1 x2 : Int32}  {r : Int32 × Mem} (hf : g_X8_letShout S x1 x2 = some r) : Con v l yX8_letShout cX8_letShout 4 (some .int) 3 56 [.ref (eA v (198)), .int x1, .int x2] S (some (.int r.1)) r.2 := con_of (by decide) hst (Nat.le_of_ble_eq_true rfl) (fun p e s m args below meth c hC => b_X8_letShout_0 hC  hf)
def f_X8_washAway_0 (S : Mem) (x1 : Int32) : Option (Int32 × Mem) := bd1 (g_X4_has S 0 x1) (fun r1 => (if r1 = 0 then some ((-1 : Int32), S) else ck (inb x1 5) ((if (S 0 (33 + 34 * (x1).toNatClampNeg + 7)) = 0 then bd2 (g_X8_refuse S (2 : Int32) x1) (fun r6 S6 => some (r6, S6)) else bd1 (g_X4_countAboard (up (up S 0 (33 + 34 * (x1).toNatClampNeg + 7) (0 : Int32)) 0 (33 + 34 * (x1).toNatClampNeg) (0 : Int32)) 0) (fun r5 => some (r5, (up (up S 0 (33 + 34 * (x1).toNatClampNeg + 7) (0 : Int32)) 0 (33 + 34 * (x1).toNatClampNeg) (0 : Int32))))))))
def g_X8_washAway (S : Mem) (x1 : Int32) : Option (Int32 × Mem) := f_X8_washAway_0 S x1
set_option maxHeartbeats 4000000 in
set_option maxRecDepth 100000 in
theorem b_X8_washAway_0 {v : EV} {p : Program} {l : Launch} {e : Env} {s : State} {m : MethodId} {args : Array Value} {below : List Frame} {meth : Method} {c : Code} (hC : Cx v p l e s m args meth c RX8 cX8_washAway 3 (some .int)) {S : Mem} {x1 : Int32}  {r : Int32 × Mem} (hf : f_X8_washAway_0 S x1 = some r) : Mj v p l e (rmF 3 56) s m args below meth c 3 (MQ below (Qc v (some (.int r.1)) r.2) args s 0 0 (eG v)) 0 S 0 [(0, .ref (eA v (198))), (1, .int x1)] [] := by
  refine i_aload_n hC dX8_washAway_0 rfl ?_
  refine i_getR (x := pR 0) hC fl_X8_12 (pln rfl) (lay_p198) rfl dX8_washAway_1 ?_
  refine i_iload_n hC dX8_washAway_4 rfl ?_
  obtain ⟨r1, hc1, hf⟩ := bd1_of hf
  refine i_callVi hC mv_X8_187 (c_X4_has hC.2.2.2.2.2.2.2.1 (by decide) hc1) (pl_R (by decide)) (lay_R (by decide)) rfl rfl rfl rfl ⟨Nat.le_of_ble_eq_true rfl, Nat.le_of_ble_eq_true rfl⟩ (Nat.le_of_ble_eq_true rfl) dX8_washAway_5 ?_
  refine i_if_ne hC (tgt := 13) dX8_washAway_8 (by decide) (fun c2 => ?_) (fun c2 => ?_)
  · replace hf := (if_neg c2).symm.trans hf
    refine i_aload_n hC dX8_washAway_13 rfl ?_
    refine i_getR (x := pR 0) hC fl_X8_12 (pln rfl) (lay_p198) rfl dX8_washAway_14 ?_
    refine i_getR hC fl_X8_191 (pl_R (by decide)) (lay_R (by decide)) rfl dX8_washAway_17 ?_
    refine i_iload_n hC dX8_washAway_20 rfl ?_
    obtain ⟨k3, hf⟩ := ck_of hf
    refine i_aald hC (pl_AD (by decide)) (lay_AD (by decide)) (by decide) (inb_in k3) dX8_washAway_21 ?_
    refine i_astore_n hC dX8_washAway_22 (by decide) ?_
    refine i_aload_n hC dX8_washAway_23 rfl ?_
    refine i_getI hC fl_X8_195 (pl_D ⟨(by decide), inb_lt k3⟩) (lay_D ⟨(by decide), inb_lt k3⟩) rfl dX8_washAway_24 ?_
    refine i_if_ne hC (tgt := 37) dX8_washAway_27 (by decide) (fun c4 => ?_) (fun c4 => ?_)
    · replace hf := (if_neg c4).symm.trans hf
      refine i_aload_n hC dX8_washAway_37 rfl ?_
      refine i_iconst hC dX8_washAway_38 li_0 ?_
      refine i_putI hC fl_X8_195 (pl_D ⟨(by decide), inb_lt k3⟩) (lay_D ⟨(by decide), inb_lt k3⟩) rfl (bk_k (by decide)) (isb_z (by decide)) dX8_washAway_39 ?_
      refine i_aload_n hC dX8_washAway_42 rfl ?_
      refine i_iconst hC dX8_washAway_43 li_0 ?_
      refine i_putI hC fl_X8_201 (pl_D ⟨(by decide), inb_lt k3⟩) (lay_D ⟨(by decide), inb_lt k3⟩) rfl (bk_k (by decide)) (nf_int _) dX8_washAway_44 ?_
      refine i_aload_n hC dX8_washAway_47 rfl ?_
      refine i_getR (x := pR 0) hC fl_X8_12 (pln rfl) (lay_p198) rfl dX8_washAway_48 ?_
      obtain ⟨r5, hc5, hf⟩ := bd1_of hf
      refine i_callVi hC mv_X8_223 (c_X4_countAboard hC.2.2.2.2.2.2.2.1 (by decide) hc5) (pl_R (by decide)) (lay_R (by decide)) rfl rfl rfl rfl ⟨Nat.le_of_ble_eq_true rfl, Nat.le_of_ble_eq_true rfl⟩ (Nat.le_of_ble_eq_true rfl) dX8_washAway_51 ?_
      obtain rfl := Option.some.inj hf
      exact i_iret hC dX8_washAway_54
    · replace hf := (if_pos c4).symm.trans hf
      refine i_aload_n hC dX8_washAway_30 rfl ?_
      refine i_iconst hC dX8_washAway_31 li_2 ?_
      refine i_iload_n hC dX8_washAway_32 rfl ?_
      obtain ⟨r6, S6, hc6, hf⟩ := bd2_of hf
      refine i_callVi hC mv_X8_181 (c_X8_refuse hC.2.2.2.2.2.2.2.1 hc6) (pln rfl) (lay_p198) rfl rfl rfl rfl ⟨Nat.le_of_ble_eq_true rfl, Nat.le_of_ble_eq_true rfl⟩ (Nat.le_of_ble_eq_true rfl) dX8_washAway_33 ?_
      obtain rfl := Option.some.inj hf
      exact i_iret hC dX8_washAway_36
  · replace hf := (if_pos c2).symm.trans hf
    refine i_iconst hC dX8_washAway_11 li_m1 ?_
    obtain rfl := Option.some.inj hf
    exact i_iret hC dX8_washAway_12
theorem c_X8_washAway {v : EV} {l : Launch} (hst : Stb v) {S : Mem} {x1 : Int32}  {r : Int32 × Mem} (hf : g_X8_washAway S x1 = some r) : Con v l yX8_washAway cX8_washAway 3 (some .int) 3 56 [.ref (eA v (198)), .int x1] S (some (.int r.1)) r.2 := con_of (by decide) hst (Nat.le_of_ble_eq_true rfl) (fun p e s m args below meth c hC => b_X8_washAway_0 hC  hf)
def f_X8_bringBack_0 (S : Mem) (x1 : Int32) : Option (Int32 × Mem) := bd1 (g_X4_has S 0 x1) (fun r1 => (if r1 = 0 then some ((-1 : Int32), S) else ck (inb x1 5) ((if (S 0 (33 + 34 * (x1).toNatClampNeg + 7)) = 0 then bd1 (g_X4_countAboard (up (up S 0 (33 + 34 * (x1).toNatClampNeg + 7) (1 : Int32)) 0 (33 + 34 * (x1).toNatClampNeg + 3) (0 : Int32)) 0) (fun r5 => some (r5, (up (up S 0 (33 + 34 * (x1).toNatClampNeg + 7) (1 : Int32)) 0 (33 + 34 * (x1).toNatClampNeg + 3) (0 : Int32)))) else bd2 (g_X8_refuse S (6 : Int32) x1) (fun r6 S6 => some (r6, S6))))))
def g_X8_bringBack (S : Mem) (x1 : Int32) : Option (Int32 × Mem) := f_X8_bringBack_0 S x1
set_option maxHeartbeats 4000000 in
set_option maxRecDepth 100000 in
theorem b_X8_bringBack_0 {v : EV} {p : Program} {l : Launch} {e : Env} {s : State} {m : MethodId} {args : Array Value} {below : List Frame} {meth : Method} {c : Code} (hC : Cx v p l e s m args meth c RX8 cX8_bringBack 3 (some .int)) {S : Mem} {x1 : Int32}  {r : Int32 × Mem} (hf : f_X8_bringBack_0 S x1 = some r) : Mj v p l e (rmF 3 56) s m args below meth c 3 (MQ below (Qc v (some (.int r.1)) r.2) args s 0 0 (eG v)) 0 S 0 [(0, .ref (eA v (198))), (1, .int x1)] [] := by
  refine i_aload_n hC dX8_bringBack_0 rfl ?_
  refine i_getR (x := pR 0) hC fl_X8_12 (pln rfl) (lay_p198) rfl dX8_bringBack_1 ?_
  refine i_iload_n hC dX8_bringBack_4 rfl ?_
  obtain ⟨r1, hc1, hf⟩ := bd1_of hf
  refine i_callVi hC mv_X8_187 (c_X4_has hC.2.2.2.2.2.2.2.1 (by decide) hc1) (pl_R (by decide)) (lay_R (by decide)) rfl rfl rfl rfl ⟨Nat.le_of_ble_eq_true rfl, Nat.le_of_ble_eq_true rfl⟩ (Nat.le_of_ble_eq_true rfl) dX8_bringBack_5 ?_
  refine i_if_ne hC (tgt := 13) dX8_bringBack_8 (by decide) (fun c2 => ?_) (fun c2 => ?_)
  · replace hf := (if_neg c2).symm.trans hf
    refine i_aload_n hC dX8_bringBack_13 rfl ?_
    refine i_getR (x := pR 0) hC fl_X8_12 (pln rfl) (lay_p198) rfl dX8_bringBack_14 ?_
    refine i_getR hC fl_X8_191 (pl_R (by decide)) (lay_R (by decide)) rfl dX8_bringBack_17 ?_
    refine i_iload_n hC dX8_bringBack_20 rfl ?_
    obtain ⟨k3, hf⟩ := ck_of hf
    refine i_aald hC (pl_AD (by decide)) (lay_AD (by decide)) (by decide) (inb_in k3) dX8_bringBack_21 ?_
    refine i_astore_n hC dX8_bringBack_22 (by decide) ?_
    refine i_aload_n hC dX8_bringBack_23 rfl ?_
    refine i_getI hC fl_X8_195 (pl_D ⟨(by decide), inb_lt k3⟩) (lay_D ⟨(by decide), inb_lt k3⟩) rfl dX8_bringBack_24 ?_
    refine i_if_eq hC (tgt := 38) dX8_bringBack_27 (by decide) (fun c4 => ?_) (fun c4 => ?_)
    · replace hf := (if_pos c4).symm.trans hf
      refine i_aload_n hC dX8_bringBack_38 rfl ?_
      refine i_iconst hC dX8_bringBack_39 li_1 ?_
      refine i_putI hC fl_X8_195 (pl_D ⟨(by decide), inb_lt k3⟩) (lay_D ⟨(by decide), inb_lt k3⟩) rfl (bk_k (by decide)) (isb_z (by decide)) dX8_bringBack_40 ?_
      refine i_aload_n hC dX8_bringBack_43 rfl ?_
      refine i_iconst hC dX8_bringBack_44 li_0 ?_
      refine i_putI hC fl_X8_226 (pl_D ⟨(by decide), inb_lt k3⟩) (lay_D ⟨(by decide), inb_lt k3⟩) rfl (bk_k (by decide)) (nf_int _) dX8_bringBack_45 ?_
      refine i_aload_n hC dX8_bringBack_48 rfl ?_
      refine i_getR (x := pR 0) hC fl_X8_12 (pln rfl) (lay_p198) rfl dX8_bringBack_49 ?_
      obtain ⟨r5, hc5, hf⟩ := bd1_of hf
      refine i_callVi hC mv_X8_223 (c_X4_countAboard hC.2.2.2.2.2.2.2.1 (by decide) hc5) (pl_R (by decide)) (lay_R (by decide)) rfl rfl rfl rfl ⟨Nat.le_of_ble_eq_true rfl, Nat.le_of_ble_eq_true rfl⟩ (Nat.le_of_ble_eq_true rfl) dX8_bringBack_52 ?_
      obtain rfl := Option.some.inj hf
      exact i_iret hC dX8_bringBack_55
    · replace hf := (if_neg c4).symm.trans hf
      refine i_aload_n hC dX8_bringBack_30 rfl ?_
      refine i_bipush hC dX8_bringBack_31 lb_6 ?_
      refine i_iload_n hC dX8_bringBack_33 rfl ?_
      obtain ⟨r6, S6, hc6, hf⟩ := bd2_of hf
      refine i_callVi hC mv_X8_181 (c_X8_refuse hC.2.2.2.2.2.2.2.1 hc6) (pln rfl) (lay_p198) rfl rfl rfl rfl ⟨Nat.le_of_ble_eq_true rfl, Nat.le_of_ble_eq_true rfl⟩ (Nat.le_of_ble_eq_true rfl) dX8_bringBack_34 ?_
      obtain rfl := Option.some.inj hf
      exact i_iret hC dX8_bringBack_37
  · replace hf := (if_pos c2).symm.trans hf
    refine i_iconst hC dX8_bringBack_11 li_m1 ?_
    obtain rfl := Option.some.inj hf
    exact i_iret hC dX8_bringBack_12
theorem c_X8_bringBack {v : EV} {l : Launch} (hst : Stb v) {S : Mem} {x1 : Int32}  {r : Int32 × Mem} (hf : g_X8_bringBack S x1 = some r) : Con v l yX8_bringBack cX8_bringBack 3 (some .int) 3 56 [.ref (eA v (198)), .int x1] S (some (.int r.1)) r.2 := con_of (by decide) hst (Nat.le_of_ble_eq_true rfl) (fun p e s m args below meth c hC => b_X8_bringBack_0 hC  hf)
def f_X8_changeRope_22 (S : Mem)  : Option (Int32 × Mem) := some ((-1 : Int32), S)
def f_X8_changeRope_0 (S : Mem) (x1 : Int32) (x2 : Int32) (x3 : Int32) : Option (Int32 × Mem) := bd1 (g_X4_has S 0 x1) (fun r1 => (if r1 = 0 then f_X8_changeRope_22 S else bd1 (g_X4_has S 0 x2) (fun r3 => (if r3 = 0 then f_X8_changeRope_22 S else (if x1 = x2 then bd2 (g_X8_refuse S (5 : Int32) x1) (fun r11 S11 => some (r11, S11)) else bd1 (g_X4_isRopeCut S 0 x1 x2) (fun r6 => (if r6 = x3 then bd2 (g_X8_refuse S (6 : Int32) (mx x1 x2)) (fun r10 S10 => some (r10, S10)) else bd1 (g_X4_setRope S 0 x1 x2 x3) (fun S8 => bd1 (g_X4_countCutRopes S8 0) (fun r9 => some (r9, S8))))))))))
def g_X8_changeRope (S : Mem) (x1 : Int32) (x2 : Int32) (x3 : Int32) : Option (Int32 × Mem) := f_X8_changeRope_0 S x1 x2 x3
set_option maxHeartbeats 4000000 in
set_option maxRecDepth 100000 in
theorem b_X8_changeRope_22 {v : EV} {p : Program} {l : Launch} {e : Env} {s : State} {m : MethodId} {args : Array Value} {below : List Frame} {meth : Method} {c : Code} (hC : Cx v p l e s m args meth c RX8 cX8_changeRope 4 (some .int)) {S : Mem}  {r : Int32 × Mem} (hf : f_X8_changeRope_22 S = some r) : Mj v p l e (rmF 3 56) s m args below meth c 4 (MQ below (Qc v (some (.int r.1)) r.2) args s 0 0 (eG v)) 0 S 22 [] [] := by
  refine i_iconst hC dX8_changeRope_22 li_m1 ?_
  obtain rfl := Option.some.inj hf
  exact i_iret hC dX8_changeRope_23
set_option maxHeartbeats 4000000 in
set_option maxRecDepth 100000 in
theorem b_X8_changeRope_0 {v : EV} {p : Program} {l : Launch} {e : Env} {s : State} {m : MethodId} {args : Array Value} {below : List Frame} {meth : Method} {c : Code} (hC : Cx v p l e s m args meth c RX8 cX8_changeRope 4 (some .int)) {S : Mem} {x1 : Int32} {x2 : Int32} {x3 : Int32}  {r : Int32 × Mem} (hf : f_X8_changeRope_0 S x1 x2 x3 = some r) : Mj v p l e (rmF 3 56) s m args below meth c 4 (MQ below (Qc v (some (.int r.1)) r.2) args s 0 0 (eG v)) 0 S 0 [(0, .ref (eA v (198))), (1, .int x1), (2, .int x2), (3, .int x3)] [] := by
  refine i_aload_n hC dX8_changeRope_0 rfl ?_
  refine i_getR (x := pR 0) hC fl_X8_12 (pln rfl) (lay_p198) rfl dX8_changeRope_1 ?_
  refine i_iload_n hC dX8_changeRope_4 rfl ?_
  obtain ⟨r1, hc1, hf⟩ := bd1_of hf
  refine i_callVi hC mv_X8_187 (c_X4_has hC.2.2.2.2.2.2.2.1 (by decide) hc1) (pl_R (by decide)) (lay_R (by decide)) rfl rfl rfl rfl ⟨Nat.le_of_ble_eq_true rfl, Nat.le_of_ble_eq_true rfl⟩ (Nat.le_of_ble_eq_true rfl) dX8_changeRope_5 ?_
  refine i_if_eq hC (tgt := 22) dX8_changeRope_8 (by decide) (fun c2 => ?_) (fun c2 => ?_)
  · replace hf := (if_pos c2).symm.trans hf
    exact Mj.to (b_X8_changeRope_22 hC  hf) trivial
  · replace hf := (if_neg c2).symm.trans hf
    refine i_aload_n hC dX8_changeRope_11 rfl ?_
    refine i_getR (x := pR 0) hC fl_X8_12 (pln rfl) (lay_p198) rfl dX8_changeRope_12 ?_
    refine i_iload_n hC dX8_changeRope_15 rfl ?_
    obtain ⟨r3, hc3, hf⟩ := bd1_of hf
    refine i_callVi hC mv_X8_187 (c_X4_has hC.2.2.2.2.2.2.2.1 (by decide) hc3) (pl_R (by decide)) (lay_R (by decide)) rfl rfl rfl rfl ⟨Nat.le_of_ble_eq_true rfl, Nat.le_of_ble_eq_true rfl⟩ (Nat.le_of_ble_eq_true rfl) dX8_changeRope_16 ?_
    refine i_if_ne hC (tgt := 24) dX8_changeRope_19 (by decide) (fun c4 => ?_) (fun c4 => ?_)
    · replace hf := (if_neg c4).symm.trans hf
      refine i_iload_n hC dX8_changeRope_24 rfl ?_
      refine i_iload_n hC dX8_changeRope_25 rfl ?_
      refine i_icmp_ne hC (tgt := 36) dX8_changeRope_26 (by decide) (fun c5 => ?_) (fun c5 => ?_)
      · replace hf := (if_neg c5).symm.trans hf
        refine i_aload_n hC dX8_changeRope_36 rfl ?_
        refine i_getR (x := pR 0) hC fl_X8_12 (pln rfl) (lay_p198) rfl dX8_changeRope_37 ?_
        refine i_iload_n hC dX8_changeRope_40 rfl ?_
        refine i_iload_n hC dX8_changeRope_41 rfl ?_
        obtain ⟨r6, hc6, hf⟩ := bd1_of hf
        refine i_callVi hC mv_X8_229 (c_X4_isRopeCut hC.2.2.2.2.2.2.2.1 (by decide) hc6) (pl_R (by decide)) (lay_R (by decide)) rfl rfl rfl rfl ⟨Nat.le_of_ble_eq_true rfl, Nat.le_of_ble_eq_true rfl⟩ (Nat.le_of_ble_eq_true rfl) dX8_changeRope_42 ?_
        refine i_iload_n hC dX8_changeRope_45 rfl ?_
        refine i_icmp_ne hC (tgt := 61) dX8_changeRope_46 (by decide) (fun c7 => ?_) (fun c7 => ?_)
        · replace hf := (if_neg c7).symm.trans hf
          refine i_aload_n hC dX8_changeRope_61 rfl ?_
          refine i_getR (x := pR 0) hC fl_X8_12 (pln rfl) (lay_p198) rfl dX8_changeRope_62 ?_
          refine i_iload_n hC dX8_changeRope_65 rfl ?_
          refine i_iload_n hC dX8_changeRope_66 rfl ?_
          refine i_iload_n hC dX8_changeRope_67 rfl ?_
          obtain ⟨S8, hc8, hf⟩ := bd1_of hf
          refine i_callVv hC mv_X8_238 (c_X4_setRope hC.2.2.2.2.2.2.2.1 (by decide) hc8) (pl_R (by decide)) (lay_R (by decide)) rfl rfl rfl rfl ⟨Nat.le_of_ble_eq_true rfl, Nat.le_of_ble_eq_true rfl⟩ (Nat.le_of_ble_eq_true rfl) dX8_changeRope_68 ?_
          refine i_aload_n hC dX8_changeRope_71 rfl ?_
          refine i_getR (x := pR 0) hC fl_X8_12 (pln rfl) (lay_p198) rfl dX8_changeRope_72 ?_
          obtain ⟨r9, hc9, hf⟩ := bd1_of hf
          refine i_callVi hC mv_X8_242 (c_X4_countCutRopes hC.2.2.2.2.2.2.2.1 (by decide) hc9) (pl_R (by decide)) (lay_R (by decide)) rfl rfl rfl rfl ⟨Nat.le_of_ble_eq_true rfl, Nat.le_of_ble_eq_true rfl⟩ (Nat.le_of_ble_eq_true rfl) dX8_changeRope_75 ?_
          obtain rfl := Option.some.inj hf
          exact i_iret hC dX8_changeRope_78
        · replace hf := (if_pos c7).symm.trans hf
          refine i_aload_n hC dX8_changeRope_49 rfl ?_
          refine i_bipush hC dX8_changeRope_50 lb_6 ?_
          refine i_iload_n hC dX8_changeRope_52 rfl ?_
          refine i_iload_n hC dX8_changeRope_53 rfl ?_
          refine i_mmax hC mw_642 mw_420 mw_96 mw_421 ⟨Nat.le_of_ble_eq_true rfl, Nat.le_of_ble_eq_true rfl⟩ dX8_changeRope_54 ?_
          obtain ⟨r10, S10, hc10, hf⟩ := bd2_of hf
          refine i_callVi hC mv_X8_181 (c_X8_refuse hC.2.2.2.2.2.2.2.1 hc10) (pln rfl) (lay_p198) rfl rfl rfl rfl ⟨Nat.le_of_ble_eq_true rfl, Nat.le_of_ble_eq_true rfl⟩ (Nat.le_of_ble_eq_true rfl) dX8_changeRope_57 ?_
          obtain rfl := Option.some.inj hf
          exact i_iret hC dX8_changeRope_60
      · replace hf := (if_pos c5).symm.trans hf
        refine i_aload_n hC dX8_changeRope_29 rfl ?_
        refine i_iconst hC dX8_changeRope_30 li_5 ?_
        refine i_iload_n hC dX8_changeRope_31 rfl ?_
        obtain ⟨r11, S11, hc11, hf⟩ := bd2_of hf
        refine i_callVi hC mv_X8_181 (c_X8_refuse hC.2.2.2.2.2.2.2.1 hc11) (pln rfl) (lay_p198) rfl rfl rfl rfl ⟨Nat.le_of_ble_eq_true rfl, Nat.le_of_ble_eq_true rfl⟩ (Nat.le_of_ble_eq_true rfl) dX8_changeRope_32 ?_
        obtain rfl := Option.some.inj hf
        exact i_iret hC dX8_changeRope_35
    · replace hf := (if_pos c4).symm.trans hf
      exact Mj.to (b_X8_changeRope_22 hC  hf) trivial
theorem c_X8_changeRope {v : EV} {l : Launch} (hst : Stb v) {S : Mem} {x1 x2 x3 : Int32}  {r : Int32 × Mem} (hf : g_X8_changeRope S x1 x2 x3 = some r) : Con v l yX8_changeRope cX8_changeRope 4 (some .int) 3 56 [.ref (eA v (198)), .int x1, .int x2, .int x3] S (some (.int r.1)) r.2 := con_of (by decide) hst (Nat.le_of_ble_eq_true rfl) (fun p e s m args below meth c hC => b_X8_changeRope_0 hC  hf)
